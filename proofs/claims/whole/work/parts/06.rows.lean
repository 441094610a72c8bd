/-! soundness of the evaluator -/
def mm_sc (sc : Option (Nat × (Nat → Int32))) (ad : Nat → Nat → Nat) (sz : Nat) (s : State) (M : mm_M) (H : Heap) : Prop := match sc with
  | none => True
  | some q => va_X (ad 999 0) q.1 q.2 s H ∧ ad 999 0 < sz ∧ M.2.2.2 999 0
def mm_h (g : mm_F) (D : va_G) (dA : FieldType → ClassId) (sz : Nat) (ad0 : Nat → Nat → Nat) (M0 : mm_M) (s : State) (M : mm_M) (ad : Nat → Nat → Nat) (H : Heap) (locs : List Loc) : Prop :=
  (g.2.2.2.1 = false → ad = ad0) ∧ (∀ f i, M0.2.2.2 f i → ad f i = ad0 f i ∧ M.2.2.2 f i) ∧ mm_R D dA sz ad M H ∧ mm_sc g.2.2.2.2.2.2.1 ad sz s M H ∧ va_S (fun q : Nat => sz ≤ q) s.heap H locs
def mm_ctx (p : Program) (s : State) (m : MethodId) (args : Array Value) (meth : Method) (c : Code) (R : Room) (g : mm_F) (cc : ByteArray) (D : va_G) (dA : FieldType → ClassId) (sz : Nat) : Prop :=
  p.tables.exec = Jvm.exec ∧ c.code = cc ∧ c.maxLocals = g.2.1 ∧ s.vm.findClass (mm_own g.1) = some m.cls ∧ (∀ w ∈ mm_T, w.before args s = true) ∧ mm_K D dA s ∧ meth.locks = false ∧ meth.sig.returnType = g.2.2.1 ∧ (g.2.2.2.2.2.2.2 = true → meth.name = "<init>") ∧ sz ≤ s.heap.size ∧ g.2.2.2.2.1 ≤ R.cells ∧ g.2.2.2.2.2.1 ≤ R.slots ∧ 1 ≤ R.frames ∧ 40 ≤ R.locals
def mm_Qc (D : va_G) (dA : FieldType → ClassId) (sz : Nat) (al : Bool) (ad : Nat → Nat → Nat) (M : mm_M) (Post : Option mm_V → mm_M → Prop) : Array Value → State → Outcome → State → Prop := fun _ st oc t =>
  (∃ (v : Option mm_V) (M' : mm_M) (ad' : Nat → Nat → Nat), oc = .returned (v.map (mm_val ad')) ∧ Post v M' ∧ (al = false → ad' = ad) ∧ (∀ f i, M.2.2.2 f i → ad' f i = ad f i ∧ M'.2.2.2 f i) ∧ mm_R D dA sz ad' M' t.heap ∧ mm_K D dA t) ∧ va_F (fun q : Nat => sz ≤ q) st t
def mm_Pc (D : va_G) (dA : FieldType → ClassId) (sz : Nat) (ad : Nat → Nat → Nat) (M : mm_M) (As : List mm_V) : Array Value → State → Prop := va_Pc (As.map (mm_val ad)) (fun U => sz ≤ U.heap.size ∧ mm_R D dA sz ad M U.heap ∧ mm_K D dA U)
def mm_ws (id : Nat) : List Cond := .code (mm_y id) (mm_cc id) (mm_ml id) (mm_rt id) :: mm_T
def mm_Met (l : Launch) (D : va_G) (dA : FieldType → ClassId) (sz : Nat) (rm : Room) (id : Nat) (As : List mm_V) (M : mm_M) (Post : Option mm_V → mm_M → Prop) : Prop :=
  ∀ ad : Nat → Nat → Nat, Met l (mm_y id) (mm_ws id) rm (mm_Pc D dA sz ad M As) (mm_Qc D dA sz (mm_al id) ad M Post) (mm_mc id) (mm_ms id) (fun q : Nat => sz ≤ q)
def mm_Ok (l : Launch) (D : va_G) (dA : FieldType → ClassId) (sz : Nat) (R : Room) (Γ : mm_G) : Prop := ∀ (id : Nat) (As : List mm_V) (M : mm_M) (Post : Option mm_V → mm_M → Prop), Γ id As M Post →
  ∃ rm : Room, rm.cells = mm_mc id ∧ rm.slots = mm_ms id ∧ rm.frames + 1 ≤ R.frames ∧ 8 + (mm_ml id + 11) + rm.locals ≤ R.locals ∧ mm_Met l D dA sz rm id As M Post
theorem mm_oI {α : Type} {x : Option α} {k : α → Prop} (h : mm_o x k) : ∃ a, x = some a ∧ k a := by
  cases x with
  | none => exact h.elim
  | some a => exact ⟨a, rfl, h⟩
theorem mm_p1I {st : List mm_V} {k : mm_V → List mm_V → Prop} (h : mm_p1 st k) : ∃ v r, st = v :: r ∧ k v r := by
  cases st with
  | nil => exact h.elim
  | cons v r => exact ⟨v, r, rfl, h⟩
theorem mm_pII {st : List mm_V} {k : Int32 → List mm_V → Prop} (h : mm_pI st k) : ∃ x r, st = .inl x :: r ∧ k x r := by
  match st, h with
  | .inl x :: r, h => exact ⟨x, r, rfl, h⟩
theorem mm_pLI {st : List mm_V} {k : Int64 → List mm_V → Prop} (h : mm_pL st k) : ∃ x r, st = .inr (.inl x) :: r ∧ k x r := by
  match st, h with
  | .inr (.inl x) :: r, h => exact ⟨x, r, rfl, h⟩
theorem mm_pRI {st : List mm_V} {k : Nat → Nat → List mm_V → Prop} (h : mm_pR st k) : ∃ f i r, st = .inr (.inr (some (f, i))) :: r ∧ k f i r := by
  match st, h with
  | .inr (.inr (some (f, i))) :: r, h => exact ⟨f, i, r, rfl, h⟩
theorem mm_lVI {ls : List (Option mm_V)} {i : Nat} {k : mm_V → Prop} (h : mm_lV ls i k) : ∃ v, ls[i]? = some (some v) ∧ k v := by
  unfold mm_lV at h
  split at h
  · rename_i v hv
    exact ⟨v, hv, h⟩
  · exact h.elim
theorem mm_vII {v : mm_V} {k : Int32 → Prop} (h : mm_vI v k) : ∃ x, v = .inl x ∧ k x := by
  match v, h with
  | .inl x, h => exact ⟨x, rfl, h⟩
theorem mm_vLI {v : mm_V} {k : Int64 → Prop} (h : mm_vL v k) : ∃ x, v = .inr (.inl x) ∧ k x := by
  match v, h with
  | .inr (.inl x), h => exact ⟨x, rfl, h⟩
theorem mm_vQI {v : mm_V} {k : Option (Nat × Nat) → Prop} (h : mm_vQ v k) : ∃ x, v = .inr (.inr x) ∧ k x := by
  match v, h with
  | .inr (.inr x), h => exact ⟨x, rfl, h⟩
theorem mm_pNI : ∀ (n : Nat) (acc st : List mm_V) (k : List mm_V → List mm_V → Prop), mm_pN n acc st k → ∃ xs r, st = xs ++ r ∧ xs.length = n ∧ k (xs.reverse ++ acc) r
  | 0, acc, st, k, h => ⟨[], st, rfl, rfl, h⟩
  | n + 1, acc, [], k, h => h.elim
  | n + 1, acc, v :: r, k, h => by
    obtain ⟨xs, r', e1, e2, e3⟩ := mm_pNI n (v :: acc) r k h
    exact ⟨v :: xs, r', by rw [e1]; rfl, by rw [List.length_cons, e2], by rw [List.reverse_cons, List.append_assoc]; exact e3⟩
theorem mm_catV (ad : Nat → Nat → Nat) (v : mm_V) : (mm_val ad v).category = mm_cat v := by
  match v with
  | .inl x => rfl
  | .inr (.inl x) => rfl
  | .inr (.inr none) => rfl
  | .inr (.inr (some q)) => rfl
theorem mm_smV (ad : Nat → Nat → Nat) : ∀ st : List mm_V, ((st.map (mm_val ad)).map fun v => v.category).sum = mm_sm st
  | [] => rfl
  | v :: r => by
    rw [List.map_cons, List.map_cons, List.sum_cons, mm_catV, mm_smV ad r]
    rfl
theorem mm_okVI {M : mm_M} {ad ad' : Nat → Nat → Nat} (h : ∀ f i, M.2.2.2 f i → ad' f i = ad f i) {v : mm_V} (hv : mm_okV M v) : mm_val ad' v = mm_val ad v := by
  match v, hv with
  | .inl x, _ => rfl
  | .inr (.inl x), _ => rfl
  | .inr (.inr none), _ => rfl
  | .inr (.inr (some q)), hv =>
    show va_rf (some (ad' q.1 q.2)) = va_rf (some (ad q.1 q.2))
    rw [h q.1 q.2 hv]
theorem mm_okSI {M : mm_M} {ad ad' : Nat → Nat → Nat} (h : ∀ f i, M.2.2.2 f i → ad' f i = ad f i) : ∀ {st : List mm_V}, mm_okS M st → st.map (mm_val ad') = st.map (mm_val ad)
  | [], _ => rfl
  | v :: r, hv => by rw [List.map_cons, List.map_cons, mm_okVI h hv.1, mm_okSI h hv.2]
theorem mm_okLI {M : mm_M} {ad ad' : Nat → Nat → Nat} (h : ∀ f i, M.2.2.2 f i → ad' f i = ad f i) : ∀ {ls : List (Option mm_V)} {k : Nat}, mm_okL M ls → mm_L ad' k ls = mm_L ad k ls
  | [], _, _ => rfl
  | some v :: r, k, hv => by rw [mm_L, mm_L, mm_okVI h hv.1, mm_okLI h hv.2]
  | none :: r, k, hv => by rw [mm_L, mm_L, mm_okLI (ls := r) h hv]
theorem mm_jmpI {pc : Nat} {off : Int} (h : 0 ≤ (pc : Int) + off) : (pc : Int) + off = (mm_jmp pc off : Int) := by
  unfold mm_jmp
  omega
theorem mm_h.write {g : mm_F} {D : va_G} {dA : FieldType → ClassId} {sz : Nat} {ad0 ad : Nat → Nat → Nat} {M0 M M' : mm_M} {s : State} {H H1 : Heap} {locs locs1 : List Loc} (h : mm_h g D dA sz ad0 M0 s M ad H locs) (ed : M'.2.2.2 = M.2.2.2) {a : Nat} (ha : sz ≤ a) (hR : mm_R D dA sz ad M' H1) (oq : ∀ q : Nat, q ≠ a → H1[q]? = H[q]?) (hS : va_S (fun q : Nat => sz ≤ q) s.heap H1 locs1) : mm_h g D dA sz ad0 M0 s M' ad H1 locs1 := by
  obtain ⟨h1, h2, h3, h4, h5⟩ := h
  refine ⟨h1, fun f i hf => ⟨(h2 f i hf).1, by rw [ed]; exact (h2 f i hf).2⟩, hR, ?_, hS⟩
  unfold mm_sc at h4 ⊢
  split
  · trivial
  · rename_i q hq
    rw [hq] at h4
    refine ⟨va_X.kept h4.1 (oq _ (by have := h4.2.1; omega)), h4.2.1, by rw [ed]; exact h4.2.2⟩
section MMS
variable {p : Program} {l : Launch} {e : Env} {R : Room} {s : State} {m : MethodId} {args : Array Value} {below : List Frame} {meth : Method} {c : Code} {Qs : State → Prop}
variable {g : mm_F} {cc : ByteArray} {D : va_G} {dA : FieldType → ClassId} {sz : Nat} {ad0 : Nat → Nat → Nat} {M0 : mm_M}
def mm_W (p : Program) (l : Launch) (e : Env) (R : Room) (s : State) (m : MethodId) (args : Array Value) (below : List Frame) (meth : Method) (c : Code) (Qs : State → Prop) (g : mm_F) (D : va_G) (dA : FieldType → ClassId) (sz : Nat) (ad0 : Nat → Nat → Nat) (M0 : mm_M) : mm_K0 := fun pc ls st M u w =>
  ∀ (ad : Nat → Nat → Nat) (H : Heap) (locs : List Loc) (la : Array Slot), mm_h g D dA sz ad0 M0 s M ad H locs → lv_has la g.2.1 (mm_L ad 0 ls) → W p l e R s m args below meth c H locs u w Qs (F0 m pc la (st.map (mm_val ad)))

theorem mm_one {D : va_G} {q : Nat × va_E} {H : Heap} (h : va_at D mm_cl q H) : va_P D mm_cl [q] H := fun k x hk => by
  cases k with
  | zero =>
    simp at hk
    subst hk
    exact h
  | succ k => simp at hk
theorem mm_tyI {D : va_G} {dA : FieldType → ClassId} {U : State} (h : mm_K D dA U) {ty : FieldType} (hty : ty ∈ mm_tyl) : ∃ t0 : Nat, (mm_tys dA)[t0]? = some (dA ty, ty) := by
  obtain ⟨k, hk⟩ := List.getElem?_of_mem hty
  refine ⟨k, ?_⟩
  unfold mm_tys
  rw [List.getElem?_map, hk]
  rfl
theorem mm_cellO {M : mm_M} {ad : Nat → Nat → Nat} {f i ci : Nat} (h : mm_Y f = .inl ci) : mm_cell dA ad M f i = .inr (ci, mm_fs ad M ci f i) := by
  unfold mm_cell
  rw [h]
theorem mm_cellA {M : mm_M} {ad : Nat → Nat → Nat} {f i n : Nat} {ty : FieldType} (h : mm_Y f = .inr (ty, n)) : mm_cell dA ad M f i = .inl (dA ty, mm_arr ad M ty n f i) := by
  unfold mm_cell
  rw [h]
theorem mm_fsI {M : mm_M} {ad : Nat → Nat → Nat} {f i ci k : Nat} (h : k < mm_N ci) : (mm_fs ad M ci f i)[k]? = some (mm_val ad (mm_get M (mm_ft ci k) f i k)) := by
  unfold mm_fs
  rw [List.getElem?_map, List.getElem?_range h]
  rfl
theorem mm_fsL {M : mm_M} {ad : Nat → Nat → Nat} {f i ci : Nat} : (mm_fs ad M ci f i).length = mm_N ci := by
  unfold mm_fs
  rw [List.length_map, List.length_range]

theorem mm_getf {H : Heap} {locs : List Loc} {u w pc : Nat} {la : Array Slot} {rest : List Value} {M : mm_M} {ad : Nat → Nat → Nat} {f i ci k ix : Nat} (X : mm_ctx p s m args meth c R g cc D dA sz) (hR : mm_R D dA sz ad M H) (hfl : mm_FL g.1 ix = some (ci, k)) (hi : mm_is M f i ci) (hd : decode cc pc = .ok (.getfield ix, 3))
    (kk : W p l e R s m args below meth c H locs u w Qs (F0 m (pc + 3) la (mm_val ad (mm_get M (mm_ft ci k) f i k) :: rest))) : W p l e R s m args below meth c H locs u w Qs (F0 m pc la (.ref (ad f i) :: rest)) := by
  obtain ⟨hx, hb, hml, hown, hts, hK, -⟩ := X
  obtain ⟨hY, h9, hdm⟩ := hi
  obtain ⟨r, hc, e1, e2, hin, -⟩ := mm_clok hY
  obtain ⟨hk, hl⟩ := mm_FLok hfl hc
  have hat := (hR.1 f i h9 hdm).1
  rw [mm_cellO hY] at hat
  rcases hl with hl | ⟨h, hl⟩
  · exact va_get (C := r.1) (T := r.2.1) (N := r.2.2) hx hb hts hin hown hK.1 (mm_one hat) 0 rfl hc k hk (hts _ hl) (fun _ h9 => h9) (mm_fsI (by rw [← e2]; exact hk)) hd kk
  · exact va_getN (C := r.1) (T := r.2.1) (N := r.2.2) hx hb hts hin hown hK.1 (mm_one hat) 0 rfl hc k hk (va_Nw.use rfl (hK.2.1 _ hl)) (fun _ h9 => h9) (mm_fsI (by rw [← e2]; exact hk)) hd kk

/-- a field is written: the cell, and no other -/
theorem mm_putraw {H : Heap} {locs : List Loc} {u w pc : Nat} {la : Array Slot} {rest : List Value} {ad : Nat → Nat → Nat} {a ci k ix f : Nat} {fs : List Value} {v : Value} (X : mm_ctx p s m args meth c R g cc D dA sz) (hfl : mm_FL g.1 ix = some (ci, k)) (hY : mm_Y f = .inl ci) (hat : va_at D mm_cl (a, .inr (ci, fs)) H) (hlen : fs.length = mm_N ci) (hpf : mm_pf g ci k) (hn : narrow (mm_ft ci k) v = v) (hfit : fits (mm_ft ci k) v = true) (hd : decode cc pc = .ok (.putfield ix, 3))
    (kk : ∀ (H1 : Heap) (j : Nat), va_at D mm_cl (a, .inr (ci, fs.set k v)) H1 → H1.size = H.size → (∀ q : Nat, q ≠ a → H1[q]? = H[q]?) → W p l e R s m args below meth c H1 (locs ++ [⟨a, j⟩]) u w Qs (F0 m (pc + 3) la rest)) : W p l e R s m args below meth c H locs u w Qs (F0 m pc la (v :: .ref a :: rest)) := by
  obtain ⟨hx, hb, hml, hown, hts, hK, -, -, hct, -⟩ := X
  obtain ⟨r, hc, e1, e2, hin, hty, hnm, hfn⟩ := mm_clok hY
  obtain ⟨hk, hl⟩ := mm_FLok hfl hc
  have hap := va_apart (own := mm_own g.1) (D := D) (tys := mm_tys dA) (C := r.1) (T := r.2.1) (N := r.2.2) hts hin (mm_ft ci) hty hnm hK.1 hc
  obtain ⟨r', h1, cell, q1, q2, q3, q4⟩ := hat
  have hr : r' = r := Option.some.inj (h1.symm.trans hc)
  subst hr
  obtain ⟨hS, hfc, kC, hkC, hkind⟩ := hK.1.1 ci _ hc
  obtain ⟨cf, kf, fi, fd, hi, hsl⟩ := hS k hk
  have hst := (u_facts hfc hkC (u_lays hts hin hk) hi).1
  have hkl : k < fs.length := by rw [hlen, ← e2]; exact hk
  have fin : ∀ H' : Heap, H'[a]? = some (cell.setSlot fd.slot v) → va_at D mm_cl (a, .inr (ci, fs.set k v)) H' := by
    intro H' e
    rw [hsl] at e
    exact ⟨_, hc, t_OB.to (V := updV (vp_V fs) k v) ⟨_, e, q2, q3, t_set q4 hap hk v⟩ (fun j _ => vp_updV_set hkl v j)⟩
  have hlay := hts _ (hin _ (u_in_lay hk))
  unfold u_lay at hlay
  rcases hpf with hpf | ⟨ho, hc1⟩
  · rw [if_neg (by rw [(hfn k hk).1, hpf]; decide)] at hlay
    have h6 := u_store hfc hkC hkind hlay hi (hty k hk) hn hfit
    rcases hl with hl | ⟨h, hl⟩
    · exact W.putK hx hb (f := fd) ⟨hown, hts _ hl, ⟨_, _, _, hi⟩, hst⟩ (by rw [q2]; exact h6) q1 q3 (by rw [hsl]; exact k2_hasslot (q4 k hk)) rfl rfl hd fun H' e1 e2 e3 => kk H' _ (fin H' e1) e2 e3
    · exact va_WputK hx hb (f := fd) hown (va_Nw.use rfl (hK.2.1 _ hl)) hi hst (by rw [q2]; exact h6) q1 q3 (by rw [hsl]; exact k2_hasslot (q4 k hk)) rfl rfl hd fun H' e1 e2 e3 => kk H' _ (fin H' e1) e2 e3
  · by_cases hf2 : (r'.2.1 k).2.2.2 = true
    · rw [if_pos hf2] at hlay
      have hcf : m.cls = cf := by
        obtain ⟨_, _, c', _, _, _, -, -, hf', -, -, -, hown2, -⟩ := Cond.laysFinal_spec hlay
        have e1 : c' = cf := by have := hi.symm.trans hf'; simp at this; exact this.1.symm
        rw [(hfn k hk).2, ← mm_ownI hY, ← ho] at hown2
        rw [← e1]; exact Option.some.inj (hown.symm.trans hown2)
      have h6 := u_fits hfc hkC hkind (Or.inr hlay) hi (hty k hk) hn hfit
      rcases hl with hl | ⟨h, hl⟩
      · exact W.putFinK hx hb hown (hts _ hl) hi hst hcf (hct hc1) (by rw [q2]; exact h6) q1 q3 (by rw [hsl]; exact k2_hasslot (q4 k hk)) rfl rfl hd fun H' e1 e2 e3 => kk H' _ (fin H' e1) e2 e3
      · exact absurd (show mm_own g.1 = (r'.2.1 k).1 by rw [(hfn k hk).2, ho]; rfl) (mm_nFne _ hl)
    · have hf3 : (r'.2.1 k).2.2.2 = false := by simpa using hf2
      rw [if_neg hf2] at hlay
      have h6 := u_store hfc hkC hkind hlay hi (hty k hk) hn hfit
      rcases hl with hl | ⟨h, hl⟩
      · exact W.putK hx hb (f := fd) ⟨hown, hts _ hl, ⟨_, _, _, hi⟩, hst⟩ (by rw [q2]; exact h6) q1 q3 (by rw [hsl]; exact k2_hasslot (q4 k hk)) rfl rfl hd fun H' e1 e2 e3 => kk H' _ (fin H' e1) e2 e3
      · exact va_WputK hx hb (f := fd) hown (va_Nw.use rfl (hK.2.1 _ hl)) hi hst (by rw [q2]; exact h6) q1 q3 (by rw [hsl]; exact k2_hasslot (q4 k hk)) rfl rfl hd fun H' e1 e2 e3 => kk H' _ (fin H' e1) e2 e3
/-- the fields of a cell, one of them written -/
theorem mm_fsS {M M' : mm_M} {ad : Nat → Nat → Nat} {f i ci k : Nat} {v : Value} (hk : k < mm_N ci) (hv : mm_val ad (mm_get M' (mm_ft ci k) f i k) = v) (ho : ∀ j, j ≠ k → mm_get M' (mm_ft ci j) f i j = mm_get M (mm_ft ci j) f i j) : mm_fs ad M' ci f i = (mm_fs ad M ci f i).set k v := by
  apply List.ext_getElem?
  intro j
  rw [List.getElem?_set]
  by_cases hj : k = j
  · subst hj
    rw [if_pos rfl, mm_fsL, if_pos hk, mm_fsI hk, hv]
  · rw [if_neg hj]
    by_cases hl : j < mm_N ci
    · rw [mm_fsI hl, mm_fsI hl, ho j (fun q => hj q.symm)]
    · rw [List.getElem?_eq_none (by rw [mm_fsL]; omega), List.getElem?_eq_none (by rw [mm_fsL]; omega)]
theorem mm_sIrow {M : mm_M} {f i k a b : Nat} {x : Int32} (h : ¬ (a = f ∧ b = i)) : (mm_sI M f i k x).1 a b = M.1 a b := mm_u_row h
theorem mm_sLrow {M : mm_M} {f i k a b : Nat} {x : Int64} (h : ¬ (a = f ∧ b = i)) : (mm_sL M f i k x).2.1 a b = M.2.1 a b := mm_u_row h
theorem mm_sRrow {M : mm_M} {f i k a b : Nat} {x : Option (Nat × Nat)} (h : ¬ (a = f ∧ b = i)) : (mm_sR M f i k x).2.2.1 a b = M.2.2.1 a b := mm_u_row h
theorem mm_getI {M : mm_M} {ty : FieldType} {f i k j : Nat} {x : Int32} (h : j ≠ k) : mm_get (mm_sI M f i k x) ty f i j = mm_get M ty f i j := by
  have e : (mm_sI M f i k x).1 f i j = M.1 f i j := by
    show mm_u M.1 f i k x f i j = _
    rw [mm_u_own, if_neg h]
  cases ty <;> first | rfl | exact congrArg Sum.inl e
theorem mm_getL {M : mm_M} {ty : FieldType} {f i k j : Nat} {x : Int64} (h : j ≠ k) : mm_get (mm_sL M f i k x) ty f i j = mm_get M ty f i j := by
  have e : (mm_sL M f i k x).2.1 f i j = M.2.1 f i j := by
    show mm_u M.2.1 f i k x f i j = _
    rw [mm_u_own, if_neg h]
  cases ty <;> first | rfl | exact congrArg (fun z => Sum.inr (Sum.inl z)) e
theorem mm_getR {M : mm_M} {ty : FieldType} {f i k j : Nat} {x : Option (Nat × Nat)} (h : j ≠ k) : mm_get (mm_sR M f i k x) ty f i j = mm_get M ty f i j := by
  have e : (mm_sR M f i k x).2.2.1 f i j = M.2.2.1 f i j := by
    show mm_u M.2.2.1 f i k x f i j = _
    rw [mm_u_own, if_neg h]
  cases ty <;> first | rfl | exact congrArg (fun z => Sum.inr (Sum.inr z)) e
theorem mm_S1 {A : Nat → Prop} {H0 H H1 : Heap} {locs : List Loc} {a i : Nat} (h : va_S A H0 H locs) (z : H1.size = H.size) (o : ∀ q : Nat, q ≠ a → H1[q]? = H[q]?) (ha : A a) : va_S A H0 H1 (locs ++ [⟨a, i⟩]) := h.put z o ha
theorem mm_putf {H : Heap} {locs : List Loc} {u w pc : Nat} {la : Array Slot} {r : List mm_V} {M : mm_M} {ad : Nat → Nat → Nat} {f i ci k ix : Nat} {v : mm_V} {kk : mm_M → Prop} (X : mm_ctx p s m args meth c R g cc D dA sz) (hh : mm_h g D dA sz ad0 M0 s M ad H locs) (hfl : mm_FL g.1 ix = some (ci, k)) (hi : mm_is M f i ci) (hpf : mm_pf g ci k) (hp : mm_put M (mm_ft ci k) f i k v kk) (hd : decode cc pc = .ok (.putfield ix, 3))
    (go : ∀ (M' : mm_M) (H1 : Heap) (locs1 : List Loc), kk M' → mm_h g D dA sz ad0 M0 s M' ad H1 locs1 → W p l e R s m args below meth c H1 locs1 u w Qs (F0 m (pc + 3) la (r.map (mm_val ad)))) : W p l e R s m args below meth c H locs u w Qs (F0 m pc la ((v :: .inr (.inr (some (f, i))) :: r).map (mm_val ad))) := by
  obtain ⟨hY, h9, hdm⟩ := hi
  obtain ⟨r0, hc, -, e2, -⟩ := mm_clok hY
  have hk : k < mm_N ci := by rw [← e2]; exact (mm_FLok hfl hc).1
  obtain ⟨hat, hsz⟩ := hh.2.2.1.1 f i h9 hdm
  have hat' := hat
  rw [mm_cellO hY] at hat'
  match v, hp with
  | .inl x, hp =>
    obtain ⟨hty, hn, hfit, hkk⟩ := hp
    refine mm_putraw (v := .int x) (ad := ad) X hfl hY hat' mm_fsL hpf hn hfit hd fun H1 j e1 e3 e4 => ?_
    have hv : mm_val ad (mm_get (mm_sI M f i k x) (mm_ft ci k) f i k) = .int x := by
      have e : (mm_sI M f i k x).1 f i k = x := by
        show mm_u M.1 f i k x f i k = _
        rw [mm_u_own, if_pos rfl]
      rcases hty with q | q <;> rw [q] <;> exact congrArg Value.int e
    refine go _ H1 _ hkk (hh.write rfl hsz (hh.2.2.1.write h9 hdm rfl (fun a b h => mm_sIrow h) (fun _ _ _ => rfl) (fun _ _ _ => rfl) ?_ e4) e4 (mm_S1 hh.2.2.2.2 e3 e4 hsz))
    rw [mm_cellO hY, mm_fsS hk hv (fun j hj => mm_getI hj)]
    exact e1
  | .inr (.inl x), hp =>
    obtain ⟨hty, hkk⟩ := hp
    refine mm_putraw (v := .long x) (ad := ad) X hfl hY hat' mm_fsL hpf (by rw [hty]; rfl) (by rw [hty]; rfl) hd fun H1 j e1 e3 e4 => ?_
    have hv : mm_val ad (mm_get (mm_sL M f i k x) (mm_ft ci k) f i k) = .long x := by
      have e : (mm_sL M f i k x).2.1 f i k = x := by
        show mm_u M.2.1 f i k x f i k = _
        rw [mm_u_own, if_pos rfl]
      rw [hty]
      exact congrArg Value.long e
    refine go _ H1 _ hkk (hh.write rfl hsz (hh.2.2.1.write h9 hdm rfl (fun _ _ _ => rfl) (fun a b h => mm_sLrow h) (fun _ _ _ => rfl) ?_ e4) e4 (mm_S1 hh.2.2.2.2 e3 e4 hsz))
    rw [mm_cellO hY, mm_fsS hk hv (fun j hj => mm_getL hj)]
    exact e1
  | .inr (.inr x), hp =>
    obtain ⟨hty, hkk⟩ := hp
    have hn : narrow (mm_ft ci k) (mm_ref ad x) = mm_ref ad x := by
      cases x <;> cases ht : mm_ft ci k <;> first | rfl | (rw [ht] at hty; cases hty)
    have hfit : fits (mm_ft ci k) (mm_ref ad x) = true := by
      cases x <;> cases ht : mm_ft ci k <;> first | rfl | (rw [ht] at hty; cases hty)
    refine mm_putraw (v := mm_ref ad x) (ad := ad) X hfl hY hat' mm_fsL hpf hn hfit hd fun H1 j e1 e3 e4 => ?_
    have hv : mm_val ad (mm_get (mm_sR M f i k x) (mm_ft ci k) f i k) = mm_ref ad x := by
      have e : (mm_sR M f i k x).2.2.1 f i k = x := by
        show mm_u M.2.2.1 f i k x f i k = _
        rw [mm_u_own, if_pos rfl]
      cases ht : mm_ft ci k <;> first | exact congrArg (mm_ref ad) e | (rw [ht] at hty; cases hty)
    refine go _ H1 _ hkk (hh.write rfl hsz (hh.2.2.1.write h9 hdm rfl (fun _ _ _ => rfl) (fun _ _ _ => rfl) (fun a b h => mm_sRrow h) ?_ e4) e4 (mm_S1 hh.2.2.2.2 e3 e4 hsz))
    rw [mm_cellO hY, mm_fsS hk hv (fun j hj => mm_getR hj)]
    exact e1
theorem mm_updI {M : mm_M} {f i k : Nat} {x : Int32} : updV (fun j => .int (M.1 f i j)) k (.int x) = fun j => .int ((mm_sI M f i k x).1 f i j) := by
  funext j
  show (if j = k then Value.int x else .int (M.1 f i j)) = .int (mm_u M.1 f i k x f i j)
  rw [mm_u_own]
  split <;> rfl
theorem mm_updL {M : mm_M} {f i k : Nat} {x : Int64} : updV (fun j => .long (M.2.1 f i j)) k (.long x) = fun j => .long ((mm_sL M f i k x).2.1 f i j) := by
  funext j
  show (if j = k then Value.long x else .long (M.2.1 f i j)) = .long (mm_u M.2.1 f i k x f i j)
  rw [mm_u_own]
  split <;> rfl
theorem mm_updR {M : mm_M} {ad : Nat → Nat → Nat} {f i k : Nat} {x : Option (Nat × Nat)} : updV (fun j => va_rf ((M.2.2.1 f i j).map fun q => ad q.1 q.2)) k (mm_ref ad x) = fun j => va_rf (((mm_sR M f i k x).2.2.1 f i j).map fun q => ad q.1 q.2) := by
  funext j
  show (if j = k then mm_ref ad x else va_rf ((M.2.2.1 f i j).map fun q => ad q.1 q.2)) = va_rf ((mm_u M.2.2.1 f i k x f i j).map fun q => ad q.1 q.2)
  rw [mm_u_own]
  split <;> rfl
theorem mm_iast {H : Heap} {locs : List Loc} {u w pc : Nat} {la : Array Slot} {rest : List Value} {M : mm_M} {ad : Nat → Nat → Nat} {f i : Nat} {j x : Int32} (X : mm_ctx p s m args meth c R g cc D dA sz) (hh : mm_h g D dA sz ad0 M0 s M ad H locs) (hi : mm_ia M f i .int) (hin : vp_in j (mm_len f)) (hd : decode cc pc = .ok (.iastore, 1))
    (go : ∀ (H1 : Heap) (locs1 : List Loc), mm_h g D dA sz ad0 M0 s (mm_sI M f i j.toNatClampNeg x) ad H1 locs1 → W p l e R s m args below meth c H1 locs1 u w Qs (F0 m (pc + 1) la rest)) : W p l e R s m args below meth c H locs u w Qs (F0 m pc la (.int x :: .int j :: .ref (ad f i) :: rest)) := by
  obtain ⟨hx, hb, hml, hown, hts, hK, -⟩ := X
  obtain ⟨hY, h9, hdm⟩ := hi
  obtain ⟨hat, hsz⟩ := hh.2.2.1.1 f i h9 hdm
  rw [mm_cellA hY] at hat
  have hat : H[ad f i]? = some (arrV (dA .int) (mm_len f) (fun j => .int (M.1 f i j))) := hat
  obtain ⟨t0, ht⟩ := mm_tyI hK (mm_Yok hY)
  refine W.iast hx hb hat ((hK.1.2 t0 _ ht).1 _ _) (fun q => by cases q) (by rw [arrV_size]; exact hin) rfl rfl hd fun H1 e z oq => ?_
  refine go H1 _ (hh.write rfl hsz (hh.2.2.1.write h9 hdm rfl (fun a b h => mm_sIrow h) (fun _ _ _ => rfl) (fun _ _ _ => rfl) ?_ oq) oq (mm_S1 hh.2.2.2.2 z oq hsz))
  rw [mm_cellA hY]
  show H1[ad f i]? = some (arrV (dA .int) (mm_len f) (fun j_1 => .int ((mm_sI M f i j.toNatClampNeg x).1 f i j_1)))
  rw [e, arrV_store, mm_updI]
theorem mm_zast {H : Heap} {locs : List Loc} {u w pc : Nat} {la : Array Slot} {rest : List Value} {M : mm_M} {ad : Nat → Nat → Nat} {f i : Nat} {j x : Int32} (X : mm_ctx p s m args meth c R g cc D dA sz) (hh : mm_h g D dA sz ad0 M0 s M ad H locs) (hi : mm_ia M f i .boolean) (hin : vp_in j (mm_len f)) (hd : decode cc pc = .ok (.bastore, 1))
    (go : ∀ (H1 : Heap) (locs1 : List Loc), mm_h g D dA sz ad0 M0 s (mm_sI M f i j.toNatClampNeg (x &&& 1)) ad H1 locs1 → W p l e R s m args below meth c H1 locs1 u w Qs (F0 m (pc + 1) la rest)) : W p l e R s m args below meth c H locs u w Qs (F0 m pc la (.int x :: .int j :: .ref (ad f i) :: rest)) := by
  obtain ⟨hx, hb, hml, hown, hts, hK, -⟩ := X
  obtain ⟨hY, h9, hdm⟩ := hi
  obtain ⟨hat, hsz⟩ := hh.2.2.1.1 f i h9 hdm
  rw [mm_cellA hY] at hat
  have hat : H[ad f i]? = some (arrV (dA .boolean) (mm_len f) (fun j => .int (M.1 f i j))) := hat
  obtain ⟨t0, ht⟩ := mm_tyI hK (mm_Yok hY)
  refine W.zast hx hb hat ((hK.1.2 t0 _ ht).1 _ _) (fun q => by cases q) (by rw [arrV_size]; exact hin) rfl rfl hd fun H1 e z oq => ?_
  refine go H1 _ (hh.write rfl hsz (hh.2.2.1.write h9 hdm rfl (fun a b h => mm_sIrow h) (fun _ _ _ => rfl) (fun _ _ _ => rfl) ?_ oq) oq (mm_S1 hh.2.2.2.2 z oq hsz))
  rw [mm_cellA hY]
  show H1[ad f i]? = some (arrV (dA .boolean) (mm_len f) (fun j_1 => .int ((mm_sI M f i j.toNatClampNeg (x &&& 1)).1 f i j_1)))
  have e : H1[ad f i]? = some ((arrV (dA .boolean) (mm_len f) (fun j => .int (M.1 f i j))).setSlot j.toNatClampNeg (.int (x &&& 1))) := e
  rw [e, arrV_store, mm_updI]
theorem mm_last {H : Heap} {locs : List Loc} {u w pc : Nat} {la : Array Slot} {rest : List Value} {M : mm_M} {ad : Nat → Nat → Nat} {f i : Nat} {j : Int32} {x : Int64} (X : mm_ctx p s m args meth c R g cc D dA sz) (hh : mm_h g D dA sz ad0 M0 s M ad H locs) (hi : mm_ia M f i .long) (hin : vp_in j (mm_len f)) (hd : decode cc pc = .ok (.lastore, 1))
    (go : ∀ (H1 : Heap) (locs1 : List Loc), mm_h g D dA sz ad0 M0 s (mm_sL M f i j.toNatClampNeg x) ad H1 locs1 → W p l e R s m args below meth c H1 locs1 u w Qs (F0 m (pc + 1) la rest)) : W p l e R s m args below meth c H locs u w Qs (F0 m pc la (.long x :: .int j :: .ref (ad f i) :: rest)) := by
  obtain ⟨hx, hb, hml, hown, hts, hK, -⟩ := X
  obtain ⟨hY, h9, hdm⟩ := hi
  obtain ⟨hat, hsz⟩ := hh.2.2.1.1 f i h9 hdm
  rw [mm_cellA hY] at hat
  have hat : H[ad f i]? = some (arrV (dA .long) (mm_len f) (fun j => .long (M.2.1 f i j))) := hat
  obtain ⟨t0, ht⟩ := mm_tyI hK (mm_Yok hY)
  refine W.last hx hb hat ((hK.1.2 t0 _ ht).1 _ _) (fun q => by cases q) (by rw [arrV_size]; exact hin) rfl rfl hd fun H1 e z oq => ?_
  refine go H1 _ (hh.write rfl hsz (hh.2.2.1.write h9 hdm rfl (fun _ _ _ => rfl) (fun a b h => mm_sLrow h) (fun _ _ _ => rfl) ?_ oq) oq (mm_S1 hh.2.2.2.2 z oq hsz))
  rw [mm_cellA hY]
  show H1[ad f i]? = some (arrV (dA .long) (mm_len f) (fun j_1 => .long ((mm_sL M f i j.toNatClampNeg x).2.1 f i j_1)))
  rw [e, arrV_store, mm_updL]
theorem mm_aast {H : Heap} {locs : List Loc} {u w pc : Nat} {la : Array Slot} {rest : List Value} {M : mm_M} {ad : Nat → Nat → Nat} {f i f2 i2 ci : Nat} {j : Int32} (X : mm_ctx p s m args meth c R g cc D dA sz) (hh : mm_h g D dA sz ad0 M0 s M ad H locs) (hv : mm_is M f2 i2 ci) (hi : mm_ia M f i (.object (mm_nm ci))) (hin : vp_in j (mm_len f)) (hd : decode cc pc = .ok (.aastore, 1))
    (go : ∀ (H1 : Heap) (locs1 : List Loc), mm_h g D dA sz ad0 M0 s (mm_sR M f i j.toNatClampNeg (some (f2, i2))) ad H1 locs1 → W p l e R s m args below meth c H1 locs1 u w Qs (F0 m (pc + 1) la rest)) : W p l e R s m args below meth c H locs u w Qs (F0 m pc la (.ref (ad f2 i2) :: .int j :: .ref (ad f i) :: rest)) := by
  obtain ⟨hx, hb, hml, hown, hts, hK, -⟩ := X
  obtain ⟨hY, h9, hdm⟩ := hi
  obtain ⟨hY2, h92, hdm2⟩ := hv
  obtain ⟨hat, hsz⟩ := hh.2.2.1.1 f i h9 hdm
  obtain ⟨hat2, -⟩ := hh.2.2.1.1 f2 i2 h92 hdm2
  rw [mm_cellA hY] at hat
  rw [mm_cellO hY2] at hat2
  have hat : H[ad f i]? = some (arrV (dA (.object (mm_nm ci))) (mm_len f) (fun j => va_rf ((M.2.2.1 f i j).map fun q => ad q.1 q.2))) := hat
  obtain ⟨t0, ht⟩ := mm_tyI hK (mm_Yok hY)
  obtain ⟨r, hc, er, -⟩ := mm_clok hY2
  obtain ⟨r', hr', cellV, g1, g2, g3, -⟩ := hat2
  have hcls := (hK.1.1 ci r hc).2
  obtain ⟨kA, comp, k1, k2, k3, -⟩ := (hK.1.2 t0 _ ht).2
  rw [← er] at k3
  have hcomp : comp = D.1 ci := Option.some.inj (k3.symm.trans hcls.1)
  subst hcomp
  obtain ⟨kC, hkC, -⟩ := hcls.2
  have hlt : j.toNatClampNeg < mm_len f := Nat.not_le.mp fun q => hin (Or.inr q)
  refine W.aast hx hb hat (fun q h => by cases h) (fun h => by cases h) k1 k2 rfl hkC ⟨fun q => hin (Or.inl q), by rw [arrV_size]; exact hlt⟩ g1 (fun q h => by rw [g3] at h; cases h) (by rw [g2]; exact hkC) (by rw [g2]; exact va_assign hcls) rfl rfl hd fun H1 e z oq => ?_
  refine go H1 _ (hh.write rfl hsz (hh.2.2.1.write h9 hdm rfl (fun _ _ _ => rfl) (fun _ _ _ => rfl) (fun a b h => mm_sRrow h) ?_ oq) oq (mm_S1 hh.2.2.2.2 z oq hsz))
  rw [mm_cellA hY]
  show H1[ad f i]? = some (arrV (dA (.object (mm_nm ci))) (mm_len f) (fun j_1 => va_rf (((mm_sR M f i j.toNatClampNeg (some (f2, i2))).2.2.1 f i j_1).map fun q => ad q.1 q.2)))
  have e : H1[ad f i]? = some ((arrV (dA (.object (mm_nm ci))) (mm_len f) (fun j => va_rf ((M.2.2.1 f i j).map fun q => ad q.1 q.2))).setSlot j.toNatClampNeg (mm_ref ad (some (f2, i2)))) := e
  rw [e, arrV_store, mm_updR]
/-- a cell is made: what holds behind it -/
theorem mm_made {H H1 : Heap} {locs : List Loc} {M : mm_M} {ad : Nat → Nat → Nat} {f i : Nat} (hh : mm_h g D dA sz ad0 M0 s M ad H locs) (hz : sz ≤ s.heap.size) (hal : g.2.2.2.1 = true) (h9 : f ≠ 999) (hf : ¬ M.2.2.2 f i) (hfr : ∀ a b c, M.2.2.1 a b c ≠ some (f, i))
    (he : va_at D mm_cl (H.size, mm_cell dA (mm_ad ad f i H.size) (mm_new M f i) f i) H1) (z1 : H1.size = H.size + 1) (oq : ∀ q : Nat, q < H.size → H1[q]? = H[q]?) :
    mm_h g D dA sz ad0 M0 s (mm_new M f i) (mm_ad ad f i H.size) H1 locs := by
  obtain ⟨h1, h2, h3, h4, h5⟩ := hh
  have hzH : sz ≤ H.size := Nat.le_trans hz h5.1
  refine ⟨fun q => (by rw [hal] at q; cases q), fun a b hb => ⟨?_, Or.inr (h2 a b hb).2⟩, h3.make hf hfr hzH he oq, ?_, ⟨by have := h5.1; omega, fun q hq hA => ?_, h5.2.2⟩⟩
  · show (if a = f ∧ b = i then H.size else ad a b) = ad0 a b
    rw [if_neg]
    · exact (h2 a b hb).1
    · rintro ⟨rfl, rfl⟩
      exact hf (h2 _ _ hb).2
  · unfold mm_sc at h4 ⊢
    split
    · trivial
    · rename_i q hq
      rw [hq] at h4
      have e9 : (if (999 : Nat) = f ∧ (0 : Nat) = i then H.size else ad 999 0) = ad 999 0 := if_neg fun q => h9 q.1.symm
      show va_X (if (999 : Nat) = f ∧ (0 : Nat) = i then H.size else ad 999 0) q.1 q.2 s H1 ∧ (if (999 : Nat) = f ∧ (0 : Nat) = i then H.size else ad 999 0) < sz ∧ _
      rw [e9]
      exact ⟨va_X.kept h4.1 (oq _ (by have := h4.2.1; omega)), h4.2.1, Or.inr h4.2.2⟩
  · rw [oq q (Nat.lt_of_lt_of_le hq h5.1)]
    exact h5.2.1 q hq hA
theorem mm_newAd {M : mm_M} {ad : Nat → Nat → Nat} {f i N : Nat} (hf : ¬ M.2.2.2 f i) : ∀ a b, M.2.2.2 a b → mm_ad ad f i N a b = ad a b := by
  intro a b hb
  refine mm_ad_ne ?_
  rintro ⟨rfl, rfl⟩
  exact hf hb
theorem mm_newc {H : Heap} {locs : List Loc} {u w pc : Nat} {la : Array Slot} {st : List mm_V} {M : mm_M} {ad : Nat → Nat → Nat} {f i ci ix : Nat} (X : mm_ctx p s m args meth c R g cc D dA sz) (hh : mm_h g D dA sz ad0 M0 s M ad H locs) (hal : g.2.2.2.1 = true) (hcc : mm_CC g.1 ix = some ci) (hY : mm_Y f = .inl ci) (h9 : f ≠ 999) (hf : ¬ M.2.2.2 f i) (hfr : ∀ a b c, M.2.2.1 a b c ≠ some (f, i)) (hu : u + 1 ≤ g.2.2.2.2.1) (hw : w + mm_N ci ≤ g.2.2.2.2.2.1) (hd : decode cc pc = .ok (.new ix, 3))
    (go : ∀ (H1 : Heap), mm_h g D dA sz ad0 M0 s (mm_new M f i) (mm_ad ad f i H.size) H1 locs → W p l e R s m args below meth c H1 locs (u + 1) (w + mm_N ci) Qs (F0 m (pc + 3) la (.ref H.size :: st.map (mm_val ad)))) : W p l e R s m args below meth c H locs u w Qs (F0 m pc la (st.map (mm_val ad))) := by
  obtain ⟨hx, hb, hml, hown, hts, hK, -, -, -, hz, hC, hSl, -⟩ := X
  obtain ⟨r, hc, e1, e2, hin, hty, -, -⟩ := mm_clok hY
  obtain ⟨k1, k2, k3⟩ := mm_CCok hcc
  have hKn := hK.1.1 ci _ hc
  refine W.newcK (C := r.1) (n := mm_N ci) hx hb hown (by rw [e1]; exact hts _ k1) (by rw [e1]; exact hts _ k2) (by rw [e1]; exact hts _ k3) rfl hd (Nat.le_trans hu hC) (Nat.le_trans hw hSl) hKn.2.1 rfl fun H1 kC hkC e3 z1 o1 => ?_
  refine go H1 (mm_made hh hz hal h9 hf hfr ?_ z1 o1)
  rw [mm_cellO hY]
  refine ⟨_, hc, (u_born (mm_ft ci) hts hin hKn hkC e3 hty).to fun k hk => ?_⟩
  have hk' : k < mm_N ci := by rw [← e2]; exact hk
  unfold vp_V
  rw [List.getD_eq_getElem?_getD, mm_fsI hk', Option.getD_some]
  have hft := mm_ftok hY hk'
  have q1 : (mm_new M f i).1 f i k = 0 := mm_z_own
  have q2 : (mm_new M f i).2.1 f i k = 0 := mm_z_own
  have q3 : (mm_new M f i).2.2.1 f i k = none := mm_z_own
  unfold mm_get
  rw [q1, q2, q3]
  cases ht : mm_ft ci k <;> first | rfl | (rw [ht] at hft; exact absurd rfl hft.1) | (rw [ht] at hft; exact absurd rfl hft.2)
theorem mm_newa {H : Heap} {locs : List Loc} {u w pc : Nat} {la : Array Slot} {st : List mm_V} {M : mm_M} {ad : Nat → Nat → Nat} {f i : Nat} {t : ArrayType} {n : Int32} (X : mm_ctx p s m args meth c R g cc D dA sz) (hh : mm_h g D dA sz ad0 M0 s M ad H locs) (hal : g.2.2.2.1 = true) (hn : ¬ n < 0) (hnb : n.toNatClampNeg ≤ 60000) (hat : mm_at0 t) (hY : mm_Y f = .inr (newarray.typeOf t, n.toNatClampNeg)) (h9 : f ≠ 999) (hf : ¬ M.2.2.2 f i) (hfr : ∀ a b c, M.2.2.1 a b c ≠ some (f, i)) (hu : u + 1 ≤ g.2.2.2.2.1) (hw : w + n.toNatClampNeg ≤ g.2.2.2.2.2.1) (hd : decode cc pc = .ok (.newarray t, 2))
    (go : ∀ (H1 : Heap), mm_h g D dA sz ad0 M0 s (mm_new M f i) (mm_ad ad f i H.size) H1 locs → W p l e R s m args below meth c H1 locs (u + 1) (w + n.toNatClampNeg) Qs (F0 m (pc + 2) la (.ref H.size :: st.map (mm_val ad)))) : W p l e R s m args below meth c H locs u w Qs (F0 m pc la (.int n :: st.map (mm_val ad))) := by
  obtain ⟨hx, hb, hml, hown, hts, hK, -, -, -, hz, hC, hSl, -⟩ := X
  obtain ⟨k1, k2⟩ := mm_prtok hat
  have hby : n.toNatClampNeg * componentBytes (newarray.typeOf t) ≤ 536870912 := by
    have : componentBytes (newarray.typeOf t) ≤ 8 := by cases t <;> decide
    calc n.toNatClampNeg * componentBytes (newarray.typeOf t) ≤ 60000 * 8 := Nat.mul_le_mul hnb this
      _ ≤ 536870912 := by decide
  refine va_newaK hx hb (hts _ k1) rfl hd rfl hn rfl hby (Nat.le_trans hu hC) (Nat.le_trans hw hSl) rfl fun H1 cA e1 z1 o1 hAr hNm => ?_
  obtain ⟨t0, ht⟩ := mm_tyI hK k2
  have hRA := (hK.1.2 t0 _ ht).2
  have hcA : cA = dA (newarray.typeOf t) := by
    cases t <;> exact Option.some.inj (hNm.symm.trans hRA)
  subst hcA
  refine go H1 (mm_made hh hz hal h9 hf hfr ?_ z1 o1)
  rw [mm_cellA hY]
  show H1[H.size]? = some (vp_cell _ _)
  rw [e1]
  have q1 : (mm_new M f i).1 f i = fun _ => 0 := funext fun _ => mm_z_own
  have q2 : (mm_new M f i).2.1 f i = fun _ => 0 := funext fun _ => mm_z_own
  unfold mm_arr
  rw [q1, q2]
  cases t <;> first | rfl | exact absurd hat (by unfold mm_at0; decide)
theorem mm_newq {H : Heap} {locs : List Loc} {u w pc : Nat} {la : Array Slot} {st : List mm_V} {M : mm_M} {ad : Nat → Nat → Nat} {f i ix : Nat} {C : String} {n : Int32} (X : mm_ctx p s m args meth c R g cc D dA sz) (hh : mm_h g D dA sz ad0 M0 s M ad H locs) (hal : g.2.2.2.1 = true) (hco : mm_CO g.1 ix = some C) (hn : ¬ n < 0) (hnb : n.toNatClampNeg ≤ 60000) (hY : mm_Y f = .inr (.object C, n.toNatClampNeg)) (h9 : f ≠ 999) (hf : ¬ M.2.2.2 f i) (hfr : ∀ a b c, M.2.2.1 a b c ≠ some (f, i)) (hu : u + 1 ≤ g.2.2.2.2.1) (hw : w + n.toNatClampNeg ≤ g.2.2.2.2.2.1) (hd : decode cc pc = .ok (.anewarray ix, 3))
    (go : ∀ (H1 : Heap), mm_h g D dA sz ad0 M0 s (mm_new M f i) (mm_ad ad f i H.size) H1 locs → W p l e R s m args below meth c H1 locs (u + 1) (w + n.toNatClampNeg) Qs (F0 m (pc + 3) la (.ref H.size :: st.map (mm_val ad)))) : W p l e R s m args below meth c H locs u w Qs (F0 m pc la (.int n :: st.map (mm_val ad))) := by
  obtain ⟨hx, hb, hml, hown, hts, hK, -, -, -, hz, hC, hSl, -⟩ := X
  obtain ⟨k1, k2⟩ := mm_COok hco
  refine W.anew hx hb hown (hts _ k1) (va_AO.use (hK.2.2.2 C k2)) rfl hd rfl hn (by omega) (Nat.le_trans hu hC) (Nat.le_trans hw hSl) fun cA kA comp f1 f2 f3 f4 => ?_
  generalize hH1 : H.push ({ cls := cA, slots := Array.replicate n.toNatClampNeg .null, vm := .none } : Cell) = H1
  have z1 : H1.size = H.size + 1 := by rw [← hH1, Array.size_push]
  have e1 : H1[H.size]? = some (arrV cA n.toNatClampNeg (fun _ => .null)) := by rw [← hH1, Array.getElem?_push_size, ← arrV_new]
  have o1 : ∀ q : Nat, q < H.size → H1[q]? = H[q]? := fun q hq => by rw [← hH1, Array.getElem?_push, if_neg (Nat.ne_of_lt hq)]
  obtain ⟨t0, ht⟩ := mm_tyI hK (mm_Yok hY)
  obtain ⟨kA', comp', g1, g2, g3, g4⟩ := (hK.1.2 t0 _ ht).2
  have hcA : cA = dA (.object C) := Option.some.inj (f1.symm.trans g4)
  subst hcA
  refine go H1 (mm_made hh hz hal h9 hf hfr ?_ z1 o1)
  rw [mm_cellA hY]
  show H1[H.size]? = some (vp_cell _ _)
  rw [e1]
  have q3 : ∀ k, (mm_new M f i).2.2.1 f i k = none := fun k => mm_z_own
  unfold mm_arr
  simp only [q3]
  rfl
/-- behind a call -/
theorem mm_callgo {H : Heap} {locs : List Loc} {u w pc mc ms : Nat} {la : Array Slot} {st0 rest : List Value} {M : mm_M} {ad : Nat → Nat → Nat} {al : Bool} {Post : Option mm_V → mm_M → Prop} {a : Array Value} (hr : va_Run p l e R s m args below meth c H locs u w mc ms (F0 m pc la st0) rest (mm_Qc D dA sz al ad M Post a) (fun q : Nat => sz ≤ q)) (hS : va_S (fun q : Nat => sz ≤ q) s.heap H locs)
    (kk : ∀ (v : Option mm_V) (M' : mm_M) (ad' : Nat → Nat → Nat) (H1 : Heap) (locs1 : List Loc), Post v M' → (al = false → ad' = ad) → (∀ f i, M.2.2.2 f i → ad' f i = ad f i ∧ M'.2.2.2 f i) → mm_R D dA sz ad' M' H1 → (∀ q : Nat, q < H.size → ¬ sz ≤ q → H1[q]? = H[q]?) → va_S (fun q : Nat => sz ≤ q) s.heap H1 locs1 → W p l e R s m args below meth c H1 locs1 (u + mc) (w + ms) Qs (F0 m (pc + 3) la ((v.map (mm_val ad')).toList ++ rest))) : W p l e R s m args below meth c H locs u w Qs (F0 m pc la st0) := by
  intro T hT X
  obtain ⟨v, st₀, t, T', L, h0, X', hL, e1, e2, ⟨⟨v', M', ad', hv, hp, ha1, ha2, hR, -⟩, hz, hk⟩, st⟩ := hr T hT X
  cases hv
  rw [h0] at hz hk
  obtain ⟨t2, a1, b1⟩ := kk v' M' ad' T'.heap (locs ++ L) hp ha1 ha2 (by rw [e1]; exact hR) (fun q h1 h2 => by rw [e1]; exact hk q h1 h2)
    ⟨Nat.le_trans hS.1 (by rw [e1]; exact hz), fun q h1 h2 => by rw [e1, hk q (Nat.lt_of_lt_of_le h1 hS.1) h2]; exact hS.2.1 q h1 h2, fun q hq => by
      rcases List.mem_append.mp hq with h | h
      · exact hS.2.2 q h
      · exact hL q h⟩ T' rfl X'
  exact ⟨t2, st t2 a1, b1⟩
theorem mm_blind {M : mm_M} {ad : Nat → Nat → Nat} {As : List mm_V} : FrameBlind (mm_Pc D dA sz ad M As) := fun a U g mk q => ⟨q.1, q.2.1, q.2.2.1, mm_K.same rfl q.2.2.2⟩
theorem mm_good {id : Nat} (h : Cond.code (mm_y id) (mm_cc id) (mm_ml id) (mm_rt id) ∈ mm_T) : GoodIn mm_T (mm_ws id) := by
  intro w hw
  rcases List.mem_cons.mp hw with rfl | hw
  · exact ⟨h, good_of_word (mm_Tgood _ h)⟩
  · exact ⟨hw, good_of_word (mm_Tgood _ hw)⟩
end MMS
