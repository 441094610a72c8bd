section MMS
variable {p : Program} {l : Launch} {e : Env} {R : Room} {s : State} {m : MethodId} {args : Array Value} {below : List Frame} {meth : Method} {c : Code} {Qs : State → Prop}
variable {g : mm_F} {cc : ByteArray} {D : va_G} {dA : FieldType → ClassId} {sz : Nat} {ad0 : Nat → Nat → Nat} {M0 : mm_M}
theorem mm_i32 {x : Int32} {a : Int} (h1 : -2147483648 ≤ a) (h2 : a < 2147483648) : x = Int32.ofInt a ↔ x.toInt = a := by
  have e : (Int32.ofInt a).toInt = a := Int32.toInt_ofInt_of_le (by simpa using h1) (by simpa using h2)
  constructor
  · rintro rfl
    exact e
  · intro h
    exact Int32.toInt_inj.mp (h.trans e.symm)
theorem mm_tsI {x : Int32} {k : Int → Prop} {d : Prop} : ∀ (offs : List Int) (lo : Int), -2147483648 ≤ lo → lo + (offs.length : Int) ≤ 2147483648 → mm_ts x lo offs k d → (∃ off, ¬ x.toInt < lo ∧ x.toInt < lo + (offs.length : Int) ∧ offs[(x.toInt - lo).toNat]? = some off ∧ k off) ∨ ((x.toInt < lo ∨ lo + (offs.length : Int) ≤ x.toInt) ∧ d)
  | [], lo, _, _, h => by
    right
    refine ⟨?_, h⟩
    simp only [List.length_nil]
    omega
  | o :: r, lo, h1, h2, h => by
    have hlen : ((o :: r).length : Int) = (r.length : Int) + 1 := by simp
    rw [hlen] at h2 ⊢
    by_cases hx : x.toInt = lo
    · left
      refine ⟨o, by omega, by omega, ?_, h.1 ((mm_i32 h1 (by omega)).mpr hx)⟩
      rw [hx, Int.sub_self]
      rfl
    · have hn : ¬ x = Int32.ofInt lo := fun q => hx ((mm_i32 h1 (by omega)).mp q)
      rcases mm_tsI r (lo + 1) (by omega) (by omega) (h.2 hn) with ⟨off, a1, a2, a3, a4⟩ | ⟨a1, a2⟩
      · left
        refine ⟨off, by omega, by omega, ?_, a4⟩
        rw [show (x.toInt - lo).toNat = (x.toInt - (lo + 1)).toNat + 1 by omega, List.getElem?_cons_succ]
        exact a3
      · right
        exact ⟨by omega, a2⟩
theorem mm_ksI {x : Int32} {k : Int → Prop} {d : Prop} {df : Int} (hd : d → k df) : ∀ (ps : List (Int × Int)), (∀ q ∈ ps, -2147483648 ≤ q.1 ∧ q.1 < 2147483648) → mm_ks x ps k d → k (Op.lookupswitch.offset ps df x.toInt)
  | [], _, h => hd h
  | q :: r, hp, h => by
    obtain ⟨a, o⟩ := q
    obtain ⟨h1, h2⟩ := hp (a, o) List.mem_cons_self
    rw [Op.lookupswitch.offset_cons]
    by_cases hx : x.toInt = a
    · rw [if_pos (by first | exact hx | exact hx.symm)]
      exact h.1 ((mm_i32 h1 h2).mpr hx)
    · rw [if_neg (by first | exact hx | exact fun q => hx q.symm)]
      exact mm_ksI hd r (fun q hq => hp q (List.mem_cons_of_mem _ hq)) (h.2 fun q => hx ((mm_i32 h1 h2).mp q))
theorem mm_callK {H : Heap} {locs : List Loc} {u w pc id : Nat} {la : Array Slot} {st0 : List Value} {M : mm_M} {ad : Nat → Nat → Nat} {ls : List (Option mm_V)} {As r : List mm_V} {K : mm_K0} {Γ : mm_G} (X : mm_ctx p s m args meth c R g cc D dA sz) (hh : mm_h g D dA sz ad0 M0 s M ad H locs) (hl : lv_has la g.2.1 (mm_L ad 0 ls)) (hΓ : mm_Ok l D dA sz R Γ) (hK : ∀ pc ls st M u w, K pc ls st M u w → mm_W p l e R s m args below meth c Qs g D dA sz ad0 M0 pc ls st M u w) (hc : mm_call g Γ K id As r pc ls M u w)
    (run : ∀ (rm : Room) (Post : Option mm_V → mm_M → Prop), rm.cells = mm_mc id → rm.slots = mm_ms id → rm.frames + 1 ≤ R.frames → 8 + (mm_ml id + 11) + rm.locals ≤ R.locals → Met l (mm_y id) (mm_ws id) rm (mm_Pc D dA sz ad M As) (mm_Qc D dA sz (mm_al id) ad M Post) (mm_mc id) (mm_ms id) (fun q : Nat => sz ≤ q) → (u + mm_mc id ≤ R.cells ∧ w + mm_ms id ≤ R.slots) → 2 * (F0 m pc la st0).monitorRoom + ((r.map (mm_val ad)).map fun v => v.category).sum ≤ 8 →
      va_Run p l e R s m args below meth c H locs u w (mm_mc id) (mm_ms id) (F0 m pc la st0) (r.map (mm_val ad)) (mm_Qc D dA sz (mm_al id) ad M Post (As.map (mm_val ad)).toArray) (fun q : Nat => sz ≤ q)) : W p l e R s m args below meth c H locs u w Qs (F0 m pc la st0) := by
  obtain ⟨h8, hu, hw, hal, hG⟩ := hc
  obtain ⟨rm, r1, r2, r3, r4, hM⟩ := hΓ _ _ _ _ hG
  obtain ⟨-, -, -, -, -, -, -, -, -, hz, hC, hSl, -⟩ := X
  refine mm_callgo (run rm _ r1 r2 r3 r4 (hM ad) ⟨Nat.le_trans hu hC, Nat.le_trans hw hSl⟩ (lv_room (by rw [mm_smV]; exact h8))) hh.2.2.2.2 fun v M' ad' H1 locs1 hp a1 a2 hR hk hS => ?_
  have hval : r.map (mm_val ad) = r.map (mm_val ad') ∧ mm_L ad 0 ls = mm_L ad' 0 ls := by
    cases ha : mm_al id with
    | false => rw [a1 ha]; exact ⟨rfl, rfl⟩
    | true => exact ⟨(mm_okSI (fun f i h => (a2 f i h).1) (hal ha).2.2).symm, (mm_okLI (fun f i h => (a2 f i h).1) (hal ha).2.1).symm⟩
  have hh' : mm_h g D dA sz ad0 M0 s M' ad' H1 locs1 := by
    obtain ⟨h1, h2, h3, h4, h5⟩ := hh
    refine ⟨fun q => ?_, fun f i hf => ?_, hR, ?_, hS⟩
    · cases ha : mm_al id with
      | false => rw [a1 ha]; exact h1 q
      | true => rw [(hal ha).1] at q; cases q
    · obtain ⟨b1, b2⟩ := h2 f i hf
      obtain ⟨b3, b4⟩ := a2 f i b2
      exact ⟨b3.trans b1, b4⟩
    · unfold mm_sc at h4 ⊢
      split
      · trivial
      · rename_i q hq
        rw [hq] at h4
        obtain ⟨b3, b4⟩ := a2 999 0 h4.2.2
        rw [b3]
        refine ⟨va_X.kept h4.1 (hk _ ?_ ?_), h4.2.1, b4⟩
        · have := h4.2.1; have := h5.1; omega
        · have := h4.2.1; omega
  have this := hK _ _ _ _ _ _ hp ad' H1 locs1 la hh' (by rw [← hval.2]; exact hl)
  rw [hval.1]
  have e : ((v.toList ++ r).map (mm_val ad')) = (v.map (mm_val ad')).toList ++ r.map (mm_val ad') := by cases v <;> simp
  rw [← e]
  exact this
theorem mm_pcI {H : Heap} {locs : List Loc} {M : mm_M} {ad : Nat → Nat → Nat} {As : List mm_V} (X : mm_ctx p s m args meth c R g cc D dA sz) (hh : mm_h g D dA sz ad0 M0 s M ad H locs) : ∀ U : State, U.heap = H → s.WarmedH U.vm → mm_Pc D dA sz ad M As (As.map (mm_val ad)).toArray U := by
  intro U hU hW
  obtain ⟨-, -, -, -, -, hK, -, -, -, hz, -⟩ := X
  exact ⟨rfl, by rw [hU]; exact Nat.le_trans hz hh.2.2.2.2.1, by rw [hU]; exact hh.2.2.1, mm_K.moved hW hK⟩
theorem mm_recvI {H : Heap} {locs : List Loc} {M : mm_M} {ad : Nat → Nat → Nat} {f i ci : Nat} (X : mm_ctx p s m args meth c R g cc D dA sz) (hh : mm_h g D dA sz ad0 M0 s M ad H locs) (hi : mm_is M f i ci) : ∃ cell : Cell, H[ad f i]? = some cell ∧ cell.vm.isStatics = false ∧ s.vm.findClass (mm_nm ci) = some cell.cls := by
  obtain ⟨-, -, -, -, -, hK, -⟩ := X
  obtain ⟨hY, h9, hdm⟩ := hi
  obtain ⟨r, hc, e1, -⟩ := mm_clok hY
  have hat := (hh.2.2.1.1 f i h9 hdm).1
  rw [mm_cellO hY] at hat
  obtain ⟨q', h1, cell, g1, g2, g3, -⟩ := hat
  exact ⟨cell, g1, by rw [g3]; rfl, by rw [← e1, g2]; exact (hK.1.1 ci r hc).2.1⟩
theorem mm_revI {ad : Nat → Nat → Nat} (xs r : List mm_V) : ((xs.reverse ++ []).map (mm_val ad)).reverse ++ r.map (mm_val ad) = (xs ++ r).map (mm_val ad) := by
  rw [List.append_nil, List.map_reverse, List.reverse_reverse, List.map_append]

set_option maxHeartbeats 4000000 in
theorem mm_i_sound {Γ : mm_G} {Q : Option mm_V → mm_M → Prop} {K : mm_K0} (X : mm_ctx p s m args meth c R g cc D dA sz) (hΓ : mm_Ok l D dA sz R Γ)
    (hK : ∀ pc ls st M u w, K pc ls st M u w → mm_W p l e R s m args below meth c Qs g D dA sz ad0 M0 pc ls st M u w)
    (hretI : ∀ (x : Int32) (ty : FieldType) (M : mm_M) (ad : Nat → Nat → Nat) (H : Heap) (locs : List Loc) (la : Array Slot) (pc : Nat), Q (some (.inl x)) M → g.2.2.1 = some ty → narrow ty (.int x) = .int x → decode cc pc = .ok (.ireturn, 1) → mm_h g D dA sz ad0 M0 s M ad H locs → W p l e R s m args below meth c H locs g.2.2.2.2.1 g.2.2.2.2.2.1 Qs (F0 m pc la [.int x]))
    (hretL : ∀ (x : Int64) (M : mm_M) (ad : Nat → Nat → Nat) (H : Heap) (locs : List Loc) (la : Array Slot) (pc : Nat), Q (some (.inr (.inl x))) M → g.2.2.1 = some .long → decode cc pc = .ok (.lreturn, 1) → mm_h g D dA sz ad0 M0 s M ad H locs → W p l e R s m args below meth c H locs g.2.2.2.2.1 g.2.2.2.2.2.1 Qs (F0 m pc la [.long x]))
    (hretV : ∀ (M : mm_M) (ad : Nat → Nat → Nat) (H : Heap) (locs : List Loc) (la : Array Slot) (pc : Nat), Q none M → g.2.2.1 = none → decode cc pc = .ok (.return_, 1) → mm_h g D dA sz ad0 M0 s M ad H locs → W p l e R s m args below meth c H locs g.2.2.2.2.1 g.2.2.2.2.2.1 Qs (F0 m pc la []))
    {ins : Instr} {len pc : Nat} {ls : List (Option mm_V)} {st : List mm_V} {M : mm_M} {u w : Nat} (hd : decode cc pc = .ok (ins, len)) (h : mm_i g Γ Q K ins len pc ls st M u w) : mm_W p l e R s m args below meth c Qs g D dA sz ad0 M0 pc ls st M u w := by
  intro ad H locs la hh hl
  have X' := X
  obtain ⟨hx, hb, hml, hown, hts, hKm, hlk, hrt, hct, hz, hC, hSl, hfr, hlo⟩ := X
  have go : ∀ (pc' : Nat) (ls' : List (Option mm_V)) (st' : List mm_V) (u' w' : Nat) (la' : Array Slot), K pc' ls' st' M u' w' → lv_has la' g.2.1 (mm_L ad 0 ls') → W p l e R s m args below meth c H locs u' w' Qs (F0 m pc' la' (st'.map (mm_val ad))) := fun _ _ _ _ _ la' hk hl' => hK _ _ _ _ _ _ hk ad H locs la' hh hl'
  cases ins
  case iconst n =>
    obtain ⟨rfl, h⟩ := h
    exact lv_iconst hx hb hd rfl (go _ _ _ _ _ _ h hl)
  case bipush n =>
    obtain ⟨rfl, h⟩ := h
    exact lv_bipush hx hb hd rfl (go _ _ _ _ _ _ h hl)
  case sipush n =>
    obtain ⟨rfl, h⟩ := h
    exact lv_sipush hx hb hd rfl (go _ _ _ _ _ _ h hl)
  case lconst n =>
    obtain ⟨rfl, h⟩ := h
    exact lv_lconst hx hb hd rfl (go _ _ _ _ _ _ h hl)
  case ldc i =>
    obtain ⟨rfl, h⟩ := h
    obtain ⟨v, hv, h⟩ := mm_oI h
    exact lv_ldc hx hb hown (hts _ (mm_CIok hv)) hd (go _ _ _ _ _ _ h hl)
  case ldc2_w i =>
    obtain ⟨rfl, h⟩ := h
    obtain ⟨v, hv, h⟩ := mm_oI h
    exact lv_ldc2 hx hb hown (hts _ (mm_CLok hv)) hd (go _ _ _ _ _ _ h hl)
  case iload_n k =>
    obtain ⟨rfl, h⟩ := h
    obtain ⟨v, hv, h⟩ := mm_lVI h
    obtain ⟨x, e_0, h_2⟩ := mm_vII h
    subst e_0
    clear h
    have h := h_2
    clear h_2
    exact lv_iload_n hx hb hd rfl (mm_L_at hl hv) (go _ _ _ _ _ _ h hl)
  case iload k =>
    obtain ⟨rfl, h⟩ := h
    obtain ⟨v, hv, h⟩ := mm_lVI h
    obtain ⟨x, e_0, h_2⟩ := mm_vII h
    subst e_0
    clear h
    have h := h_2
    clear h_2
    exact lv_iload hx hb hd (mm_L_at hl hv) (go _ _ _ _ _ _ h hl)
  case lload_n k =>
    obtain ⟨rfl, h⟩ := h
    obtain ⟨v, hv, h⟩ := mm_lVI h
    obtain ⟨x, e_0, h_2⟩ := mm_vLI h
    subst e_0
    clear h
    have h := h_2
    clear h_2
    exact lv_lload_n hx hb hd rfl (mm_L_at hl hv) (go _ _ _ _ _ _ h hl)
  case lload k =>
    obtain ⟨rfl, h⟩ := h
    obtain ⟨v, hv, h⟩ := mm_lVI h
    obtain ⟨x, e_0, h_2⟩ := mm_vLI h
    subst e_0
    clear h
    have h := h_2
    clear h_2
    exact lv_lload hx hb hd (mm_L_at hl hv) (go _ _ _ _ _ _ h hl)
  case aload_n k =>
    obtain ⟨rfl, h⟩ := h
    obtain ⟨v, hv, h⟩ := mm_lVI h
    obtain ⟨x, e_0, h_2⟩ := mm_vQI h
    subst e_0
    clear h
    have h := h_2
    clear h_2
    cases x with
    | none => exact lv_aload_nN hx hb hd rfl (mm_L_at hl hv) (go _ _ _ _ _ _ h hl)
    | some q => exact lv_aload_n hx hb hd rfl (mm_L_at hl hv) (go _ _ _ _ _ _ h hl)
  case aload k =>
    obtain ⟨rfl, h⟩ := h
    obtain ⟨v, hv, h⟩ := mm_lVI h
    obtain ⟨x, e_0, h_2⟩ := mm_vQI h
    subst e_0
    clear h
    have h := h_2
    clear h_2
    cases x with
    | none => exact lv_aloadN hx hb hd (mm_L_at hl hv) (go _ _ _ _ _ _ h hl)
    | some q => exact lv_aload hx hb hd (mm_L_at hl hv) (go _ _ _ _ _ _ h hl)
  case istore_n k =>
    obtain ⟨rfl, hn, h⟩ := h
    obtain ⟨x, r, e_0, h_2⟩ := mm_pII h
    subst e_0
    clear h
    have h := h_2
    clear h_2
    exact lv_istore_n hx hb hd rfl hl hn rfl (fun la' hl' => go _ _ _ _ _ _ h (mm_L_st1 (v := .inl x) la' _ hl'))
  case istore k =>
    obtain ⟨rfl, hn, h⟩ := h
    obtain ⟨x, r, e_0, h_2⟩ := mm_pII h
    subst e_0
    clear h
    have h := h_2
    clear h_2
    exact lv_istore hx hb hd hl hn rfl (fun la' hl' => go _ _ _ _ _ _ h (mm_L_st1 (v := .inl x) la' _ hl'))
  case lstore_n k =>
    obtain ⟨rfl, hn, h⟩ := h
    obtain ⟨x, r, e_0, h_2⟩ := mm_pLI h
    subst e_0
    clear h
    have h := h_2
    clear h_2
    exact lv_lstore_n hx hb hd rfl hl hn rfl (fun la' hl' => go _ _ _ _ _ _ h (mm_L_st2 (v := .inr (.inl x)) la' _ hl'))
  case lstore k =>
    obtain ⟨rfl, hn, h⟩ := h
    obtain ⟨x, r, e_0, h_2⟩ := mm_pLI h
    subst e_0
    clear h
    have h := h_2
    clear h_2
    exact lv_lstore hx hb hd hl hn rfl (fun la' hl' => go _ _ _ _ _ _ h (mm_L_st2 (v := .inr (.inl x)) la' _ hl'))
  case astore_n k =>
    obtain ⟨rfl, hn, h⟩ := h
    obtain ⟨f, i, r, e_0, h_2⟩ := mm_pRI h
    subst e_0
    clear h
    have h := h_2
    clear h_2
    exact lv_astore_n hx hb hd rfl hl hn rfl (fun la' hl' => go _ _ _ _ _ _ h (mm_L_st1 (v := .inr (.inr (some (f, i)))) la' _ hl'))
  case astore k =>
    obtain ⟨rfl, hn, h⟩ := h
    obtain ⟨f, i, r, e_0, h_2⟩ := mm_pRI h
    subst e_0
    clear h
    have h := h_2
    clear h_2
    exact lv_astore hx hb hd hl hn rfl (fun la' hl' => go _ _ _ _ _ _ h (mm_L_st1 (v := .inr (.inr (some (f, i)))) la' _ hl'))
  case iinc k n =>
    obtain ⟨rfl, hn, h⟩ := h
    obtain ⟨v, hv, h⟩ := mm_lVI h
    obtain ⟨x, e_0, h_2⟩ := mm_vII h
    subst e_0
    clear h
    have h := h_2
    clear h_2
    obtain ⟨k0, hk0⟩ := List.getElem?_of_mem ((mm_L_mem (ad := ad) ls 0 (k, .int x)).mpr ⟨k, .inl x, hv, by rw [Nat.zero_add]; rfl⟩)
    exact lv_iinc hx hb hd hl hk0 rfl hn rfl (fun la' hl' => go _ _ _ _ _ _ h (mm_L_st1 (v := .inl (x + Int32.ofInt n)) la' _ hl'))
  case iadd =>
    obtain ⟨rfl, h⟩ := h
    obtain ⟨y, r, e_0, h_2⟩ := mm_pII h
    subst e_0
    clear h
    have h := h_2
    clear h_2
    obtain ⟨x, r, e_0, h_2⟩ := mm_pII h
    subst e_0
    clear h
    have h := h_2
    clear h_2
    exact lv_iadd hx hb hd (go _ _ _ _ _ _ h hl)
  case isub =>
    obtain ⟨rfl, h⟩ := h
    obtain ⟨y, r, e_0, h_2⟩ := mm_pII h
    subst e_0
    clear h
    have h := h_2
    clear h_2
    obtain ⟨x, r, e_0, h_2⟩ := mm_pII h
    subst e_0
    clear h
    have h := h_2
    clear h_2
    exact lv_isub hx hb hd (go _ _ _ _ _ _ h hl)
  case imul =>
    obtain ⟨rfl, h⟩ := h
    obtain ⟨y, r, e_0, h_2⟩ := mm_pII h
    subst e_0
    clear h
    have h := h_2
    clear h_2
    obtain ⟨x, r, e_0, h_2⟩ := mm_pII h
    subst e_0
    clear h
    have h := h_2
    clear h_2
    exact lv_imul hx hb hd (go _ _ _ _ _ _ h hl)
  case iand =>
    obtain ⟨rfl, h⟩ := h
    obtain ⟨y, r, e_0, h_2⟩ := mm_pII h
    subst e_0
    clear h
    have h := h_2
    clear h_2
    obtain ⟨x, r, e_0, h_2⟩ := mm_pII h
    subst e_0
    clear h
    have h := h_2
    clear h_2
    exact lv_iand hx hb hd (go _ _ _ _ _ _ h hl)
  case ior =>
    obtain ⟨rfl, h⟩ := h
    obtain ⟨y, r, e_0, h_2⟩ := mm_pII h
    subst e_0
    clear h
    have h := h_2
    clear h_2
    obtain ⟨x, r, e_0, h_2⟩ := mm_pII h
    subst e_0
    clear h
    have h := h_2
    clear h_2
    exact lv_ior hx hb hd (go _ _ _ _ _ _ h hl)
  case ixor =>
    obtain ⟨rfl, h⟩ := h
    obtain ⟨y, r, e_0, h_2⟩ := mm_pII h
    subst e_0
    clear h
    have h := h_2
    clear h_2
    obtain ⟨x, r, e_0, h_2⟩ := mm_pII h
    subst e_0
    clear h
    have h := h_2
    clear h_2
    exact lv_ixor hx hb hd (go _ _ _ _ _ _ h hl)
  case ishl =>
    obtain ⟨rfl, h⟩ := h
    obtain ⟨y, r, e_0, h_2⟩ := mm_pII h
    subst e_0
    clear h
    have h := h_2
    clear h_2
    obtain ⟨x, r, e_0, h_2⟩ := mm_pII h
    subst e_0
    clear h
    have h := h_2
    clear h_2
    exact lv_ishl hx hb hd (go _ _ _ _ _ _ h hl)
  case ishr =>
    obtain ⟨rfl, h⟩ := h
    obtain ⟨y, r, e_0, h_2⟩ := mm_pII h
    subst e_0
    clear h
    have h := h_2
    clear h_2
    obtain ⟨x, r, e_0, h_2⟩ := mm_pII h
    subst e_0
    clear h
    have h := h_2
    clear h_2
    exact lv_ishr hx hb hd (go _ _ _ _ _ _ h hl)
  case iushr =>
    obtain ⟨rfl, h⟩ := h
    obtain ⟨y, r, e_0, h_2⟩ := mm_pII h
    subst e_0
    clear h
    have h := h_2
    clear h_2
    obtain ⟨x, r, e_0, h_2⟩ := mm_pII h
    subst e_0
    clear h
    have h := h_2
    clear h_2
    exact lv_iushr hx hb hd rfl (go _ _ _ _ _ _ h hl)
  case idiv =>
    obtain ⟨rfl, h⟩ := h
    obtain ⟨y, r, e_0, h_2⟩ := mm_pII h
    subst e_0
    clear h
    have h := h_2
    clear h_2
    obtain ⟨x, r, e_0, hne, h_2⟩ := mm_pII h
    subst e_0
    clear h
    have h := h_2
    clear h_2
    exact lv_idiv hx hb hd hne (go _ _ _ _ _ _ h hl)
  case irem =>
    obtain ⟨rfl, h⟩ := h
    obtain ⟨y, r, e_0, h_2⟩ := mm_pII h
    subst e_0
    clear h
    have h := h_2
    clear h_2
    obtain ⟨x, r, e_0, hne, h_2⟩ := mm_pII h
    subst e_0
    clear h
    have h := h_2
    clear h_2
    exact lv_irem hx hb hd hne (go _ _ _ _ _ _ h hl)
  case ineg =>
    obtain ⟨rfl, h⟩ := h
    obtain ⟨x, r, e_0, h_2⟩ := mm_pII h
    subst e_0
    clear h
    have h := h_2
    clear h_2
    exact lv_ineg hx hb hd (go _ _ _ _ _ _ h hl)
  case ladd =>
    obtain ⟨rfl, h⟩ := h
    obtain ⟨y, r, e_0, h_2⟩ := mm_pLI h
    subst e_0
    clear h
    have h := h_2
    clear h_2
    obtain ⟨x, r, e_0, h_2⟩ := mm_pLI h
    subst e_0
    clear h
    have h := h_2
    clear h_2
    exact lv_ladd hx hb hd (go _ _ _ _ _ _ h hl)
  case lsub =>
    obtain ⟨rfl, h⟩ := h
    obtain ⟨y, r, e_0, h_2⟩ := mm_pLI h
    subst e_0
    clear h
    have h := h_2
    clear h_2
    obtain ⟨x, r, e_0, h_2⟩ := mm_pLI h
    subst e_0
    clear h
    have h := h_2
    clear h_2
    exact lv_lsub hx hb hd (go _ _ _ _ _ _ h hl)
  case lmul =>
    obtain ⟨rfl, h⟩ := h
    obtain ⟨y, r, e_0, h_2⟩ := mm_pLI h
    subst e_0
    clear h
    have h := h_2
    clear h_2
    obtain ⟨x, r, e_0, h_2⟩ := mm_pLI h
    subst e_0
    clear h
    have h := h_2
    clear h_2
    exact lv_lmul hx hb hd (go _ _ _ _ _ _ h hl)
  case land =>
    obtain ⟨rfl, h⟩ := h
    obtain ⟨y, r, e_0, h_2⟩ := mm_pLI h
    subst e_0
    clear h
    have h := h_2
    clear h_2
    obtain ⟨x, r, e_0, h_2⟩ := mm_pLI h
    subst e_0
    clear h
    have h := h_2
    clear h_2
    exact lv_land hx hb hd (go _ _ _ _ _ _ h hl)
  case lor =>
    obtain ⟨rfl, h⟩ := h
    obtain ⟨y, r, e_0, h_2⟩ := mm_pLI h
    subst e_0
    clear h
    have h := h_2
    clear h_2
    obtain ⟨x, r, e_0, h_2⟩ := mm_pLI h
    subst e_0
    clear h
    have h := h_2
    clear h_2
    exact lv_lor hx hb hd (go _ _ _ _ _ _ h hl)
  case lxor =>
    obtain ⟨rfl, h⟩ := h
    obtain ⟨y, r, e_0, h_2⟩ := mm_pLI h
    subst e_0
    clear h
    have h := h_2
    clear h_2
    obtain ⟨x, r, e_0, h_2⟩ := mm_pLI h
    subst e_0
    clear h
    have h := h_2
    clear h_2
    exact lv_lxor hx hb hd (go _ _ _ _ _ _ h hl)
  case ldiv =>
    obtain ⟨rfl, h⟩ := h
    obtain ⟨y, r, e_0, h_2⟩ := mm_pLI h
    subst e_0
    clear h
    have h := h_2
    clear h_2
    obtain ⟨x, r, e_0, hne, h_2⟩ := mm_pLI h
    subst e_0
    clear h
    have h := h_2
    clear h_2
    exact lv_ldiv hx hb hd hne (go _ _ _ _ _ _ h hl)
  case lrem =>
    obtain ⟨rfl, h⟩ := h
    obtain ⟨y, r, e_0, h_2⟩ := mm_pLI h
    subst e_0
    clear h
    have h := h_2
    clear h_2
    obtain ⟨x, r, e_0, hne, h_2⟩ := mm_pLI h
    subst e_0
    clear h
    have h := h_2
    clear h_2
    exact lv_lrem hx hb hd hne (go _ _ _ _ _ _ h hl)
  case lneg =>
    obtain ⟨rfl, h⟩ := h
    obtain ⟨x, r, e_0, h_2⟩ := mm_pLI h
    subst e_0
    clear h
    have h := h_2
    clear h_2
    exact lv_lneg hx hb hd (go _ _ _ _ _ _ h hl)
  case lshl =>
    obtain ⟨rfl, h⟩ := h
    obtain ⟨y, r, e_0, h_2⟩ := mm_pII h
    subst e_0
    clear h
    have h := h_2
    clear h_2
    obtain ⟨x, r, e_0, h_2⟩ := mm_pLI h
    subst e_0
    clear h
    have h := h_2
    clear h_2
    exact lv_lshl hx hb hd rfl (go _ _ _ _ _ _ h hl)
  case lshr =>
    obtain ⟨rfl, h⟩ := h
    obtain ⟨y, r, e_0, h_2⟩ := mm_pII h
    subst e_0
    clear h
    have h := h_2
    clear h_2
    obtain ⟨x, r, e_0, h_2⟩ := mm_pLI h
    subst e_0
    clear h
    have h := h_2
    clear h_2
    exact lv_lshr hx hb hd rfl (go _ _ _ _ _ _ h hl)
  case lushr =>
    obtain ⟨rfl, h⟩ := h
    obtain ⟨y, r, e_0, h_2⟩ := mm_pII h
    subst e_0
    clear h
    have h := h_2
    clear h_2
    obtain ⟨x, r, e_0, h_2⟩ := mm_pLI h
    subst e_0
    clear h
    have h := h_2
    clear h_2
    exact lv_lushr hx hb hd rfl (go _ _ _ _ _ _ h hl)
  case i2l =>
    obtain ⟨rfl, h⟩ := h
    obtain ⟨x, r, e_0, h_2⟩ := mm_pII h
    subst e_0
    clear h
    have h := h_2
    clear h_2
    exact lv_i2l hx hb hd rfl (go _ _ _ _ _ _ h hl)
  case l2i =>
    obtain ⟨rfl, h⟩ := h
    obtain ⟨x, r, e_0, h_2⟩ := mm_pLI h
    subst e_0
    clear h
    have h := h_2
    clear h_2
    exact lv_l2i hx hb hd rfl (go _ _ _ _ _ _ h hl)
  case lcmp =>
    obtain ⟨rfl, h⟩ := h
    obtain ⟨y, r, e_0, h_2⟩ := mm_pLI h
    subst e_0
    clear h
    have h := h_2
    clear h_2
    obtain ⟨x, r, e_0, h_2⟩ := mm_pLI h
    subst e_0
    clear h
    have h := h_2
    clear h_2
    exact W.lcmp hx hb hd (go _ _ _ _ _ _ h hl)
  case dup =>
    obtain ⟨rfl, h⟩ := h
    obtain ⟨v, r, e_0, h1, h_2⟩ := mm_p1I h
    subst e_0
    clear h
    have h := h_2
    clear h_2
    exact lv_dup hx hb hd (by rw [mm_catV]; exact h1) (go _ _ (v :: v :: r) _ _ _ h hl)
  case pop =>
    obtain ⟨rfl, h⟩ := h
    obtain ⟨v, r, e_0, h1, h_2⟩ := mm_p1I h
    subst e_0
    clear h
    have h := h_2
    clear h_2
    exact lv_pop hx hb hd (by rw [mm_catV]; exact h1) (go _ _ r _ _ _ h hl)
  case dup_x1 =>
    obtain ⟨rfl, h⟩ := h
    obtain ⟨v, r, e_0, h_2⟩ := mm_p1I h
    subst e_0
    clear h
    have h := h_2
    clear h_2
    obtain ⟨v2, r, e_0, h1, h2, h_2⟩ := mm_p1I h
    subst e_0
    clear h
    have h := h_2
    clear h_2
    exact lv_dup_x1 hx hb hd (by rw [mm_catV]; exact h1) (by rw [mm_catV]; exact h2) (go _ _ (v :: v2 :: v :: r) _ _ _ h hl)
  case dup2 =>
    obtain ⟨rfl, h⟩ := h
    obtain ⟨v, r, e_0, h_2⟩ := mm_p1I h
    subst e_0
    clear h
    have h := h_2
    clear h_2
    obtain ⟨v2, r, e_0, h1, h2, h_2⟩ := mm_p1I h
    subst e_0
    clear h
    have h := h_2
    clear h_2
    exact lv_dup2_11 hx hb hd (by rw [mm_catV]; exact h1) (by rw [mm_catV]; exact h2) (go _ _ (v :: v2 :: v :: v2 :: r) _ _ _ h hl)
  case ifCond cd off =>
    obtain ⟨rfl, ho, h⟩ := h
    obtain ⟨x, r, e_0, h_2⟩ := mm_pII h
    subst e_0
    clear h
    have h := h_2
    clear h_2
    cases cd
    case eq => exact lv_if_eq hx hb hd (mm_jmpI ho) (fun q => go _ _ _ _ _ _ (h.1 q) hl) (fun q => go _ _ _ _ _ _ (h.2 q) hl)
    case ne => exact lv_if_ne hx hb hd (mm_jmpI ho) (fun q => go _ _ _ _ _ _ (h.1 q) hl) (fun q => go _ _ _ _ _ _ (h.2 (fun z => z q)) hl)
    case lt => exact lv_if_lt hx hb hd (mm_jmpI ho) (fun q => go _ _ _ _ _ _ (h.1 q) hl) (fun q => go _ _ _ _ _ _ (h.2 q) hl)
    case ge => exact lv_if_ge hx hb hd (mm_jmpI ho) (fun q => go _ _ _ _ _ _ (h.1 q) hl) (fun q => go _ _ _ _ _ _ (h.2 q) hl)
    case gt => exact lv_if_gt hx hb hd (mm_jmpI ho) (fun q => go _ _ _ _ _ _ (h.1 q) hl) (fun q => go _ _ _ _ _ _ (h.2 q) hl)
    case le => exact lv_if_le hx hb hd (mm_jmpI ho) (fun q => go _ _ _ _ _ _ (h.1 q) hl) (fun q => go _ _ _ _ _ _ (h.2 q) hl)
  case if_icmp cd off =>
    obtain ⟨rfl, ho, h⟩ := h
    obtain ⟨y, r, e_0, h_2⟩ := mm_pII h
    subst e_0
    clear h
    have h := h_2
    clear h_2
    obtain ⟨x, r, e_0, h_2⟩ := mm_pII h
    subst e_0
    clear h
    have h := h_2
    clear h_2
    cases cd
    case eq => exact lv_icmp_eq hx hb hd (mm_jmpI ho) (fun q => go _ _ _ _ _ _ (h.1 q) hl) (fun q => go _ _ _ _ _ _ (h.2 q) hl)
    case ne => exact lv_icmp_ne hx hb hd (mm_jmpI ho) (fun q => go _ _ _ _ _ _ (h.1 q) hl) (fun q => go _ _ _ _ _ _ (h.2 (fun z => z q)) hl)
    case lt => exact lv_icmp_lt hx hb hd (mm_jmpI ho) (fun q => go _ _ _ _ _ _ (h.1 q) hl) (fun q => go _ _ _ _ _ _ (h.2 q) hl)
    case ge => exact lv_icmp_ge hx hb hd (mm_jmpI ho) (fun q => go _ _ _ _ _ _ (h.1 q) hl) (fun q => go _ _ _ _ _ _ (h.2 q) hl)
    case gt => exact lv_icmp_gt hx hb hd (mm_jmpI ho) (fun q => go _ _ _ _ _ _ (h.1 q) hl) (fun q => go _ _ _ _ _ _ (h.2 q) hl)
    case le => exact lv_icmp_le hx hb hd (mm_jmpI ho) (fun q => go _ _ _ _ _ _ (h.1 q) hl) (fun q => go _ _ _ _ _ _ (h.2 q) hl)
  case goto off =>
    obtain ⟨rfl, ho, h⟩ := h
    exact lv_goto hx hb hd (mm_jmpI ho) (go _ _ _ _ _ _ h hl)
  case tableswitch d lo hi offs =>
    obtain ⟨⟨t1, t2, t3⟩, h⟩ := h
    obtain ⟨x, r, e_0, h_2⟩ := mm_pII h
    subst e_0
    clear h
    have h := h_2
    clear h_2
    rcases mm_tsI offs.toList lo t2 t3 h with ⟨off, a1, a2, a3, a4, a5⟩ | ⟨a1, a2, a3⟩
    · exact lv_tableIn hx hb hd a1 (by omega) (by rw [← Array.getElem?_toList]; exact a3) (mm_jmpI a4) (go _ _ _ _ _ _ a5 hl)
    · exact lv_tableOut hx hb hd (by omega) (mm_jmpI a2) (go _ _ _ _ _ _ a3 hl)
  case lookupswitch d ps =>
    obtain ⟨⟨t1, t2⟩, h⟩ := h
    obtain ⟨x, r, e_0, h_2⟩ := mm_pII h
    subst e_0
    clear h
    have h := h_2
    clear h_2
    obtain ⟨a4, a5⟩ := mm_ksI (df := d) (fun z => z) ps.toList t2 h
    exact lv_lookup hx hb hd t1 rfl (mm_jmpI a4) (go _ _ _ _ _ _ a5 hl)
  case getfield ix =>
    obtain ⟨rfl, h⟩ := h
    obtain ⟨f, i, r, e_0, h_2⟩ := mm_pRI h
    subst e_0
    clear h
    have h := h_2
    clear h_2
    obtain ⟨⟨ci, k⟩, hq, hi, h⟩ := mm_oI h
    exact mm_getf X' hh.2.2.1 hq hi hd (go _ _ (mm_get M (mm_ft ci k) f i k :: r) _ _ _ h hl)
  case putfield ix =>
    obtain ⟨rfl, h⟩ := h
    obtain ⟨⟨ci, k⟩, hq, h⟩ := mm_oI h
    obtain ⟨v, r, e_0, h_2⟩ := mm_p1I h
    subst e_0
    clear h
    have h := h_2
    clear h_2
    obtain ⟨f, i, r, e_0, hi, hp, h_2⟩ := mm_pRI h
    subst e_0
    clear h
    have h := h_2
    clear h_2
    exact mm_putf X' hh hq hi hp h hd (fun M' H1 locs1 hk hh' => hK _ _ _ _ _ _ hk ad H1 locs1 la hh' hl)
  case iaload =>
    obtain ⟨rfl, h⟩ := h
    obtain ⟨j, r, e_0, h_2⟩ := mm_pII h
    subst e_0
    clear h
    have h := h_2
    clear h_2
    obtain ⟨f, i, r, e_0, h_2⟩ := mm_pRI h
    subst e_0
    clear h
    have h := h_2
    clear h_2
    split at h
    · rename_i e9
      subst e9
      obtain ⟨q, hq, e_0, hin, h_2⟩ := mm_oI h
      subst e_0
      clear h
      have h := h_2
      clear h_2
      have h4 := hh.2.2.2.1
      unfold mm_sc at h4
      rw [hq] at h4
      obtain ⟨scr, c1, c2, c3, c4, c5⟩ := h4.1
      have hlt : j.toNatClampNeg < q.1 := Nat.not_le.mp fun z => hin (Or.inr z)
      exact W.iald (v := .int (q.2 j.toNatClampNeg)) hx hb c1 c2 c3 (by rw [c4]; exact hin) (c5 _ hlt) rfl rfl hd (go _ _ (.inl (q.2 j.toNatClampNeg) :: r) _ _ _ h hl)
    · obtain ⟨⟨hY, h9, hdm⟩, hin, h⟩ := h
      have hat := (hh.2.2.1.1 f i h9 hdm).1
      rw [mm_cellA hY] at hat
      obtain ⟨t0, ht⟩ := mm_tyI hKm (mm_Yok hY)
      exact va_iald hx hb hKm.1 (mm_one hat) 0 t0 rfl ht hin hd (go _ _ (.inl (M.1 f i j.toNatClampNeg) :: r) _ _ _ h hl)
  case baload =>
    obtain ⟨rfl, h⟩ := h
    obtain ⟨j, r, e_0, h_2⟩ := mm_pII h
    subst e_0
    clear h
    have h := h_2
    clear h_2
    obtain ⟨f, i, r, e_0, h_2⟩ := mm_pRI h
    subst e_0
    clear h
    have h := h_2
    clear h_2
    obtain ⟨⟨hY, h9, hdm⟩, hin, h⟩ := h
    have hat := (hh.2.2.1.1 f i h9 hdm).1
    rw [mm_cellA hY] at hat
    obtain ⟨t0, ht⟩ := mm_tyI hKm (mm_Yok hY)
    exact va_zald hx hb hKm.1 (mm_one hat) 0 t0 rfl ht hin hd (go _ _ (.inl (M.1 f i j.toNatClampNeg) :: r) _ _ _ h hl)
  case laload =>
    obtain ⟨rfl, h⟩ := h
    obtain ⟨j, r, e_0, h_2⟩ := mm_pII h
    subst e_0
    clear h
    have h := h_2
    clear h_2
    obtain ⟨f, i, r, e_0, h_2⟩ := mm_pRI h
    subst e_0
    clear h
    have h := h_2
    clear h_2
    obtain ⟨⟨hY, h9, hdm⟩, hin, h⟩ := h
    have hat := (hh.2.2.1.1 f i h9 hdm).1
    rw [mm_cellA hY] at hat
    obtain ⟨t0, ht⟩ := mm_tyI hKm (mm_Yok hY)
    exact va_lald hx hb hKm.1 (mm_one hat) 0 t0 rfl ht hin hd (go _ _ (.inr (.inl (M.2.1 f i j.toNatClampNeg)) :: r) _ _ _ h hl)
  case aaload =>
    obtain ⟨rfl, h⟩ := h
    obtain ⟨j, r, e_0, h_2⟩ := mm_pII h
    subst e_0
    clear h
    have h := h_2
    clear h_2
    obtain ⟨f, i, r, e_0, C, h_2⟩ := mm_pRI h
    subst e_0
    clear h
    have h := h_2
    clear h_2
    obtain ⟨⟨hY, h9, hdm⟩, hin, h⟩ := h
    have hat := (hh.2.2.1.1 f i h9 hdm).1
    rw [mm_cellA hY] at hat
    obtain ⟨t0, ht⟩ := mm_tyI hKm (mm_Yok hY)
    exact va_aldq hx hb hKm.1 (mm_one hat) 0 t0 rfl ht hin hd (go _ _ (.inr (.inr (M.2.2.1 f i j.toNatClampNeg)) :: r) _ _ _ h hl)
  case iastore =>
    obtain ⟨rfl, h⟩ := h
    obtain ⟨x, r, e_0, h_2⟩ := mm_pII h
    subst e_0
    clear h
    have h := h_2
    clear h_2
    obtain ⟨j, r, e_0, h_2⟩ := mm_pII h
    subst e_0
    clear h
    have h := h_2
    clear h_2
    obtain ⟨f, i, r, e_0, hi, hin, h_2⟩ := mm_pRI h
    subst e_0
    clear h
    have h := h_2
    clear h_2
    exact mm_iast X' hh hi hin hd (fun H1 locs1 hh' => hK _ _ _ _ _ _ h ad H1 locs1 la hh' hl)
  case bastore =>
    obtain ⟨rfl, h⟩ := h
    obtain ⟨x, r, e_0, h_2⟩ := mm_pII h
    subst e_0
    clear h
    have h := h_2
    clear h_2
    obtain ⟨j, r, e_0, h_2⟩ := mm_pII h
    subst e_0
    clear h
    have h := h_2
    clear h_2
    obtain ⟨f, i, r, e_0, hi, hin, h_2⟩ := mm_pRI h
    subst e_0
    clear h
    have h := h_2
    clear h_2
    exact mm_zast X' hh hi hin hd (fun H1 locs1 hh' => hK _ _ _ _ _ _ h ad H1 locs1 la hh' hl)
  case lastore =>
    obtain ⟨rfl, h⟩ := h
    obtain ⟨x, r, e_0, h_2⟩ := mm_pLI h
    subst e_0
    clear h
    have h := h_2
    clear h_2
    obtain ⟨j, r, e_0, h_2⟩ := mm_pII h
    subst e_0
    clear h
    have h := h_2
    clear h_2
    obtain ⟨f, i, r, e_0, hi, hin, h_2⟩ := mm_pRI h
    subst e_0
    clear h
    have h := h_2
    clear h_2
    exact mm_last X' hh hi hin hd (fun H1 locs1 hh' => hK _ _ _ _ _ _ h ad H1 locs1 la hh' hl)
  case aastore =>
    obtain ⟨rfl, h⟩ := h
    obtain ⟨f2, i2, r, e_0, h_2⟩ := mm_pRI h
    subst e_0
    clear h
    have h := h_2
    clear h_2
    obtain ⟨j, r, e_0, h_2⟩ := mm_pII h
    subst e_0
    clear h
    have h := h_2
    clear h_2
    obtain ⟨f, i, r, e_0, ci, hv, hi, hin, h_2⟩ := mm_pRI h
    subst e_0
    clear h
    have h := h_2
    clear h_2
    exact mm_aast X' hh hv hi hin hd (fun H1 locs1 hh' => hK _ _ _ _ _ _ h ad H1 locs1 la hh' hl)
  case arraylength =>
    obtain ⟨rfl, h⟩ := h
    obtain ⟨f, i, r, e_0, h_2⟩ := mm_pRI h
    subst e_0
    clear h
    have h := h_2
    clear h_2
    split at h
    · rename_i e9
      subst e9
      obtain ⟨q, hq, e_0, h_2⟩ := mm_oI h
      subst e_0
      clear h
      have h := h_2
      clear h_2
      have h4 := hh.2.2.2.1
      unfold mm_sc at h4
      rw [hq] at h4
      obtain ⟨scr, c1, c2, c3, c4, c5⟩ := h4.1
      exact W.alen (n := Int32.ofNat q.1) hx hb c1 c2 (by rw [c4] <;> rfl) rfl rfl hd (go _ _ (.inl (Int32.ofNat q.1) :: r) _ _ _ h hl)
    · obtain ⟨ty, ⟨hY, h9, hdm⟩, h⟩ := h
      have hat := (hh.2.2.1.1 f i h9 hdm).1
      rw [mm_cellA hY] at hat
      obtain ⟨t0, ht⟩ := mm_tyI hKm (mm_Yok hY)
      exact va_alen hx hb hKm.1 (mm_one hat) 0 t0 rfl ht (by unfold mm_arr; cases ty <;> rfl) hd (go _ _ (.inl (Int32.ofNat (mm_len f)) :: r) _ _ _ h hl)
  case invokestatic ix =>
    obtain ⟨rfl, h⟩ := h
    split at h
    · rename_i jm hj
      obtain ⟨hu, hw, h⟩ := h
      match jm, hj, h with
      | 0, hj, h =>
        obtain ⟨y, r, e_0, h_2⟩ := mm_pII h
        subst e_0
        clear h
        have h := h_2
        clear h_2
        obtain ⟨x, r, e_0, h8, h_2⟩ := mm_pII h
        subst e_0
        clear h
        have h := h_2
        clear h_2
        obtain ⟨k1, k2, k3, k4⟩ := mm_JM0 hj
        exact va_mmax hx hb (by rw [hml]; exact hl.1.symm) hown (hts _ k1) (hts _ k2) (hts _ k3) (hts _ k4) hfr (by rw [mm_smV]; omega) (Nat.le_trans hu hC) (Nat.le_trans hw hSl) hd (go _ _ (.inl (if x < y then y else x) :: r) _ _ _ h hl)
      | 1, hj, h =>
        obtain ⟨x, r, e_0, h8, h_2⟩ := mm_pII h
        subst e_0
        clear h
        have h := h_2
        clear h_2
        obtain ⟨k1, k2, k3, k4⟩ := mm_JM1 hj
        exact va_mabs hx hb (by rw [hml]; exact hl.1.symm) hown (hts _ k1) (hts _ k2) (hts _ k3) (hts _ k4) hfr (by rw [mm_smV]; omega) (Nat.le_trans hu hC) (Nat.le_trans hw hSl) hd (go _ _ (.inl (if 0 ≤ x then x else 0 - x) :: r) _ _ _ h hl)
      | 2, hj, h =>
        obtain ⟨y, r, e_0, h_2⟩ := mm_pLI h
        subst e_0
        clear h
        have h := h_2
        clear h_2
        obtain ⟨x, r, e_0, h8, h_2⟩ := mm_pLI h
        subst e_0
        clear h
        have h := h_2
        clear h_2
        obtain ⟨k1, k2, k3, k4⟩ := mm_JM2 hj
        exact va_mmax_long hx hb (by rw [hml]; exact hl.1.symm) hown (hts _ k1) (hts _ k2) (hts _ k3) (hts _ k4) hfr (by rw [mm_smV]; omega) (Nat.le_trans hu hC) (Nat.le_trans hw hSl) hd (go _ _ (.inr (.inl (if y < x then x else y)) :: r) _ _ _ h hl)
      | 3, hj, h =>
        obtain ⟨y, r, e_0, h_2⟩ := mm_pLI h
        subst e_0
        clear h
        have h := h_2
        clear h_2
        obtain ⟨x, r, e_0, h8, h_2⟩ := mm_pLI h
        subst e_0
        clear h
        have h := h_2
        clear h_2
        obtain ⟨k1, k2, k3, k4⟩ := mm_JM3 hj
        exact va_mmin_long hx hb (by rw [hml]; exact hl.1.symm) hown (hts _ k1) (hts _ k2) (hts _ k3) (hts _ k4) hfr (by rw [mm_smV]; omega) (Nat.le_trans hu hC) (Nat.le_trans hw hSl) hd (go _ _ (.inr (.inl (if y < x then y else x)) :: r) _ _ _ h hl)
      | _ + 4, hj, h => exact h.elim
    · obtain ⟨⟨id, n, kd⟩, hq, hk0, h⟩ := mm_oI h
      obtain ⟨xs, r, e_0, hn, h_2⟩ := mm_pNI _ _ _ _ h
      subst e_0
      clear h
      have h := h_2
      clear h_2
      obtain ⟨hcd, hini, hy, hli, hrest⟩ := mm_MTok hq (fun z => absurd (hk0.symm.trans z) (by decide))
      have hstat := hrest.1 hk0
      refine mm_callK X' hh hl hΓ hK h fun rm Post r1 r2 r3 r4 hM hcs h8 => ?_
      rcases hli with hli | ⟨ho, hli⟩
      · exact va_runS ⟨hx, hb, hml, hown, hts⟩ hM ⟨callB_of n hts (mm_good hcd) rfl r1 r2 (hts _ hini) (hts _ hli) hy ⟨r3, r4⟩, hts _ hstat⟩ ⟨mm_blind, mm_pcI X' hh⟩ rfl (by simpa using hn) hl.1 (mm_revI xs r).symm h8 hd hcs
      · exact va_runSN ⟨hx, hb, hml, hown, hts⟩ hM ⟨va_cnB n hts (mm_good hcd) rfl r1 r2 (hKm.2.2.1 _ hli) (hts _ hini) hy ⟨r3, r4⟩, hts _ hstat, trivial⟩ ⟨mm_blind, mm_pcI X' hh⟩ rfl (by simpa using hn) hl.1 (mm_revI xs r).symm h8 hd hcs
  case invokevirtual ix =>
    obtain ⟨rfl, h⟩ := h
    obtain ⟨⟨id, n, kd⟩, hq, hk0, h⟩ := mm_oI h
    obtain ⟨xs, r, e_0, hn, h_2⟩ := mm_pNI _ _ _ _ h
    subst e_0
    clear h
    have h := h_2
    clear h_2
    obtain ⟨f, i, r, e_0, hi, h_2⟩ := mm_pRI h
    subst e_0
    clear h
    have h := h_2
    clear h_2
    obtain ⟨hcd, hini, hy, hli, hrest⟩ := mm_MTok hq (fun z => absurd (hk0.symm.trans z) (by decide))
    obtain ⟨hinst, hsel⟩ := hrest.2.1 hk0
    refine mm_callK X' hh hl hΓ hK h fun rm Post r1 r2 r3 r4 hM hcs h8 => ?_
    rcases hli with hli | ⟨ho, hli⟩
    · exact va_runV (As := (xs.reverse ++ []).map (mm_val ad)) ⟨hx, hb, hml, hown, hts⟩ hM ⟨callB_of n hts (mm_good hcd) rfl r1 r2 (hts _ hini) (hts _ hli) hy ⟨r3, r4⟩, hts _ hinst, hts _ hsel⟩ ⟨mm_blind, mm_recvI X' hh hi, mm_pcI X' hh⟩ rfl (by simpa using hn) hl.1 (mm_revI xs (_ :: r)).symm h8 hd hcs
    · exact va_runVN (As := (xs.reverse ++ []).map (mm_val ad)) ⟨hx, hb, hml, hown, hts⟩ hM ⟨va_cnB n hts (mm_good hcd) rfl r1 r2 (hKm.2.2.1 _ hli) (hts _ hini) hy ⟨r3, r4⟩, hts _ hinst, hts _ hsel⟩ ⟨mm_blind, mm_recvI X' hh hi, mm_pcI X' hh⟩ rfl (by simpa using hn) hl.1 (mm_revI xs (_ :: r)).symm h8 hd hcs
  case invokespecial ix =>
    obtain ⟨rfl, h⟩ := h
    obtain ⟨⟨id, n, kd⟩, hq, h⟩ := mm_oI h
    split at h
    · rename_i hk3
      obtain ⟨f, i, r, e_0, h8, h_2⟩ := mm_pRI h
      subst e_0
      clear h
      have h := h_2
      clear h_2
      obtain ⟨k1, k2, k3⟩ := mm_MT3 hq hk3
      refine W.objInit hx hb hown (hts _ k1) (hts _ k2) (hts _ k3) rfl (by rw [hml]; exact hl.1) rfl hd hfr ?_ (go _ _ r _ _ _ h hl)
      have := lv_room (m := m) (pc := pc) (ls := la) (rest := [.ref (ad f i)]) (st := r.map (mm_val ad)) (by rw [mm_smV]; exact h8)
      have h9 : (F0 m pc la (List.map (mm_val ad) (.inr (.inr (some (f, i))) :: r))).monitorRoom = (F0 m pc la [.ref (ad f i)]).monitorRoom := rfl
      rw [h9]
      omega
    · obtain ⟨hk0, h⟩ := h
      obtain ⟨xs, r, e_0, hn, h_2⟩ := mm_pNI _ _ _ _ h
      subst e_0
      clear h
      have h := h_2
      clear h_2
      obtain ⟨f, i, r, e_0, hi, h_2⟩ := mm_pRI h
      subst e_0
      clear h
      have h := h_2
      clear h_2
      obtain ⟨hcd, hini, hy, hli, hrest⟩ := mm_MTok hq (fun z => absurd (hk0.symm.trans z) (by decide))
      obtain ⟨hnm, hinst, hr0⟩ := hrest.2.2 hk0
      refine mm_callK X' hh hl hΓ hK h fun rm Post r1 r2 r3 r4 hM hcs h8 => ?_
      rcases hli with hli | ⟨ho, hli⟩
      · exact va_runI (As := (xs.reverse ++ []).map (mm_val ad)) ⟨hx, hb, hml, hown, hts⟩ hM ⟨callB_of n hts (mm_good hcd) (by rw [mm_ws, hr0]) r1 r2 (hts _ hini) (hts _ hli) hy ⟨r3, r4⟩, hnm, hts _ hinst⟩ ⟨mm_blind, mm_pcI X' hh⟩ rfl (by simpa using hn) hl.1 (mm_revI xs (_ :: r)).symm h8 hd hcs
      · exact va_runIN (As := (xs.reverse ++ []).map (mm_val ad)) ⟨hx, hb, hml, hown, hts⟩ hM ⟨va_cnB n hts (mm_good hcd) (by rw [mm_ws, hr0]) r1 r2 (hKm.2.2.1 _ hli) (hts _ hini) hy ⟨r3, r4⟩, hnm, hts _ hinst⟩ ⟨mm_blind, mm_pcI X' hh⟩ rfl (by simpa using hn) hl.1 (mm_revI xs (_ :: r)).symm h8 hd hcs
  case new ix =>
    obtain ⟨rfl, hal, h⟩ := h
    obtain ⟨ci, hcc, f, i, hY, h9, hf, hfre, okL, okS, hu, hw, h⟩ := mm_oI h
    refine mm_newc X' hh hal hcc hY h9 hf hfre hu hw hd fun H1 hh' => ?_
    have h2 := hK _ _ _ _ _ _ h _ H1 locs la hh' (by rw [mm_okLI (mm_newAd hf) okL]; exact hl)
    rw [List.map_cons, mm_okSI (mm_newAd hf) okS] at h2
    have e : mm_val (mm_ad ad f i H.size) (.inr (.inr (some (f, i)))) = .ref H.size := by
      show va_rf (some (mm_ad ad f i H.size f i)) = _
      rw [mm_ad_own]
      rfl
    rw [e] at h2
    exact h2
  case newarray t =>
    obtain ⟨rfl, hal, h⟩ := h
    obtain ⟨n, r, e_0, hn, hnb, hat, f, i, hY, h9, hf, hfre, okL, okS, hu, hw, h_2⟩ := mm_pII h
    subst e_0
    clear h
    have h := h_2
    clear h_2
    refine mm_newa X' hh hal hn hnb hat hY h9 hf hfre hu hw hd fun H1 hh' => ?_
    have h2 := hK _ _ _ _ _ _ h _ H1 locs la hh' (by rw [mm_okLI (mm_newAd hf) okL]; exact hl)
    rw [List.map_cons, mm_okSI (mm_newAd hf) okS] at h2
    have e : mm_val (mm_ad ad f i H.size) (.inr (.inr (some (f, i)))) = .ref H.size := by
      show va_rf (some (mm_ad ad f i H.size f i)) = _
      rw [mm_ad_own]
      rfl
    rw [e] at h2
    exact h2
  case anewarray ix =>
    obtain ⟨rfl, hal, h⟩ := h
    obtain ⟨C, hco, h⟩ := mm_oI h
    obtain ⟨n, r, e_0, hn, hnb, f, i, hY, h9, hf, hfre, okL, okS, hu, hw, h_2⟩ := mm_pII h
    subst e_0
    clear h
    have h := h_2
    clear h_2
    refine mm_newq X' hh hal hco hn hnb hY h9 hf hfre hu hw hd fun H1 hh' => ?_
    have h2 := hK _ _ _ _ _ _ h _ H1 locs la hh' (by rw [mm_okLI (mm_newAd hf) okL]; exact hl)
    rw [List.map_cons, mm_okSI (mm_newAd hf) okS] at h2
    have e : mm_val (mm_ad ad f i H.size) (.inr (.inr (some (f, i)))) = .ref H.size := by
      show va_rf (some (mm_ad ad f i H.size f i)) = _
      rw [mm_ad_own]
      rfl
    rw [e] at h2
    exact h2
  case ireturn =>
    obtain ⟨rfl, hu, hw, h⟩ := h
    obtain ⟨ty, ht, h⟩ := mm_oI h
    obtain ⟨x, r, e_0, e_1, hn, h_2⟩ := mm_pII h
    subst e_0
    subst e_1
    clear h
    have h := h_2
    clear h_2
    exact W.widen hu hw (hretI x ty M ad H locs la pc h ht hn hd hh)
  case lreturn =>
    obtain ⟨rfl, hu, hw, ht, h⟩ := h
    obtain ⟨x, r, e_0, e_1, h_2⟩ := mm_pLI h
    subst e_0
    subst e_1
    clear h
    have h := h_2
    clear h_2
    exact W.widen hu hw (hretL x M ad H locs la pc h ht hd hh)
  case return_ =>
    obtain ⟨rfl, hu, hw, ht, rfl, h⟩ := h
    exact W.widen hu hw (hretV M ad H locs la pc h ht hd hh)
  all_goals exact False.elim h
theorem mm_sound {Γ : mm_G} {Q : Option mm_V → mm_M → Prop} {cut : Nat → Option mm_X} (X : mm_ctx p s m args meth c R g cc D dA sz) (hΓ : mm_Ok l D dA sz R Γ)
    (hcut : ∀ (pc : Nat) (Y : mm_X), cut pc = some Y → ∀ ls st M u w, Y ls st M u w → mm_W p l e R s m args below meth c Qs g D dA sz ad0 M0 pc ls st M u w)
    (hretI : ∀ (x : Int32) (ty : FieldType) (M : mm_M) (ad : Nat → Nat → Nat) (H : Heap) (locs : List Loc) (la : Array Slot) (pc : Nat), Q (some (.inl x)) M → g.2.2.1 = some ty → narrow ty (.int x) = .int x → decode cc pc = .ok (.ireturn, 1) → mm_h g D dA sz ad0 M0 s M ad H locs → W p l e R s m args below meth c H locs g.2.2.2.2.1 g.2.2.2.2.2.1 Qs (F0 m pc la [.int x]))
    (hretL : ∀ (x : Int64) (M : mm_M) (ad : Nat → Nat → Nat) (H : Heap) (locs : List Loc) (la : Array Slot) (pc : Nat), Q (some (.inr (.inl x))) M → g.2.2.1 = some .long → decode cc pc = .ok (.lreturn, 1) → mm_h g D dA sz ad0 M0 s M ad H locs → W p l e R s m args below meth c H locs g.2.2.2.2.1 g.2.2.2.2.2.1 Qs (F0 m pc la [.long x]))
    (hretV : ∀ (M : mm_M) (ad : Nat → Nat → Nat) (H : Heap) (locs : List Loc) (la : Array Slot) (pc : Nat), Q none M → g.2.2.1 = none → decode cc pc = .ok (.return_, 1) → mm_h g D dA sz ad0 M0 s M ad H locs → W p l e R s m args below meth c H locs g.2.2.2.2.1 g.2.2.2.2.2.1 Qs (F0 m pc la [])) :
    ∀ (n pc : Nat) (ls : List (Option mm_V)) (st : List mm_V) (M : mm_M) (u w : Nat), mm_x g cc Γ cut Q n pc ls st M u w → mm_W p l e R s m args below meth c Qs g D dA sz ad0 M0 pc ls st M u w
  | 0, _, _, _, _, _, _, h => h.elim
  | n + 1, pc, ls, st, M, u, w, h => by
    unfold mm_x mm_s at h
    split at h
    · rename_i q hq
      refine mm_i_sound X hΓ ?_ hretI hretL hretV hq h
      intro pc ls st M u w hk
      unfold mm_cut at hk
      split at hk
      · rename_i Y hY
        exact hcut pc Y hY _ _ _ _ _ hk
      · exact mm_sound X hΓ hcut hretI hretL hretV n pc ls st M u w hk
    · exact h.elim
/-- loops: at the heads hds the state stands in I k; k falls -/
def mm_cutI (hds : Nat → Bool) (P : Nat → Nat → mm_X) (b : Nat) : Nat → Option mm_X := fun pc => if hds pc = true then some (fun ls st M u w => ∃ k, k < b ∧ P k pc ls st M u w) else none
end MMS

