/-! a method by its evaluator; loops; lists of contracts -/
def mm_e0 : List mm_V → List (Option mm_V)
  | [] => []
  | .inr (.inl x) :: r => some (.inr (.inl x)) :: none :: mm_e0 r
  | .inl x :: r => some (.inl x) :: mm_e0 r
  | .inr (.inr x) :: r => some (.inr (.inr x)) :: mm_e0 r
def mm_en (nL : Nat) (As : List mm_V) : List (Option mm_V) := mm_e0 As ++ List.replicate (nL - (mm_e0 As).length) none
theorem mm_Lnone {ad : Nat → Nat → Nat} : ∀ (n k : Nat), mm_L ad k (List.replicate n none) = []
  | 0, _ => rfl
  | n + 1, k => by
    rw [List.replicate_succ, mm_L]
    exact mm_Lnone n (k + 1)
theorem mm_Len {ad : Nat → Nat → Nat} {n : Nat} : ∀ (As : List mm_V) (k : Nat), mm_L ad k (mm_e0 As ++ List.replicate n none) = lv_args k (As.map (mm_val ad))
  | [], k => mm_Lnone n k
  | .inr (.inl x) :: r, k => by
    rw [List.map_cons, lv_args]
    show (k, Value.long x) :: mm_L ad (k + 1 + 1) (mm_e0 r ++ List.replicate n none) = _
    rw [mm_Len r (k + 1 + 1)]
    rfl
  | .inl x :: r, k => by
    rw [List.map_cons, lv_args]
    show (k, Value.int x) :: mm_L ad (k + 1) (mm_e0 r ++ List.replicate n none) = _
    rw [mm_Len r (k + 1)]
    rfl
  | .inr (.inr none) :: r, k => by
    rw [List.map_cons, lv_args]
    show (k, Value.null) :: mm_L ad (k + 1) (mm_e0 r ++ List.replicate n none) = _
    rw [mm_Len r (k + 1)]
    rfl
  | .inr (.inr (some q)) :: r, k => by
    rw [List.map_cons, lv_args]
    show (k, Value.ref (ad q.1 q.2)) :: mm_L ad (k + 1) (mm_e0 r ++ List.replicate n none) = _
    rw [mm_Len r (k + 1)]
    rfl
theorem mm_slen {ad : Nat → Nat → Nat} : ∀ (As : List mm_V), (lg_sl (As.map (mm_val ad))).length = (mm_e0 As).length
  | [] => rfl
  | .inr (.inl x) :: r => by
    have h := mm_slen (ad := ad) r
    simp only [lg_sl, List.map_cons, List.flatMap_cons, List.length_append, mm_e0, List.length_cons] at h ⊢
    rw [h]
    simp [mm_val, Value.category]
    omega
  | .inl x :: r => by
    have h := mm_slen (ad := ad) r
    simp only [lg_sl, List.map_cons, List.flatMap_cons, List.length_append, mm_e0, List.length_cons] at h ⊢
    rw [h]
    simp [mm_val, Value.category]
    omega
  | .inr (.inr none) :: r => by
    have h := mm_slen (ad := ad) r
    simp only [lg_sl, List.map_cons, List.flatMap_cons, List.length_append, mm_e0, List.length_cons] at h ⊢
    rw [h]
    simp [mm_val, mm_ref, va_rf, Value.category]
    omega
  | .inr (.inr (some q)) :: r => by
    have h := mm_slen (ad := ad) r
    simp only [lg_sl, List.map_cons, List.flatMap_cons, List.length_append, mm_e0, List.length_cons] at h ⊢
    rw [h]
    simp [mm_val, mm_ref, va_rf, Value.category]
    omega
def mm_g (id : Nat) : mm_F := (mm_mo id, mm_ml id, mm_rt id, mm_al id, mm_mc id, mm_ms id, none, mm_ic id)
section MMM
variable {l : Launch} {D : va_G} {dA : FieldType → ClassId} {sz : Nat}
set_option maxHeartbeats 2000000 in
/-- a method with loops: at the heads the state stands in P k, and k falls -/
theorem mm_methL (id : Nat) (hid : id < mm_nid) {rm : Room} {As : List mm_V} {M : mm_M} {Post : Option mm_V → mm_M → Prop} {Γ : mm_G} (hrm : rm.cells = mm_mc id ∧ rm.slots = mm_ms id ∧ 1 ≤ rm.frames ∧ 40 ≤ rm.locals) (hΓ : mm_Ok l D dA sz rm Γ) (hlen : (mm_e0 As).length ≤ mm_ml id)
    (hds : Nat → Bool) (P : Nat → Nat → mm_X) (f0 f1 b : Nat) (h0 : mm_x (mm_g id) (mm_cc id) Γ (mm_cutI hds P b) Post f0 0 (mm_en (mm_ml id) As) [] M 0 0)
    (h1 : ∀ (k pc : Nat) (ls : List (Option mm_V)) (st : List mm_V) (M : mm_M) (u w : Nat), hds pc = true → P k pc ls st M u w → mm_x (mm_g id) (mm_cc id) Γ (mm_cutI hds P k) Post f1 pc ls st M u w) : mm_Met l D dA sz rm id As M Post := by
  intro ad
  obtain ⟨hpl, hcls, hic⟩ := mm_idok hid
  refine Met.ofW (cc := mm_cc id) (maxL := mm_ml id) (ret := mm_rt id) hpl rfl ?_
  intro p e s m args below meth c s₁ B hml hv
  obtain ⟨rfl, hz, hR, hK⟩ := hv
  have hts := atoms_spec (ws := mm_ws id) B.pre
  have hr := B.returns
  have hlocks := B.notSynchronized
  have X : mm_ctx p s m ((As.map (mm_val ad)).toArray) meth c (headSpec (mm_ws id) rm).room (mm_g id) (mm_cc id) D dA sz :=
    ⟨B.exec, B.bytes, hml, by rw [show mm_own (mm_g id).1 = (mm_y id).cls from hcls]; exact findClass_of_methodNamed B.named, fun w hw => hts w (List.mem_cons_of_mem _ hw), hK, hlocks, hr, fun h => (name_of_methodNamed B.named B.method).1.trans (hic h), hz, Nat.le_of_eq hrm.1.symm, Nat.le_of_eq hrm.2.1.symm, hrm.2.2.1, hrm.2.2.2⟩
  have hxx := B.exec
  have hbb := B.bytes
  have rI : ∀ (x : Int32) (ty : FieldType) (M' : mm_M) (ad' : Nat → Nat → Nat) (H : Heap) (locs : List Loc) (la : Array Slot) (pc : Nat), Post (some (.inl x)) M' → (mm_g id).2.2.1 = some ty → narrow ty (.int x) = .int x → decode (mm_cc id) pc = .ok (.ireturn, 1) → mm_h (mm_g id) D dA sz ad M s M' ad' H locs → W p l e (headSpec (mm_ws id) rm).room s m ((As.map (mm_val ad)).toArray) below meth c H locs (mm_g id).2.2.2.2.1 (mm_g id).2.2.2.2.2.1 (MQ below (mm_Qc D dA sz (mm_al id) ad M Post) ((As.map (mm_val ad)).toArray) s (mm_mc id) (mm_ms id) (fun q : Nat => sz ≤ q)) (F0 m pc la [.int x]) := by
    intro x ty M' ad' H locs la pc hq ht hn hd hh
    exact W.zret (v := x) hxx hbb (hr.trans ht) hn (fun t ht hW => ⟨⟨some (.inl x), M', ad', rfl, hq, hh.1, hh.2.1, by rw [ht]; exact hh.2.2.1, mm_K.moved hW hK⟩, hh.2.2.2.2.F ht⟩) hh.2.2.2.2.2.2 hd hlocks
  have rL : ∀ (x : Int64) (M' : mm_M) (ad' : Nat → Nat → Nat) (H : Heap) (locs : List Loc) (la : Array Slot) (pc : Nat), Post (some (.inr (.inl x))) M' → (mm_g id).2.2.1 = some .long → decode (mm_cc id) pc = .ok (.lreturn, 1) → mm_h (mm_g id) D dA sz ad M s M' ad' H locs → W p l e (headSpec (mm_ws id) rm).room s m ((As.map (mm_val ad)).toArray) below meth c H locs (mm_g id).2.2.2.2.1 (mm_g id).2.2.2.2.2.1 (MQ below (mm_Qc D dA sz (mm_al id) ad M Post) ((As.map (mm_val ad)).toArray) s (mm_mc id) (mm_ms id) (fun q : Nat => sz ≤ q)) (F0 m pc la [.long x]) := by
    intro x M' ad' H locs la pc hq ht hd hh
    exact W.lret (v := x) hxx hbb (hr.trans ht) (fun t ht hW => ⟨⟨some (.inr (.inl x)), M', ad', rfl, hq, hh.1, hh.2.1, by rw [ht]; exact hh.2.2.1, mm_K.moved hW hK⟩, hh.2.2.2.2.F ht⟩) hh.2.2.2.2.2.2 hd hlocks
  have rV : ∀ (M' : mm_M) (ad' : Nat → Nat → Nat) (H : Heap) (locs : List Loc) (la : Array Slot) (pc : Nat), Post none M' → (mm_g id).2.2.1 = none → decode (mm_cc id) pc = .ok (.return_, 1) → mm_h (mm_g id) D dA sz ad M s M' ad' H locs → W p l e (headSpec (mm_ws id) rm).room s m ((As.map (mm_val ad)).toArray) below meth c H locs (mm_g id).2.2.2.2.1 (mm_g id).2.2.2.2.2.1 (MQ below (mm_Qc D dA sz (mm_al id) ad M Post) ((As.map (mm_val ad)).toArray) s (mm_mc id) (mm_ms id) (fun q : Nat => sz ≤ q)) (F0 m pc la []) := by
    intro M' ad' H locs la pc hq ht hd hh
    exact W.vret hxx hbb (hr.trans ht) (fun t ht hW => ⟨⟨none, M', ad', rfl, hq, hh.1, hh.2.1, by rw [ht]; exact hh.2.2.1, mm_K.moved hW hK⟩, hh.2.2.2.2.F ht⟩) hh.2.2.2.2.2.2 hd hlocks
  have lp : ∀ (k pc : Nat), hds pc = true → ∀ (ls : List (Option mm_V)) (st : List mm_V) (M' : mm_M) (u w : Nat), P k pc ls st M' u w → mm_W p l e (headSpec (mm_ws id) rm).room s m ((As.map (mm_val ad)).toArray) below meth c (MQ below (mm_Qc D dA sz (mm_al id) ad M Post) ((As.map (mm_val ad)).toArray) s (mm_mc id) (mm_ms id) (fun q : Nat => sz ≤ q)) (mm_g id) D dA sz ad M pc ls st M' u w := by
    intro k
    induction k using Nat.strongRecOn with
    | ind k ih =>
      intro pc hpc ls st M' u w hP
      refine mm_sound X hΓ ?_ rI rL rV f1 pc ls st M' u w (h1 k pc ls st M' u w hpc hP)
      intro pc' Y hY ls st M' u w hYs
      unfold mm_cutI at hY
      split at hY
      · rename_i hpc'
        cases hY
        obtain ⟨k', hk', hP'⟩ := hYs
        exact ih k' hk' pc' hpc' ls st M' u w hP'
      · cases hY
  have hfin := mm_sound X hΓ (cut := mm_cutI hds P b) (fun pc' Y hY ls st M' u w hYs => by
      unfold mm_cutI at hY
      split at hY
      · rename_i hpc'
        cases hY
        obtain ⟨k', -, hP'⟩ := hYs
        exact lp k' pc' hpc' ls st M' u w hP'
      · cases hY) rI rL rV f0 0 (mm_en (mm_ml id) As) [] M 0 0 h0
  rw [lg_entry_eq]
  refine hfin ad s.heap [] _ ⟨fun _ => rfl, fun f i h => ⟨rfl, h⟩, hR, trivial, va_S.rf⟩ ?_
  have hl := lv_entry (As.map (mm_val ad)) (n := mm_ml id) (by rw [mm_slen]; exact hlen)
  unfold mm_en
  rw [mm_Len]
  exact hl
theorem mm_meth (id : Nat) (hid : id < mm_nid) {rm : Room} {As : List mm_V} {M : mm_M} {Post : Option mm_V → mm_M → Prop} {Γ : mm_G} (hrm : rm.cells = mm_mc id ∧ rm.slots = mm_ms id ∧ 1 ≤ rm.frames ∧ 40 ≤ rm.locals) (hΓ : mm_Ok l D dA sz rm Γ) (hlen : (mm_e0 As).length ≤ mm_ml id)
    (f0 : Nat) (h0 : mm_x (mm_g id) (mm_cc id) Γ (fun _ => none) Post f0 0 (mm_en (mm_ml id) As) [] M 0 0) : mm_Met l D dA sz rm id As M Post := by
  refine mm_methL id hid hrm hΓ hlen (fun _ => false) (fun _ _ _ _ _ _ _ => False) f0 f0 0 ?_ (fun _ _ _ _ _ _ _ h => by cases h)
  have e : mm_cutI (fun _ => false) (fun _ _ _ _ _ _ _ => False) 0 = fun _ => none := by
    funext pc
    unfold mm_cutI
    rfl
  rw [e]
  exact h0
abbrev mm_Ct : Type := List mm_V → mm_M → (Option mm_V → mm_M → Prop) → Prop
def mm_gl : List (Nat × mm_Ct) → mm_G
  | [], _, _, _, _ => False
  | q :: r, id, As, M, Post => if id = q.1 then q.2 As M Post else mm_gl r id As M Post
def mm_rm (d mc ms : Nat) : Room := { frames := d, cells := mc, slots := ms, locals := 60 * d }
/-- the contract k of method id, at rank d -/
def mm_Vd (l : Launch) (D : va_G) (dA : FieldType → ClassId) (sz d id : Nat) (k : mm_Ct) : Prop := ∀ (As : List mm_V) (M : mm_M) (Post : Option mm_V → mm_M → Prop), k As M Post → mm_Met l D dA sz (mm_rm d (mm_mc id) (mm_ms id)) id As M Post
theorem mm_okN {R : Room} : mm_Ok l D dA sz R (mm_gl []) := fun _ _ _ _ h => h.elim
theorem mm_okC {R : Room} {d id : Nat} {k : mm_Ct} {L : List (Nat × mm_Ct)} (h : mm_Vd l D dA sz d id k) (hf : d + 1 ≤ R.frames) (hlo : 8 + (mm_ml id + 11) + 60 * d ≤ R.locals) (hL : mm_Ok l D dA sz R (mm_gl L)) : mm_Ok l D dA sz R (mm_gl ((id, k) :: L)) := by
  intro id' As M Post hG
  unfold mm_gl at hG
  split at hG
  · rename_i e
    have e : id' = id := e
    subst e
    exact ⟨mm_rm d (mm_mc id') (mm_ms id'), rfl, rfl, hf, hlo, h As M Post hG⟩
  · exact hL id' As M Post hG
end MMM
