/-! the two sides at one instance -/
theorem nI_ti {j : Nat} (h : j < 2 ^ 31) : (nI j).toInt = j := by
  unfold nI
  exact Int32.toInt_ofNat_of_lt h
theorem clamp_i {n : Int32} {k : Nat} (h : vp_in n k) : (n.toNatClampNeg : Int) = n.toInt ∧ n.toNatClampNeg < k := by
  rw [vp_in_iff] at h
  unfold Int32.toNatClampNeg
  omega
theorem ix_eq {j : Nat} {n : Int32} (hj : j < 20) (hn : vp_in n 60) : (nI j * 60 + n).toNatClampNeg = 60 * j + n.toNatClampNeg := by
  have h1 := clamp_i hn
  have hv : vp_in (nI j) 20 := vp_in_nI hj (by decide)
  have h2 := clamp_i (in12 hv hn)
  have e1 : (nI j * 60).toInt = (j : Int) * 60 := by
    rw [Int32.toInt_mul, nI_ti (by omega), show (60 : Int32).toInt = 60 by decide]
    apply Int.bmod_eq_of_le <;> omega
  have e2 : (nI j * 60 + n).toInt = (j : Int) * 60 + n.toInt := by
    rw [Int32.toInt_add, e1]
    apply Int.bmod_eq_of_le <;> omega
  omega
/-- a type that a node may have -/
def TV (t : Int32) : Prop := VT t ∨ t = 300
theorem TV.n400 {t : Int32} (h : TV t) : ¬ t = 400 := by
  rintro rfl
  rcases h with h | h
  · exact absurd h.2 (by decide)
  · exact absurd h (by decide)
theorem TV.sz {t : Int32} (h : TV t) : ¬ t_sz t = 0 := by
  rcases h with h | rfl
  · exact vt_sz h
  · exact c_sz
theorem TV.sm {t : Int32} {x : Int64} (h : TV t) (hh : s_holds t x = true) : sm x := by
  rcases h with h | rfl
  · have h1 := vt_low h
    have h2 := vt_high h
    rw [holds_iff] at hh
    exact ⟨by omega, by omega⟩
  · exact at_small (Or.inr rfl) hh
/-- node k of instance j: the two sides agree -/
def SN (C R : mm_M) (j k : Nat) : Prop := (R.1 44 0 (60 * j + k) = 0 ↔ C.1 17 j k = 400) ∧ (¬ C.1 17 j k = 400 → R.1 46 0 (60 * j + k) = C.1 17 j k ∧ R.1 45 0 (60 * j + k) = C.1 18 j k ∧ (C.1 18 j k = 1 → R.2.1 48 0 (60 * j + k) = C.2.1 19 j k))
/-- node k of instance j is well typed -/
def WN (C : mm_M) (j k : Nat) : Prop := (C.1 17 j k = 400 → C.1 18 j k = 0) ∧ (C.1 18 j k = 0 ∨ C.1 18 j k = 1) ∧ (¬ C.1 17 j k = 400 → TV (C.1 17 j k) ∧ (C.1 17 j k = 300 → C.1 18 j k = 1) ∧ (C.1 18 j k = 1 → s_holds (C.1 17 j k) (C.2.1 19 j k) = true))
/-- the face of instance j -/
def SF (C R : mm_M) (j : Nat) : Prop := R.1 41 0 j = C.1 14 j 0 ∧ s_hasFun C (C.1 14 j 0) = true ∧
  C.1 15 j 0 = s_typeBy C j (C.1 8 0 (C.1 14 j 0).toNatClampNeg) ∧ C.1 15 j 1 = s_typeBy C j (C.1 9 0 (C.1 14 j 0).toNatClampNeg) ∧ C.1 14 j 1 = s_typeBy C j (C.1 10 0 (C.1 14 j 0).toNatClampNeg) ∧
  (C.1 15 j 0 = 300 ↔ C.1 8 0 (C.1 14 j 0).toNatClampNeg = 300) ∧ (C.1 15 j 1 = 300 ↔ C.1 9 0 (C.1 14 j 0).toNatClampNeg = 300) ∧
  ¬ C.1 15 j 0 = 500 ∧ ¬ C.1 15 j 1 = 500 ∧ ¬ C.1 14 j 1 = 500 ∧
  R.2.1 56 0 j = (if C.1 8 0 (C.1 14 j 0).toNatClampNeg = 300 then C.2.1 16 j 0 else 0) ∧ R.2.1 57 0 j = (if C.1 9 0 (C.1 14 j 0).toNatClampNeg = 300 then C.2.1 16 j 1 else 0) ∧
  R.1 42 0 j = (if C.1 8 0 (C.1 14 j 0).toNatClampNeg = 300 then (C.2.1 16 j 0).toInt32 else 0) ∧ R.1 43 0 j = (if C.1 9 0 (C.1 14 j 0).toNatClampNeg = 300 then (C.2.1 16 j 1).toInt32 else 0) ∧
  (C.1 15 j 0 = 300 → sm (C.2.1 16 j 0)) ∧ (C.1 15 j 1 = 300 → sm (C.2.1 16 j 1))
/-- the two sides, while compiling -/
def SC (C R : mm_M) : Prop := (∀ f, f < 12 → R.1 f = C.1 f) ∧ R.1 30 0 3 = C.1 12 0 2 ∧ R.1 30 0 1 = C.1 12 0 3 ∧ R.1 30 0 2 = C.1 12 0 4 ∧ ∀ j, j < 20 → nI j < C.1 12 0 2 → SF C R j ∧ ∀ k, k < 60 → SN C R j k ∧ WN C j k
/-- the face does not look at nodes -/
theorem sf_keep {C R C' R' : mm_M} {j : Nat} (h : SF C R j) (c7 : C'.1 7 = C.1 7) (c8 : C'.1 8 = C.1 8) (c9 : C'.1 9 = C.1 9) (c10 : C'.1 10 = C.1 10) (c14 : C'.1 14 = C.1 14) (c15 : C'.1 15 = C.1 15) (c16 : C'.2.1 16 = C.2.1 16) (r41 : R'.1 41 = R.1 41) (r42 : R'.1 42 = R.1 42) (r43 : R'.1 43 = R.1 43) (r56 : R'.2.1 56 = R.2.1 56) (r57 : R'.2.1 57 = R.2.1 57) : SF C' R' j := by
  have ht : ∀ c, s_typeBy C' j c = s_typeBy C j c := fun c => by
    unfold s_typeBy s_typeByK
    rw [c15, c16]
  have hf : ∀ f, s_hasFun C' f = s_hasFun C f := fun f => by
    unfold s_hasFun
    rw [c7]
  unfold SF at h ⊢
  simp only [ht, hf, c8, c9, c10, c14, c15, c16, r41, r42, r43, r56, r57]
  exact h
/-- a node is found on both sides -/
theorem SC.upd {C R C' R' : mm_M} {j k : Nat} {t s : Int32} {x : Int64} (h : SC C R) (hj : j < 20) (hc : nI j < C.1 12 0 2) (hk : k < 60)
    (c17 : ∀ a b, C'.1 17 a b = if a = j ∧ b = k then t else C.1 17 a b) (c18 : ∀ a b, C'.1 18 a b = if a = j ∧ b = k then s else C.1 18 a b) (c19 : ∀ a b, ¬ (a = j ∧ b = k) → C'.2.1 19 a b = C.2.1 19 a b) (cx : s = 1 → C'.2.1 19 j k = x)
    (co : ∀ f, f < 17 → C'.1 f = C.1 f) (c16 : C'.2.1 16 = C.2.1 16)
    (r44 : ∀ a, R'.1 44 0 a = if a = 60 * j + k then 1 else R.1 44 0 a) (r45 : ∀ a, R'.1 45 0 a = if a = 60 * j + k then s else R.1 45 0 a) (r46 : ∀ a, R'.1 46 0 a = if a = 60 * j + k then t else R.1 46 0 a) (r48 : ∀ a, ¬ a = 60 * j + k → R'.2.1 48 0 a = R.2.1 48 0 a) (rx : s = 1 → R'.2.1 48 0 (60 * j + k) = x)
    (ro : ∀ f, f < 12 → R'.1 f = R.1 f) (r30 : R'.1 30 = R.1 30) (r41 : R'.1 41 = R.1 41) (r42 : R'.1 42 = R.1 42) (r43 : R'.1 43 = R.1 43) (r56 : R'.2.1 56 = R.2.1 56) (r57 : R'.2.1 57 = R.2.1 57)
    (ht : TV t) (hs : s = 0 ∨ s = 1) (h3 : t = 300 → s = 1) (hh : s = 1 → s_holds t x = true) : SC C' R' := by
  obtain ⟨h1, h2, h4, h5, h6⟩ := h
  refine ⟨fun f hf => by rw [ro f hf, co f (by omega)]; exact h1 f hf, by rw [r30, co 12 (by decide)]; exact h2, by rw [r30, co 12 (by decide)]; exact h4, by rw [r30, co 12 (by decide)]; exact h5, fun a ha hac => ?_⟩
  rw [co 12 (by decide)] at hac
  obtain ⟨g1, g2⟩ := h6 a ha hac
  refine ⟨sf_keep g1 (co 7 (by decide)) (co 8 (by decide)) (co 9 (by decide)) (co 10 (by decide)) (co 14 (by decide)) (co 15 (by decide)) c16 r41 r42 r43 r56 r57, fun b hb => ?_⟩
  obtain ⟨g3, g4⟩ := g2 b hb
  by_cases q : a = j ∧ b = k
  · obtain ⟨rfl, rfl⟩ := q
    have e17 : C'.1 17 a b = t := by rw [c17, if_pos ⟨rfl, rfl⟩]
    have e18 : C'.1 18 a b = s := by rw [c18, if_pos ⟨rfl, rfl⟩]
    have e44 : R'.1 44 0 (60 * a + b) = 1 := by rw [r44, if_pos rfl]
    have e45 : R'.1 45 0 (60 * a + b) = s := by rw [r45, if_pos rfl]
    have e46 : R'.1 46 0 (60 * a + b) = t := by rw [r46, if_pos rfl]
    have n4 := ht.n400
    unfold SN WN
    rw [e17, e18, e44, e45, e46]
    exact ⟨⟨⟨fun z => absurd z (by decide), fun z => absurd z n4⟩, fun _ => ⟨rfl, rfl, fun z => by rw [rx z, cx z]⟩⟩, fun z => absurd z n4, hs, fun _ => ⟨ht, h3, fun z => by rw [cx z]; exact hh z⟩⟩
  · have q' : ¬ 60 * a + b = 60 * j + k := fun z => q (by omega)
    unfold SN WN at *
    rw [c17, if_neg q, c18, if_neg q, c19 a b q, r44, if_neg q', r45, if_neg q', r46, if_neg q', r48 _ q']
    exact ⟨g3, g4⟩
