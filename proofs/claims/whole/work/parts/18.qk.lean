/-! what the two sides tell of an instance -/
theorem none_eq {C R : mm_M} {i : Int32} (h : SC C R) : t_none R i = !s_hasInst C i := by
  unfold t_none s_hasInst
  rw [h.2.1]
  cases decide (i < 0) <;> cases decide (C.1 12 0 2 ≤ i) <;> rfl
theorem inst_j {C : mm_M} {i : Int32} (h : s_hasInst C i = true) (hi : IQ C) : i.toNatClampNeg < 20 ∧ nI i.toNatClampNeg < C.1 12 0 2 ∧ nI i.toNatClampNeg = i := by
  have hv := s_hasInst_in h hi.x20
  have h1 := clamp_i hv
  refine ⟨h1.2, s_hasInst_nI h, ?_⟩
  apply Int32.toInt_inj.mp
  rw [nI_ti (by omega)]
  exact h1.1
theorem fnOf_eq {C R : mm_M} {i : Int32} (h : SC C R) (hi : IQ C) : s_fnOf C i = t_fnOf R i := by
  unfold s_fnOf t_fnOf
  rw [none_eq h]
  by_cases q : s_hasInst C i = true
  · obtain ⟨j1, j2, -⟩ := inst_j q hi
    rw [if_pos q, q, if_neg (by decide), (h.2.2.2.2 _ j1 j2).1.1]
  · have q' : s_hasInst C i = false := by simpa using q
    rw [if_neg q, q', if_pos (by decide)]
theorem typeOf_eq {C R : mm_M} {i n : Int32} (h : SC C R) (hi : IQ C) (hp : IP C) (hs : R.1 30 0 0 = C.1 1 0 10) : s_typeOf C i n = t_typeOf R i n := by
  have en : t_isNode R n = s_hasNode C n := by
    unfold t_isNode s_hasNode
    rw [hs]
  unfold s_typeOf t_typeOf
  rw [none_eq h, en]
  by_cases q : s_hasInst C i = true
  · obtain ⟨j1, j2, j3⟩ := inst_j q hi
    rw [if_pos q, q, if_neg (show ¬ (!true) = true by decide)]
    by_cases q2 : s_hasNode C n = true
    · have nf : ¬ s_hasNode C n = false := by rw [q2]; decide
      rw [if_pos q2, if_neg nf]
      obtain ⟨d1, d2, -⟩ := h.rd (a := n) j1 j2 (hp.in60 q2)
      rw [j3] at d1 d2
      by_cases q3 : C.1 17 i.toNatClampNeg n.toNatClampNeg = 400
      · rw [if_pos (d1.mpr q3), q3]
      · rw [if_neg (fun z => q3 (d1.mp z)), (d2 q3).1]
    · rw [if_neg q2, if_pos (by simpa using q2)]
  · have q' : s_hasInst C i = false := by simpa using q
    rw [if_neg q, q', if_pos (by decide)]
theorem known_eq {C R : mm_M} {i n : Int32} (h : SC C R) (hi : IQ C) (hp : IP C) (hs : R.1 30 0 0 = C.1 1 0 10) : s_known C i n = t_knownOf R i n := by
  have en : t_isNode R n = s_hasNode C n := by
    unfold t_isNode s_hasNode
    rw [hs]
  unfold s_known t_knownOf
  rw [none_eq h, en]
  by_cases q : s_hasInst C i = true
  · obtain ⟨j1, j2, j3⟩ := inst_j q hi
    rw [if_pos q, q, if_neg (show ¬ (!true) = true by decide)]
    by_cases q2 : s_hasNode C n = true
    · have nf : ¬ s_hasNode C n = false := by rw [q2]; decide
      rw [if_pos q2, if_neg nf]
      obtain ⟨d1, d2, w1, w2, -⟩ := h.rd (a := n) j1 j2 (hp.in60 q2)
      rw [j3] at d1 d2
      by_cases q3 : C.1 17 i.toNatClampNeg n.toNatClampNeg = 400
      · rw [if_pos (d1.mpr q3), if_pos (w1 q3)]
      · obtain ⟨x1, x2, x3⟩ := d2 q3
        rw [if_neg (fun z => q3 (d1.mp z)), x2]
        by_cases q4 : C.1 18 i.toNatClampNeg n.toNatClampNeg = 0
        · rw [if_pos q4, if_pos q4]
        · rw [if_neg q4, if_neg q4, x3 (w2.resolve_left q4)]
    · rw [if_neg q2, if_pos (by simpa using q2)]
  · have q' : s_hasInst C i = false := by simpa using q
    rw [if_neg q, q', if_pos (by decide)]
theorem countOf_eq {C R : mm_M} {i k : Int32} (h : SC C R) (hi : IQ C) : s_countOf C i k = t_countOf R i k := by
  unfold s_countOf t_countOf t_codeOf
  rw [none_eq h]
  by_cases q : s_hasInst C i = true
  · obtain ⟨j1, j2, j3⟩ := inst_j q hi
    obtain ⟨f1, -, -, -, -, f6, f7, -, -, -, f11, f12, -⟩ := (h.2.2.2.2 _ j1 j2).1
    rw [if_pos q, q, if_neg (show ¬ (!true) = true by decide), f1, h.1 8 (by decide), h.1 9 (by decide)]
    by_cases q0 : k < 0
    · rw [if_pos q0, if_pos q0]
    rw [if_neg q0, if_neg q0]
    by_cases q1 : k ≤ 1
    · rw [if_pos q1, if_neg (Int32.not_lt.mpr q1)]
      by_cases q2 : k = 0
      · subst q2
        rw [if_pos rfl, if_pos rfl, f11]
        show (if C.1 15 i.toNatClampNeg 0 = 300 then C.2.1 16 i.toNatClampNeg 0 else 1000000000000000) = _
        by_cases q3 : C.1 15 i.toNatClampNeg 0 = 300
        · rw [if_pos q3, if_pos (f6.mp q3), if_pos (f6.mp q3)]
        · rw [if_neg q3, if_neg (fun z => q3 (f6.mpr z))]
      · have e : k = 1 := by
          rw [Int32.lt_iff_toInt_lt, Int32.toInt_zero] at q0
          rw [Int32.le_iff_toInt_le, show (1 : Int32).toInt = 1 by decide] at q1
          rw [← Int32.toInt_inj, Int32.toInt_zero] at q2
          rw [← Int32.toInt_inj, show (1 : Int32).toInt = 1 by decide]
          omega
        subst e
        have n1 : ¬ (1 : Int32) = 0 := by decide
        rw [if_neg n1, if_neg n1, f12]
        show (if C.1 15 i.toNatClampNeg 1 = 300 then C.2.1 16 i.toNatClampNeg 1 else 1000000000000000) = _
        by_cases q3 : C.1 15 i.toNatClampNeg 1 = 300
        · rw [if_pos q3, if_pos (f7.mp q3), if_pos (f7.mp q3)]
        · rw [if_neg q3, if_neg (fun z => q3 (f7.mpr z))]
    · rw [if_neg q1, if_pos (Int32.not_le.mp q1)]
  · have q' : s_hasInst C i = false := by simpa using q
    rw [if_neg q, q', if_pos (show (!false) = true by decide)]
