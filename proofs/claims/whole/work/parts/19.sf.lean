/-! the observers answer alike -/
theorem INV.x20 {M : mm_M} (h : INV M) : ¬ 20 < M.1 12 0 2 := h.2.2.1.x20
theorem INV.r20 {M : mm_M} (h : INV M) : ¬ 20 < M.1 30 0 3 := by
  rw [h.2.2.2.2.1.2.1]
  exact h.x20
theorem INV.r60 {M : mm_M} (h : INV M) : ¬ 60 < M.1 30 0 0 := by
  rw [h.2.2.2.1.1]
  exact h.2.1.2.1
theorem INV.c60 {M : mm_M} (h : INV M) : ∃ c, c ≤ 60 ∧ M.1 30 0 0 = nI c := by
  have h0 := h.2.1.1
  have h1 := h.2.1.2.1
  rw [h.2.2.2.1.1]
  rw [Int32.lt_iff_toInt_lt, Int32.toInt_zero] at h0
  rw [Int32.lt_iff_toInt_lt, show (60 : Int32).toInt = 60 by decide] at h1
  refine ⟨(M.1 1 0 10).toNatClampNeg, ?_, ?_⟩
  · unfold Int32.toNatClampNeg
    omega
  · apply Int32.toInt_inj.mp
    unfold Int32.toNatClampNeg
    rw [nI_ti (by omega)]
    omega
theorem INV.f8 {M : mm_M} (h : INV M) {i : Int32} (hn : t_none M i = false) : vp_in (M.1 41 0 i.toNatClampNeg) 8 := by
  have hS := h.2.2.2.2.1
  rw [none_eq hS] at hn
  have hi : s_hasInst M i = true := by simpa using hn
  obtain ⟨hj, hjc, -⟩ := inst_j hi h.2.2.1
  obtain ⟨f1, f2, -⟩ := (hS.2.2.2.2 _ hj hjc).1
  rw [f1]
  exact (hasFun_iff.mp f2).1
theorem INV.count {M : mm_M} (h : INV M) (k : Int32) : s_count M k = t_count M k := by
  obtain ⟨hgd, hp, hi, hsp, hS, hB, hc, hf⟩ := h
  unfold s_count t_count
  rw [hsp.1, hS.2.1, hc, hf]
theorem INV.fn {M : mm_M} (h : INV M) (i : Int32) : s_fnOf M i = t_fnOf M i := fnOf_eq h.2.2.2.2.1 h.2.2.1
theorem INV.co {M : mm_M} (h : INV M) (i k : Int32) : s_countOf M i k = t_countOf M i k := countOf_eq h.2.2.2.2.1 h.2.2.1
theorem INV.ty {M : mm_M} (h : INV M) (i n : Int32) : s_typeOf M i n = t_typeOf M i n := typeOf_eq h.2.2.2.2.1 h.2.2.1 h.2.1 h.2.2.2.1.1
theorem INV.kn {M : mm_M} (h : INV M) (i n : Int32) : s_known M i n = t_knownOf M i n := known_eq h.2.2.2.2.1 h.2.2.1 h.2.1 h.2.2.2.1.1
theorem INV.si {M : mm_M} (h : INV M) (i : Int32) : s_size M i = t_size M i := size_eq h.2.2.2.2.1 h.2.2.1 h.2.1 h.2.2.2.1.2.1 h.2.2.2.1.1
theorem INV.er {M : mm_M} (h : INV M) : M.1 12 0 4 = M.1 30 0 2 := h.2.2.2.2.1.2.2.2.1.symm
