/-! levels on both sides -/
theorem gt_max {x y : Int32} : t_gt x y = s_max x y := by
  unfold t_gt s_max
  by_cases q : x < y
  · rw [if_pos q, if_pos (Int32.le_of_lt q)]
  · rw [if_neg q]
    by_cases q2 : x ≤ y
    · rw [if_pos q2]
      exact (Int32.le_antisymm q2 (Int32.not_lt.mp q)).symm
    · rw [if_neg q2]
theorem gt_0 {x : Int32} (h : 0 ≤ x) : t_gt x 0 = x := by
  unfold t_gt
  by_cases q : x ≤ 0
  · rw [if_pos q]
    exact Int32.le_antisymm h q
  · rw [if_neg q]
theorem lv_nn {C : mm_M} {a : Int32} (hp : IP C) (h : s_hasNode C a = true) : 0 ≤ C.1 6 0 a.toNatClampNeg := by
  have := (hp.2.2.1 a h).1
  unfold lv at this
  rw [Int32.le_iff_toInt_le, Int32.toInt_zero]
  omega
theorem tlv_n {C R : mm_M} {a : Int32} (h6 : R.1 35 0 = C.1 6 0) (hp : IP C) (h : s_hasNode C a = true) : t_lv R a = C.1 6 0 a.toNatClampNeg := by
  unfold t_lv
  rw [if_pos (nn60 (hp.in60 h)), h6]
theorem tlv_m {R : mm_M} : t_lv R (-1) = 0 := by
  unfold t_lv
  rw [if_neg (by decide)]
theorem tlv_arg {C R : mm_M} {a : Int32} (h6 : R.1 35 0 = C.1 6 0) (hp : IP C) (h : a = -1 ∨ s_hasNode C a = true) : t_lv R a = s_lvArg C a ∧ 0 ≤ s_lvArg C a := by
  unfold s_lvArg
  rcases h with rfl | h
  · rw [tlv_m, if_pos rfl]
    exact ⟨rfl, by decide⟩
  · have n1 : ¬ a = -1 := fun q => by
      have := nn60 (hp.in60 h)
      rw [q] at this
      exact absurd this (by decide)
    rw [tlv_n h6 hp h, if_neg n1]
    exact ⟨rfl, lv_nn hp h⟩
theorem max_nn {x y : Int32} (hx : 0 ≤ x) (hy : 0 ≤ y) : 0 ≤ s_max x y := by
  unfold s_max
  split
  · exact hy
  · exact hx
