/-! node on both sides -/
theorem isNode_eq {C R : mm_M} (h : R.1 30 0 0 = C.1 1 0 10) (n : Int32) : t_isNode R n = s_hasNode C n := by
  unfold t_isNode s_hasNode
  rw [h]
theorem good_eq {C R : mm_M} (h : R.1 30 0 0 = C.1 1 0 10) {k a b c : Int32} : t_good R k a b c = (s_isOne k && s_hasOps C k a b c) := by
  have hn := isNode_eq h
  have hm : ∀ n, t_mayN R n = s_mayBe C n := fun n => by
    unfold t_mayN s_mayBe
    rw [hn]
  unfold t_good s_hasOps
  simp only [hn, hm, isIC_eq]
  by_cases z0 : k = 0
  · subst z0
    rfl
  by_cases z1 : k = 1
  · subst z1
    rfl
  by_cases z13 : k = 13
  · subst z13
    rfl
  by_cases z14 : k = 14
  · subst z14
    rfl
  by_cases z15 : k = 15
  · subst z15
    rfl
  by_cases z16 : k = 16
  · subst z16
    rfl
  simp only [z0, z1, z13, z14, z15, z16, if_false]
  by_cases q : k < 0
  · simp [q, s_isOne]
  · by_cases q2 : 17 ≤ k
    · have q3 : 16 < k := by
        rw [Int32.le_iff_toInt_le, show (17 : Int32).toInt = 17 by decide] at q2
        rw [Int32.lt_iff_toInt_lt, show (16 : Int32).toInt = 16 by decide]
        omega
      simp [q, q2, q3, s_isOne]
    · have q3 : ¬ 16 < k := by
        rw [Int32.le_iff_toInt_le, show (17 : Int32).toInt = 17 by decide] at q2
        rw [Int32.lt_iff_toInt_lt, show (16 : Int32).toInt = 16 by decide]
        omega
      simp [q, q2, q3, s_isOne]
