/-! size on both sides -/
theorem cntSize_eq {k : Int32} : s_cntSize k = (!decide (k ≤ 1) && !decide (16 ≤ k)) := by
  have e1 : (k < 2) ↔ (k ≤ 1) := by
    rw [Int32.lt_iff_toInt_lt, Int32.le_iff_toInt_le, show (2 : Int32).toInt = 2 by decide, show (1 : Int32).toInt = 1 by decide]
    omega
  have e2 : (15 < k) ↔ (16 ≤ k) := by
    rw [Int32.lt_iff_toInt_lt, Int32.le_iff_toInt_le, show (15 : Int32).toInt = 15 by decide, show (16 : Int32).toInt = 16 by decide]
    omega
  unfold s_cntSize
  simp only [e1, e2]
theorem cnt_eq {C R : mm_M} {j c : Nat} (h : SC C R) (hj : j < 20) (hc : nI j < C.1 12 0 2) (hk : R.1 31 0 = C.1 2 0) (h60 : c ≤ 60) : ∀ (k : Nat) (r : Int32), k ≤ c → t_cnt R (nI j) c k r = s_cnt C j c k r
  | 0, _, _ => rfl
  | k + 1, r, hkc => by
    have v6 : vp_in (nI (c - (k + 1))) 60 := vp_in_nI (by omega) (by decide)
    have ec : (nI (c - (k + 1))).toNatClampNeg = c - (k + 1) := nI_clamp (by omega)
    obtain ⟨d1, d2, w1, w2, -⟩ := h.rd (a := nI (c - (k + 1))) hj hc v6
    have key : (t_left R (nI j) (nI (c - (k + 1))) = true) ↔ (s_cntSize (C.1 2 0 (c - (k + 1))) = true ∧ s_was C j (nI (c - (k + 1))) = true ∧ C.1 18 j (c - (k + 1)) = 0) := by
      unfold t_left
      rw [cntSize_eq, hk, ec]
      rw [ec] at d1 d2 w1 w2
      by_cases q : C.1 17 j (c - (k + 1)) = 400
      · have q1 := d1.mpr q
        simp [s_was, ec, q, q1]
      · have q1 : ¬ t_at R 44 (nI j) (nI (c - (k + 1))) = 0 := fun z => q (d1.mp z)
        have q2 := (d2 q).2.1
        simp only [s_was, ec, q, q1, q2, decide_false, Bool.not_false, Bool.true_and, Bool.and_eq_true, decide_eq_true_eq, true_and]
        exact ⟨fun z => ⟨⟨z.1.2, z.2⟩, z.1.1⟩, fun z => ⟨⟨z.2, z.1.1⟩, z.1.2⟩⟩
    unfold t_cnt s_cnt
    rw [cnt_eq h hj hc hk h60 k _ (by omega)]
    by_cases q : t_left R (nI j) (nI (c - (k + 1))) = true
    · rw [if_pos q, if_pos (key.mp q)]
    · rw [if_neg q, if_neg (fun z => q (key.mpr z))]
theorem size_eq {C R : mm_M} {i : Int32} (h : SC C R) (hi : IQ C) (hp : IP C) (hk : R.1 31 0 = C.1 2 0) (hs : R.1 30 0 0 = C.1 1 0 10) : s_size C i = t_size R i := by
  unfold s_size t_size
  rw [none_eq h, hs]
  by_cases q : s_hasInst C i = true
  · obtain ⟨j1, j2, j3⟩ := inst_j q hi
    rw [if_pos q, q, if_neg (show ¬ (!true) = true by decide)]
    have e := cnt_eq h j1 j2 hk hp.cl.1 (C.1 1 0 10).toNatClampNeg 0 (Nat.le_refl _)
    rw [j3] at e
    exact e.symm
  · have q' : s_hasInst C i = false := by simpa using q
    rw [if_neg q, q', if_pos (show (!false) = true by decide)]
