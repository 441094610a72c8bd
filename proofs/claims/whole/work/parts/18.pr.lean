/-! the two arithmetics -/
/-- the types of values -/
def VT (t : Int32) : Prop := -31 ≤ t.toInt ∧ t.toInt ≤ 31
theorem VT.all {t : Int32} (h : VT t) {p : Int32 → Prop} (hp : ∀ k : Fin 63, p (Int32.ofInt ((k.val : Int) - 31))) : p t := by
  obtain ⟨h1, h2⟩ := h
  have e : t = Int32.ofInt ((((t.toInt + 31).toNat : Nat) : Int) - 31) := by
    rw [Int.toNat_of_nonneg (by omega), Int.add_sub_cancel, Int32.ofInt_toInt]
  have := hp ⟨(t.toInt + 31).toNat, by omega⟩
  rw [e]
  exact this
theorem isInt_iff {t : Int32} : s_isInt t = true ↔ VT t ∧ ¬ t = 0 := by
  simp only [s_isInt, Bool.and_eq_true, Bool.not_eq_true', decide_eq_false_iff_not, VT, Int32.lt_iff_toInt_lt, ← Int32.toInt_inj]
  have e1 : (-31 : Int32).toInt = -31 := by decide
  have e2 : (31 : Int32).toInt = 31 := by decide
  have e0 : (0 : Int32).toInt = 0 := by decide
  omega
theorem wide_iff {t : Int32} : t_wide t = true ↔ 1 ≤ t.toInt ∧ t.toInt ≤ 31 := by
  simp only [t_wide, Bool.and_eq_true, Bool.not_eq_true', decide_eq_false_iff_not, Int32.lt_iff_toInt_lt]
  have e1 : (1 : Int32).toInt = 1 := by decide
  have e2 : (31 : Int32).toInt = 31 := by decide
  omega
theorem neg_toInt {t : Int32} : (-t).toInt = -t.toInt ∨ (t.toInt = -2147483648 ∧ (-t).toInt = -2147483648) := by
  have h1 := t.le_toInt
  have h2 := t.toInt_lt
  rw [Int32.toInt_neg]
  simp only [Int.bmod]
  split <;> omega
theorem isI_eq {t : Int32} : t_isI t = s_isInt t := by
  rw [Bool.eq_iff_iff, isInt_iff]
  simp only [t_isI, Bool.or_eq_true, wide_iff, VT, ← Int32.toInt_inj]
  have e0 : (0 : Int32).toInt = 0 := by decide
  rcases neg_toInt (t := t) with e | e <;> omega
theorem isIC_eq {t : Int32} : t_isIC t = s_isCast t := by
  have h := isI_eq (t := t)
  unfold t_isI at h
  unfold t_isIC s_isCast s_isByP
  rw [h]
  simp only [Bool.or_assoc]
theorem isCode_eq {t : Int32} : t_isCode t = s_isPar t := by
  unfold t_isCode s_isPar s_isRes
  rw [isIC_eq]
  cases s_isCast t <;> cases decide (t = 0) <;> rfl
theorem cast_le {t : Int32} (h : s_isCast t = true) : t.toInt ≤ 201 := by
  simp only [s_isCast, Bool.or_eq_true, isInt_iff, s_isByP, decide_eq_true_eq] at h
  rcases h with h | h
  · exact Int.le_trans h.1.2 (by decide)
  · rcases h with ((rfl | rfl) | rfl) | rfl <;> decide
theorem isRes_eq {t : Int32} : (t_isCode t = true ∧ ¬ 299 < t) ↔ s_isRes t = true := by
  rw [isCode_eq]
  simp only [s_isPar, Bool.or_eq_true, decide_eq_true_eq, Int32.lt_iff_toInt_lt]
  have e : (299 : Int32).toInt = 299 := by decide
  constructor
  · rintro ⟨(h | h) | h, h2⟩
    · exact h
    · rw [h] at h2
      exact absurd (by decide) h2
    · rw [h] at h2
      exact absurd (by decide) h2
  · intro h
    refine ⟨Or.inl (Or.inl h), ?_⟩
    simp only [s_isRes, Bool.or_eq_true, decide_eq_true_eq] at h
    rcases h with rfl | h
    · decide
    · have := cast_le h
      omega
theorem low_eq {t : Int32} : t_low t = s_low t := rfl
theorem high_eq {t : Int32} (h : ¬ t = 0) : t_high t = s_high t := by
  unfold t_high s_high
  rw [if_neg h]
theorem fits_eq {t : Int32} {x : Int64} (h : ¬ t = 0) : t_fitsIn t x = s_holds t x := by
  unfold t_fitsIn s_holds
  rw [high_eq h]
  rfl
/-- the bounds of the types, as numbers -/
theorem vt_sz {t : Int32} (h : VT t) : ¬ t_sz t = 0 := h.all (p := fun t => ¬ t_sz t = 0) (by decide +kernel)
theorem c_sz : ¬ t_sz 300 = 0 := by decide
theorem vt_low {t : Int32} (h : VT t) : -2147483648 ≤ (s_low t).toInt ∧ (s_low t).toInt ≤ 0 := h.all (p := fun t => -2147483648 ≤ (s_low t).toInt ∧ (s_low t).toInt ≤ 0) (by decide +kernel)
theorem vt_high {t : Int32} (h : VT t) : 0 ≤ (s_high t).toInt ∧ (s_high t).toInt ≤ 2147483647 := h.all (p := fun t => 0 ≤ (s_high t).toInt ∧ (s_high t).toInt ≤ 2147483647) (by decide +kernel)
theorem holds_iff {t : Int32} {x : Int64} : s_holds t x = true ↔ (s_low t).toInt ≤ x.toInt ∧ x.toInt ≤ (s_high t).toInt := by
  simp only [s_holds, Bool.and_eq_true, Bool.not_eq_true', decide_eq_false_iff_not, Int64.lt_iff_toInt_lt]
  omega
