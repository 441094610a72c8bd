/-! wrapping, as the class and as the reference do it -/
theorem shl_i {x b : Int64} {n : Nat} (hb : (b.toBitVec.smod 64).toNat = n) : (x <<< b).toInt = (x.toInt * 2 ^ n).bmod (2 ^ 64) := by
  rw [← Int64.toInt_toBitVec, Int64.toBitVec_shiftLeft, BitVec.shiftLeft_eq', hb, BitVec.toInt_shiftLeft, ← Int64.toInt_toBitVec x, BitVec.toInt_eq_toNat_bmod, Int.bmod_mul_bmod, Nat.shiftLeft_eq]
  norm_cast
theorem sar_i {x b : Int64} {n : Nat} (hb : (b.toBitVec.smod 64).toNat = n) : (x >>> b).toInt = x.toInt / (2 ^ n : Nat) := by
  rw [← Int64.toInt_toBitVec, Int64.toBitVec_shiftRight, BitVec.sshiftRight_eq', hb, BitVec.toInt_sshiftRight, Int.shiftRight_eq_div_pow, Int64.toInt_toBitVec]
theorem bm64 (a : Int) : ∃ m : Int, a.bmod (2 ^ 64) = a - 18446744073709551616 * m ∧ -9223372036854775808 ≤ a.bmod (2 ^ 64) ∧ a.bmod (2 ^ 64) < 9223372036854775808 := by
  simp only [Int.bmod]
  split
  · exact ⟨a / 18446744073709551616, by omega, by omega, by omega⟩
  · exact ⟨a / 18446744073709551616 + 1, by omega, by omega, by omega⟩
theorem u64_i {x : Int64} : (x.toUInt64.toNat : Int) = x.toInt % 18446744073709551616 := by
  have h : x.toInt = (x.toBitVec.toNat : Int).bmod (2 ^ 64) := by rw [← Int64.toInt_toBitVec, BitVec.toInt_eq_toNat_bmod]
  have h2 := x.toBitVec.isLt
  show (x.toBitVec.toNat : Int) = _
  rw [h]
  simp only [Int.bmod]
  split <;> omega
theorem shr_u {x : Int64} {b : UInt64} {n : Nat} (hb : b.toNat % 64 = n) (hn : 1 ≤ n) : ((x.toUInt64 >>> b).toInt64).toInt = (x.toInt % 18446744073709551616) / (2 ^ n : Nat) := by
  have h1 : ((x.toUInt64 >>> b).toNat : Int) = (x.toInt % 18446744073709551616) / (2 ^ n : Nat) := by
    rw [UInt64.toNat_shiftRight, hb, Nat.shiftRight_eq_div_pow, Int.natCast_ediv, u64_i]
  have h2 : (x.toUInt64 >>> b).toNat < 2 ^ 63 := by
    rw [UInt64.toNat_shiftRight, hb, Nat.shiftRight_eq_div_pow]
    have h3 := x.toUInt64.toNat_lt
    have h4 : 2 ^ 1 ≤ 2 ^ n := Nat.pow_le_pow_right (by decide) hn
    rw [Nat.div_lt_iff_lt_mul (by omega)]
    have h5 : 2 ^ 63 * 2 ^ 1 ≤ 2 ^ 63 * 2 ^ n := Nat.mul_le_mul_left _ h4
    have h6 : (2 : Nat) ^ 63 * 2 ^ 1 = 2 ^ 64 := by decide
    omega
  rw [← h1]
  generalize x.toUInt64 >>> b = y at h2
  show y.toBitVec.toInt = _
  have h3 : y.toBitVec.toNat = y.toNat := rfl
  rw [BitVec.toInt_eq_toNat_bmod, h3]
  simp only [Int.bmod]
  split <;> omega
theorem td (d s : Int) (hs : 0 < s) : (0 ≤ d → 0 ≤ d - d.tdiv s * s ∧ d - d.tdiv s * s < s) ∧ (d < 0 → -s < d - d.tdiv s * s ∧ d - d.tdiv s * s ≤ 0) := by
  constructor
  · intro h
    rw [Int.tdiv_eq_ediv_of_nonneg h]
    have h1 := Int.emod_nonneg d (show s ≠ 0 by omega)
    have h2 := Int.emod_lt_of_pos d hs
    have h3 := Int.emod_add_mul_ediv d s
    rw [Int.mul_comm] at h3
    omega
  · intro h
    have e : d.tdiv s = -((-d) / s) := by
      rw [← Int.tdiv_eq_ediv_of_nonneg (show 0 ≤ -d by omega), Int.neg_tdiv, Int.neg_neg]
    rw [e]
    have h1 := Int.emod_nonneg (-d) (show s ≠ 0 by omega)
    have h2 := Int.emod_lt_of_pos (-d) hs
    have h3 := Int.emod_add_mul_ediv (-d) s
    rw [Int.mul_comm] at h3
    rw [Int.neg_mul]
    omega
/-- what the reference makes of a result that may not fit -/
def t_rkV (t : Int32) (r : Int64) : Int64 := if t_fitsIn t r = true then r else t_low t + (if 0 ≤ t_rem t r then t_rem t r else t_rem t r + t_sz t)
/-- the reference's way, in numbers: low, size -/
theorem rkV_i {t : Int32} {r : Int64} {lo s : Int} (hlo : (t_low t).toInt = lo) (hs : (t_sz t).toInt = s) (hhi : (t_high t).toInt = lo + s - 1) (h1 : -2147483648 ≤ lo) (h2 : lo ≤ 0) (h3 : 0 < s) (h4 : s ≤ 4294967297) (hr1 : -4611686018427387904 ≤ r.toInt) (hr2 : r.toInt ≤ 4611686018427387904) : ∃ q : Int, (t_rkV t r).toInt = r.toInt - q * s ∧ lo ≤ (t_rkV t r).toInt ∧ (t_rkV t r).toInt < lo + s := by
  unfold t_rkV
  by_cases hf : t_fitsIn t r = true
  · rw [if_pos hf]
    simp only [t_fitsIn, Bool.and_eq_true, Bool.not_eq_true', decide_eq_false_iff_not, Int64.lt_iff_toInt_lt] at hf
    exact ⟨0, by omega, by omega, by omega⟩
  · rw [if_neg hf]
    have ed : (r - t_low t).toInt = r.toInt - lo := by
      rw [Int64.toInt_sub, hlo]
      apply Int.bmod_eq_of_le <;> omega
    obtain ⟨p1, p2⟩ := td (r.toInt - lo) s h3
    have q1 : (r.toInt - lo).tdiv s = (r.toInt - lo).tdiv s := rfl
    have hq : -(r.toInt - lo).natAbs ≤ (r.toInt - lo).tdiv s ∧ (r.toInt - lo).tdiv s ≤ (r.toInt - lo).natAbs := by
      have := Int.natAbs_tdiv_le_natAbs (r.toInt - lo) s
      omega
    generalize hqq : (r.toInt - lo).tdiv s = q at *
    have eq : ((r - t_low t) / t_sz t).toInt = q := by
      rw [Int64.toInt_div, ed, hs, hqq]
      apply Int.bmod_eq_of_le <;> omega
    have em : ((r - t_low t) / t_sz t * t_sz t).toInt = q * s := by
      rw [Int64.toInt_mul, eq, hs]
      apply Int.bmod_eq_of_le <;> omega
    have er : (t_rem t r).toInt = r.toInt - lo - q * s := by
      unfold t_rem
      rw [Int64.toInt_sub, ed, em]
      apply Int.bmod_eq_of_le <;> omega
    by_cases h0 : 0 ≤ t_rem t r
    · rw [if_pos h0]
      rw [Int64.le_iff_toInt_le, er, show (0 : Int64).toInt = 0 by decide] at h0
      have e : (t_low t + t_rem t r).toInt = lo + (r.toInt - lo - q * s) := by
        rw [Int64.toInt_add, hlo, er]
        apply Int.bmod_eq_of_le <;> omega
      exact ⟨q, by omega, by omega, by omega⟩
    · rw [if_neg h0]
      rw [Int64.le_iff_toInt_le, er, show (0 : Int64).toInt = 0 by decide] at h0
      have e1 : (t_rem t r + t_sz t).toInt = r.toInt - lo - q * s + s := by
        rw [Int64.toInt_add, hs, er]
        apply Int.bmod_eq_of_le <;> omega
      have e : (t_low t + (t_rem t r + t_sz t)).toInt = lo + (r.toInt - lo - q * s + s) := by
        rw [Int64.toInt_add, hlo, e1]
        apply Int.bmod_eq_of_le <;> omega
      refine ⟨q - 1, ?_, by omega, by omega⟩
      rw [e, Int.sub_mul]
      omega
/-- two that differ by a multiple of s and lie in a row of s are one -/
theorem mod_one {a b s m q r lo : Int} (hs : 0 < s) (ha : a = r - m * s) (hb : b = r - q * s) (a1 : lo ≤ a) (a2 : a < lo + s) (b1 : lo ≤ b) (b2 : b < lo + s) : a = b := by
  rcases Int.lt_trichotomy m q with h | h | h
  · have := Int.mul_le_mul_of_nonneg_right (show m + 1 ≤ q by omega) (Int.le_of_lt hs)
    rw [Int.add_mul] at this
    omega
  · rw [ha, hb, h]
  · have := Int.mul_le_mul_of_nonneg_right (show q + 1 ≤ m by omega) (Int.le_of_lt hs)
    rw [Int.add_mul] at this
    omega
theorem wr_0 : ¬ (-31 : Int32) = 0 → ∀ r : Int64, (∃ m : Int, (s_wrapped (-31) r).toInt = r.toInt - m * (t_sz (-31)).toInt) ∧ (s_low (-31)).toInt ≤ (s_wrapped (-31) r).toInt ∧ (s_wrapped (-31) r).toInt ≤ (s_high (-31)).toInt := by
  intro _ r
  rw [show (t_sz (-31)).toInt = 2147483648 by decide, show (s_low (-31)).toInt = 0 by decide, show (s_high (-31)).toInt = 2147483647 by decide]
  have e1 := shl_i (x := r) (b := (s_unused (-31)).toInt64 &&& 63) (n := 33) (by decide)
  obtain ⟨m, m1, m2, m3⟩ := bm64 (r.toInt * 2 ^ 33)
  rw [m1] at e1
  unfold s_wrapped
  rw [if_pos (by decide), shr_u (n := 33) (by decide) (by decide), e1]
  rw [m1] at m2 m3
  rw [show (2 : Int) ^ 33 = 8589934592 by decide] at *
  rw [show ((2 ^ 33 : Nat) : Int) = 8589934592 by decide]
  have h1 := Int.emod_nonneg (r.toInt * 8589934592 - 18446744073709551616 * m) (show (18446744073709551616 : Int) ≠ 0 by decide)
  have h2 := Int.emod_lt_of_pos (r.toInt * 8589934592 - 18446744073709551616 * m) (show (0 : Int) < 18446744073709551616 by decide)
  exact ⟨⟨r.toInt / 2147483648, by omega⟩, by omega, by omega⟩
theorem wr_1 : ¬ (-30 : Int32) = 0 → ∀ r : Int64, (∃ m : Int, (s_wrapped (-30) r).toInt = r.toInt - m * (t_sz (-30)).toInt) ∧ (s_low (-30)).toInt ≤ (s_wrapped (-30) r).toInt ∧ (s_wrapped (-30) r).toInt ≤ (s_high (-30)).toInt := by
  intro _ r
  rw [show (t_sz (-30)).toInt = 1073741824 by decide, show (s_low (-30)).toInt = 0 by decide, show (s_high (-30)).toInt = 1073741823 by decide]
  have e1 := shl_i (x := r) (b := (s_unused (-30)).toInt64 &&& 63) (n := 34) (by decide)
  obtain ⟨m, m1, m2, m3⟩ := bm64 (r.toInt * 2 ^ 34)
  rw [m1] at e1
  unfold s_wrapped
  rw [if_pos (by decide), shr_u (n := 34) (by decide) (by decide), e1]
  rw [m1] at m2 m3
  rw [show (2 : Int) ^ 34 = 17179869184 by decide] at *
  rw [show ((2 ^ 34 : Nat) : Int) = 17179869184 by decide]
  have h1 := Int.emod_nonneg (r.toInt * 17179869184 - 18446744073709551616 * m) (show (18446744073709551616 : Int) ≠ 0 by decide)
  have h2 := Int.emod_lt_of_pos (r.toInt * 17179869184 - 18446744073709551616 * m) (show (0 : Int) < 18446744073709551616 by decide)
  exact ⟨⟨r.toInt / 1073741824, by omega⟩, by omega, by omega⟩
theorem wr_2 : ¬ (-29 : Int32) = 0 → ∀ r : Int64, (∃ m : Int, (s_wrapped (-29) r).toInt = r.toInt - m * (t_sz (-29)).toInt) ∧ (s_low (-29)).toInt ≤ (s_wrapped (-29) r).toInt ∧ (s_wrapped (-29) r).toInt ≤ (s_high (-29)).toInt := by
  intro _ r
  rw [show (t_sz (-29)).toInt = 536870912 by decide, show (s_low (-29)).toInt = 0 by decide, show (s_high (-29)).toInt = 536870911 by decide]
  have e1 := shl_i (x := r) (b := (s_unused (-29)).toInt64 &&& 63) (n := 35) (by decide)
  obtain ⟨m, m1, m2, m3⟩ := bm64 (r.toInt * 2 ^ 35)
  rw [m1] at e1
  unfold s_wrapped
  rw [if_pos (by decide), shr_u (n := 35) (by decide) (by decide), e1]
  rw [m1] at m2 m3
  rw [show (2 : Int) ^ 35 = 34359738368 by decide] at *
  rw [show ((2 ^ 35 : Nat) : Int) = 34359738368 by decide]
  have h1 := Int.emod_nonneg (r.toInt * 34359738368 - 18446744073709551616 * m) (show (18446744073709551616 : Int) ≠ 0 by decide)
  have h2 := Int.emod_lt_of_pos (r.toInt * 34359738368 - 18446744073709551616 * m) (show (0 : Int) < 18446744073709551616 by decide)
  exact ⟨⟨r.toInt / 536870912, by omega⟩, by omega, by omega⟩
theorem wr_3 : ¬ (-28 : Int32) = 0 → ∀ r : Int64, (∃ m : Int, (s_wrapped (-28) r).toInt = r.toInt - m * (t_sz (-28)).toInt) ∧ (s_low (-28)).toInt ≤ (s_wrapped (-28) r).toInt ∧ (s_wrapped (-28) r).toInt ≤ (s_high (-28)).toInt := by
  intro _ r
  rw [show (t_sz (-28)).toInt = 268435456 by decide, show (s_low (-28)).toInt = 0 by decide, show (s_high (-28)).toInt = 268435455 by decide]
  have e1 := shl_i (x := r) (b := (s_unused (-28)).toInt64 &&& 63) (n := 36) (by decide)
  obtain ⟨m, m1, m2, m3⟩ := bm64 (r.toInt * 2 ^ 36)
  rw [m1] at e1
  unfold s_wrapped
  rw [if_pos (by decide), shr_u (n := 36) (by decide) (by decide), e1]
  rw [m1] at m2 m3
  rw [show (2 : Int) ^ 36 = 68719476736 by decide] at *
  rw [show ((2 ^ 36 : Nat) : Int) = 68719476736 by decide]
  have h1 := Int.emod_nonneg (r.toInt * 68719476736 - 18446744073709551616 * m) (show (18446744073709551616 : Int) ≠ 0 by decide)
  have h2 := Int.emod_lt_of_pos (r.toInt * 68719476736 - 18446744073709551616 * m) (show (0 : Int) < 18446744073709551616 by decide)
  exact ⟨⟨r.toInt / 268435456, by omega⟩, by omega, by omega⟩
theorem wr_4 : ¬ (-27 : Int32) = 0 → ∀ r : Int64, (∃ m : Int, (s_wrapped (-27) r).toInt = r.toInt - m * (t_sz (-27)).toInt) ∧ (s_low (-27)).toInt ≤ (s_wrapped (-27) r).toInt ∧ (s_wrapped (-27) r).toInt ≤ (s_high (-27)).toInt := by
  intro _ r
  rw [show (t_sz (-27)).toInt = 134217728 by decide, show (s_low (-27)).toInt = 0 by decide, show (s_high (-27)).toInt = 134217727 by decide]
  have e1 := shl_i (x := r) (b := (s_unused (-27)).toInt64 &&& 63) (n := 37) (by decide)
  obtain ⟨m, m1, m2, m3⟩ := bm64 (r.toInt * 2 ^ 37)
  rw [m1] at e1
  unfold s_wrapped
  rw [if_pos (by decide), shr_u (n := 37) (by decide) (by decide), e1]
  rw [m1] at m2 m3
  rw [show (2 : Int) ^ 37 = 137438953472 by decide] at *
  rw [show ((2 ^ 37 : Nat) : Int) = 137438953472 by decide]
  have h1 := Int.emod_nonneg (r.toInt * 137438953472 - 18446744073709551616 * m) (show (18446744073709551616 : Int) ≠ 0 by decide)
  have h2 := Int.emod_lt_of_pos (r.toInt * 137438953472 - 18446744073709551616 * m) (show (0 : Int) < 18446744073709551616 by decide)
  exact ⟨⟨r.toInt / 134217728, by omega⟩, by omega, by omega⟩
theorem wr_5 : ¬ (-26 : Int32) = 0 → ∀ r : Int64, (∃ m : Int, (s_wrapped (-26) r).toInt = r.toInt - m * (t_sz (-26)).toInt) ∧ (s_low (-26)).toInt ≤ (s_wrapped (-26) r).toInt ∧ (s_wrapped (-26) r).toInt ≤ (s_high (-26)).toInt := by
  intro _ r
  rw [show (t_sz (-26)).toInt = 67108864 by decide, show (s_low (-26)).toInt = 0 by decide, show (s_high (-26)).toInt = 67108863 by decide]
  have e1 := shl_i (x := r) (b := (s_unused (-26)).toInt64 &&& 63) (n := 38) (by decide)
  obtain ⟨m, m1, m2, m3⟩ := bm64 (r.toInt * 2 ^ 38)
  rw [m1] at e1
  unfold s_wrapped
  rw [if_pos (by decide), shr_u (n := 38) (by decide) (by decide), e1]
  rw [m1] at m2 m3
  rw [show (2 : Int) ^ 38 = 274877906944 by decide] at *
  rw [show ((2 ^ 38 : Nat) : Int) = 274877906944 by decide]
  have h1 := Int.emod_nonneg (r.toInt * 274877906944 - 18446744073709551616 * m) (show (18446744073709551616 : Int) ≠ 0 by decide)
  have h2 := Int.emod_lt_of_pos (r.toInt * 274877906944 - 18446744073709551616 * m) (show (0 : Int) < 18446744073709551616 by decide)
  exact ⟨⟨r.toInt / 67108864, by omega⟩, by omega, by omega⟩
theorem wr_6 : ¬ (-25 : Int32) = 0 → ∀ r : Int64, (∃ m : Int, (s_wrapped (-25) r).toInt = r.toInt - m * (t_sz (-25)).toInt) ∧ (s_low (-25)).toInt ≤ (s_wrapped (-25) r).toInt ∧ (s_wrapped (-25) r).toInt ≤ (s_high (-25)).toInt := by
  intro _ r
  rw [show (t_sz (-25)).toInt = 33554432 by decide, show (s_low (-25)).toInt = 0 by decide, show (s_high (-25)).toInt = 33554431 by decide]
  have e1 := shl_i (x := r) (b := (s_unused (-25)).toInt64 &&& 63) (n := 39) (by decide)
  obtain ⟨m, m1, m2, m3⟩ := bm64 (r.toInt * 2 ^ 39)
  rw [m1] at e1
  unfold s_wrapped
  rw [if_pos (by decide), shr_u (n := 39) (by decide) (by decide), e1]
  rw [m1] at m2 m3
  rw [show (2 : Int) ^ 39 = 549755813888 by decide] at *
  rw [show ((2 ^ 39 : Nat) : Int) = 549755813888 by decide]
  have h1 := Int.emod_nonneg (r.toInt * 549755813888 - 18446744073709551616 * m) (show (18446744073709551616 : Int) ≠ 0 by decide)
  have h2 := Int.emod_lt_of_pos (r.toInt * 549755813888 - 18446744073709551616 * m) (show (0 : Int) < 18446744073709551616 by decide)
  exact ⟨⟨r.toInt / 33554432, by omega⟩, by omega, by omega⟩
theorem wr_7 : ¬ (-24 : Int32) = 0 → ∀ r : Int64, (∃ m : Int, (s_wrapped (-24) r).toInt = r.toInt - m * (t_sz (-24)).toInt) ∧ (s_low (-24)).toInt ≤ (s_wrapped (-24) r).toInt ∧ (s_wrapped (-24) r).toInt ≤ (s_high (-24)).toInt := by
  intro _ r
  rw [show (t_sz (-24)).toInt = 16777216 by decide, show (s_low (-24)).toInt = 0 by decide, show (s_high (-24)).toInt = 16777215 by decide]
  have e1 := shl_i (x := r) (b := (s_unused (-24)).toInt64 &&& 63) (n := 40) (by decide)
  obtain ⟨m, m1, m2, m3⟩ := bm64 (r.toInt * 2 ^ 40)
  rw [m1] at e1
  unfold s_wrapped
  rw [if_pos (by decide), shr_u (n := 40) (by decide) (by decide), e1]
  rw [m1] at m2 m3
  rw [show (2 : Int) ^ 40 = 1099511627776 by decide] at *
  rw [show ((2 ^ 40 : Nat) : Int) = 1099511627776 by decide]
  have h1 := Int.emod_nonneg (r.toInt * 1099511627776 - 18446744073709551616 * m) (show (18446744073709551616 : Int) ≠ 0 by decide)
  have h2 := Int.emod_lt_of_pos (r.toInt * 1099511627776 - 18446744073709551616 * m) (show (0 : Int) < 18446744073709551616 by decide)
  exact ⟨⟨r.toInt / 16777216, by omega⟩, by omega, by omega⟩
theorem wr_8 : ¬ (-23 : Int32) = 0 → ∀ r : Int64, (∃ m : Int, (s_wrapped (-23) r).toInt = r.toInt - m * (t_sz (-23)).toInt) ∧ (s_low (-23)).toInt ≤ (s_wrapped (-23) r).toInt ∧ (s_wrapped (-23) r).toInt ≤ (s_high (-23)).toInt := by
  intro _ r
  rw [show (t_sz (-23)).toInt = 8388608 by decide, show (s_low (-23)).toInt = 0 by decide, show (s_high (-23)).toInt = 8388607 by decide]
  have e1 := shl_i (x := r) (b := (s_unused (-23)).toInt64 &&& 63) (n := 41) (by decide)
  obtain ⟨m, m1, m2, m3⟩ := bm64 (r.toInt * 2 ^ 41)
  rw [m1] at e1
  unfold s_wrapped
  rw [if_pos (by decide), shr_u (n := 41) (by decide) (by decide), e1]
  rw [m1] at m2 m3
  rw [show (2 : Int) ^ 41 = 2199023255552 by decide] at *
  rw [show ((2 ^ 41 : Nat) : Int) = 2199023255552 by decide]
  have h1 := Int.emod_nonneg (r.toInt * 2199023255552 - 18446744073709551616 * m) (show (18446744073709551616 : Int) ≠ 0 by decide)
  have h2 := Int.emod_lt_of_pos (r.toInt * 2199023255552 - 18446744073709551616 * m) (show (0 : Int) < 18446744073709551616 by decide)
  exact ⟨⟨r.toInt / 8388608, by omega⟩, by omega, by omega⟩
theorem wr_9 : ¬ (-22 : Int32) = 0 → ∀ r : Int64, (∃ m : Int, (s_wrapped (-22) r).toInt = r.toInt - m * (t_sz (-22)).toInt) ∧ (s_low (-22)).toInt ≤ (s_wrapped (-22) r).toInt ∧ (s_wrapped (-22) r).toInt ≤ (s_high (-22)).toInt := by
  intro _ r
  rw [show (t_sz (-22)).toInt = 4194304 by decide, show (s_low (-22)).toInt = 0 by decide, show (s_high (-22)).toInt = 4194303 by decide]
  have e1 := shl_i (x := r) (b := (s_unused (-22)).toInt64 &&& 63) (n := 42) (by decide)
  obtain ⟨m, m1, m2, m3⟩ := bm64 (r.toInt * 2 ^ 42)
  rw [m1] at e1
  unfold s_wrapped
  rw [if_pos (by decide), shr_u (n := 42) (by decide) (by decide), e1]
  rw [m1] at m2 m3
  rw [show (2 : Int) ^ 42 = 4398046511104 by decide] at *
  rw [show ((2 ^ 42 : Nat) : Int) = 4398046511104 by decide]
  have h1 := Int.emod_nonneg (r.toInt * 4398046511104 - 18446744073709551616 * m) (show (18446744073709551616 : Int) ≠ 0 by decide)
  have h2 := Int.emod_lt_of_pos (r.toInt * 4398046511104 - 18446744073709551616 * m) (show (0 : Int) < 18446744073709551616 by decide)
  exact ⟨⟨r.toInt / 4194304, by omega⟩, by omega, by omega⟩
theorem wr_10 : ¬ (-21 : Int32) = 0 → ∀ r : Int64, (∃ m : Int, (s_wrapped (-21) r).toInt = r.toInt - m * (t_sz (-21)).toInt) ∧ (s_low (-21)).toInt ≤ (s_wrapped (-21) r).toInt ∧ (s_wrapped (-21) r).toInt ≤ (s_high (-21)).toInt := by
  intro _ r
  rw [show (t_sz (-21)).toInt = 2097152 by decide, show (s_low (-21)).toInt = 0 by decide, show (s_high (-21)).toInt = 2097151 by decide]
  have e1 := shl_i (x := r) (b := (s_unused (-21)).toInt64 &&& 63) (n := 43) (by decide)
  obtain ⟨m, m1, m2, m3⟩ := bm64 (r.toInt * 2 ^ 43)
  rw [m1] at e1
  unfold s_wrapped
  rw [if_pos (by decide), shr_u (n := 43) (by decide) (by decide), e1]
  rw [m1] at m2 m3
  rw [show (2 : Int) ^ 43 = 8796093022208 by decide] at *
  rw [show ((2 ^ 43 : Nat) : Int) = 8796093022208 by decide]
  have h1 := Int.emod_nonneg (r.toInt * 8796093022208 - 18446744073709551616 * m) (show (18446744073709551616 : Int) ≠ 0 by decide)
  have h2 := Int.emod_lt_of_pos (r.toInt * 8796093022208 - 18446744073709551616 * m) (show (0 : Int) < 18446744073709551616 by decide)
  exact ⟨⟨r.toInt / 2097152, by omega⟩, by omega, by omega⟩
theorem wr_11 : ¬ (-20 : Int32) = 0 → ∀ r : Int64, (∃ m : Int, (s_wrapped (-20) r).toInt = r.toInt - m * (t_sz (-20)).toInt) ∧ (s_low (-20)).toInt ≤ (s_wrapped (-20) r).toInt ∧ (s_wrapped (-20) r).toInt ≤ (s_high (-20)).toInt := by
  intro _ r
  rw [show (t_sz (-20)).toInt = 1048576 by decide, show (s_low (-20)).toInt = 0 by decide, show (s_high (-20)).toInt = 1048575 by decide]
  have e1 := shl_i (x := r) (b := (s_unused (-20)).toInt64 &&& 63) (n := 44) (by decide)
  obtain ⟨m, m1, m2, m3⟩ := bm64 (r.toInt * 2 ^ 44)
  rw [m1] at e1
  unfold s_wrapped
  rw [if_pos (by decide), shr_u (n := 44) (by decide) (by decide), e1]
  rw [m1] at m2 m3
  rw [show (2 : Int) ^ 44 = 17592186044416 by decide] at *
  rw [show ((2 ^ 44 : Nat) : Int) = 17592186044416 by decide]
  have h1 := Int.emod_nonneg (r.toInt * 17592186044416 - 18446744073709551616 * m) (show (18446744073709551616 : Int) ≠ 0 by decide)
  have h2 := Int.emod_lt_of_pos (r.toInt * 17592186044416 - 18446744073709551616 * m) (show (0 : Int) < 18446744073709551616 by decide)
  exact ⟨⟨r.toInt / 1048576, by omega⟩, by omega, by omega⟩
theorem wr_12 : ¬ (-19 : Int32) = 0 → ∀ r : Int64, (∃ m : Int, (s_wrapped (-19) r).toInt = r.toInt - m * (t_sz (-19)).toInt) ∧ (s_low (-19)).toInt ≤ (s_wrapped (-19) r).toInt ∧ (s_wrapped (-19) r).toInt ≤ (s_high (-19)).toInt := by
  intro _ r
  rw [show (t_sz (-19)).toInt = 524288 by decide, show (s_low (-19)).toInt = 0 by decide, show (s_high (-19)).toInt = 524287 by decide]
  have e1 := shl_i (x := r) (b := (s_unused (-19)).toInt64 &&& 63) (n := 45) (by decide)
  obtain ⟨m, m1, m2, m3⟩ := bm64 (r.toInt * 2 ^ 45)
  rw [m1] at e1
  unfold s_wrapped
  rw [if_pos (by decide), shr_u (n := 45) (by decide) (by decide), e1]
  rw [m1] at m2 m3
  rw [show (2 : Int) ^ 45 = 35184372088832 by decide] at *
  rw [show ((2 ^ 45 : Nat) : Int) = 35184372088832 by decide]
  have h1 := Int.emod_nonneg (r.toInt * 35184372088832 - 18446744073709551616 * m) (show (18446744073709551616 : Int) ≠ 0 by decide)
  have h2 := Int.emod_lt_of_pos (r.toInt * 35184372088832 - 18446744073709551616 * m) (show (0 : Int) < 18446744073709551616 by decide)
  exact ⟨⟨r.toInt / 524288, by omega⟩, by omega, by omega⟩
theorem wr_13 : ¬ (-18 : Int32) = 0 → ∀ r : Int64, (∃ m : Int, (s_wrapped (-18) r).toInt = r.toInt - m * (t_sz (-18)).toInt) ∧ (s_low (-18)).toInt ≤ (s_wrapped (-18) r).toInt ∧ (s_wrapped (-18) r).toInt ≤ (s_high (-18)).toInt := by
  intro _ r
  rw [show (t_sz (-18)).toInt = 262144 by decide, show (s_low (-18)).toInt = 0 by decide, show (s_high (-18)).toInt = 262143 by decide]
  have e1 := shl_i (x := r) (b := (s_unused (-18)).toInt64 &&& 63) (n := 46) (by decide)
  obtain ⟨m, m1, m2, m3⟩ := bm64 (r.toInt * 2 ^ 46)
  rw [m1] at e1
  unfold s_wrapped
  rw [if_pos (by decide), shr_u (n := 46) (by decide) (by decide), e1]
  rw [m1] at m2 m3
  rw [show (2 : Int) ^ 46 = 70368744177664 by decide] at *
  rw [show ((2 ^ 46 : Nat) : Int) = 70368744177664 by decide]
  have h1 := Int.emod_nonneg (r.toInt * 70368744177664 - 18446744073709551616 * m) (show (18446744073709551616 : Int) ≠ 0 by decide)
  have h2 := Int.emod_lt_of_pos (r.toInt * 70368744177664 - 18446744073709551616 * m) (show (0 : Int) < 18446744073709551616 by decide)
  exact ⟨⟨r.toInt / 262144, by omega⟩, by omega, by omega⟩
theorem wr_14 : ¬ (-17 : Int32) = 0 → ∀ r : Int64, (∃ m : Int, (s_wrapped (-17) r).toInt = r.toInt - m * (t_sz (-17)).toInt) ∧ (s_low (-17)).toInt ≤ (s_wrapped (-17) r).toInt ∧ (s_wrapped (-17) r).toInt ≤ (s_high (-17)).toInt := by
  intro _ r
  rw [show (t_sz (-17)).toInt = 131072 by decide, show (s_low (-17)).toInt = 0 by decide, show (s_high (-17)).toInt = 131071 by decide]
  have e1 := shl_i (x := r) (b := (s_unused (-17)).toInt64 &&& 63) (n := 47) (by decide)
  obtain ⟨m, m1, m2, m3⟩ := bm64 (r.toInt * 2 ^ 47)
  rw [m1] at e1
  unfold s_wrapped
  rw [if_pos (by decide), shr_u (n := 47) (by decide) (by decide), e1]
  rw [m1] at m2 m3
  rw [show (2 : Int) ^ 47 = 140737488355328 by decide] at *
  rw [show ((2 ^ 47 : Nat) : Int) = 140737488355328 by decide]
  have h1 := Int.emod_nonneg (r.toInt * 140737488355328 - 18446744073709551616 * m) (show (18446744073709551616 : Int) ≠ 0 by decide)
  have h2 := Int.emod_lt_of_pos (r.toInt * 140737488355328 - 18446744073709551616 * m) (show (0 : Int) < 18446744073709551616 by decide)
  exact ⟨⟨r.toInt / 131072, by omega⟩, by omega, by omega⟩
theorem wr_15 : ¬ (-16 : Int32) = 0 → ∀ r : Int64, (∃ m : Int, (s_wrapped (-16) r).toInt = r.toInt - m * (t_sz (-16)).toInt) ∧ (s_low (-16)).toInt ≤ (s_wrapped (-16) r).toInt ∧ (s_wrapped (-16) r).toInt ≤ (s_high (-16)).toInt := by
  intro _ r
  rw [show (t_sz (-16)).toInt = 65536 by decide, show (s_low (-16)).toInt = 0 by decide, show (s_high (-16)).toInt = 65535 by decide]
  have e1 := shl_i (x := r) (b := (s_unused (-16)).toInt64 &&& 63) (n := 48) (by decide)
  obtain ⟨m, m1, m2, m3⟩ := bm64 (r.toInt * 2 ^ 48)
  rw [m1] at e1
  unfold s_wrapped
  rw [if_pos (by decide), shr_u (n := 48) (by decide) (by decide), e1]
  rw [m1] at m2 m3
  rw [show (2 : Int) ^ 48 = 281474976710656 by decide] at *
  rw [show ((2 ^ 48 : Nat) : Int) = 281474976710656 by decide]
  have h1 := Int.emod_nonneg (r.toInt * 281474976710656 - 18446744073709551616 * m) (show (18446744073709551616 : Int) ≠ 0 by decide)
  have h2 := Int.emod_lt_of_pos (r.toInt * 281474976710656 - 18446744073709551616 * m) (show (0 : Int) < 18446744073709551616 by decide)
  exact ⟨⟨r.toInt / 65536, by omega⟩, by omega, by omega⟩
theorem wr_16 : ¬ (-15 : Int32) = 0 → ∀ r : Int64, (∃ m : Int, (s_wrapped (-15) r).toInt = r.toInt - m * (t_sz (-15)).toInt) ∧ (s_low (-15)).toInt ≤ (s_wrapped (-15) r).toInt ∧ (s_wrapped (-15) r).toInt ≤ (s_high (-15)).toInt := by
  intro _ r
  rw [show (t_sz (-15)).toInt = 32768 by decide, show (s_low (-15)).toInt = 0 by decide, show (s_high (-15)).toInt = 32767 by decide]
  have e1 := shl_i (x := r) (b := (s_unused (-15)).toInt64 &&& 63) (n := 49) (by decide)
  obtain ⟨m, m1, m2, m3⟩ := bm64 (r.toInt * 2 ^ 49)
  rw [m1] at e1
  unfold s_wrapped
  rw [if_pos (by decide), shr_u (n := 49) (by decide) (by decide), e1]
  rw [m1] at m2 m3
  rw [show (2 : Int) ^ 49 = 562949953421312 by decide] at *
  rw [show ((2 ^ 49 : Nat) : Int) = 562949953421312 by decide]
  have h1 := Int.emod_nonneg (r.toInt * 562949953421312 - 18446744073709551616 * m) (show (18446744073709551616 : Int) ≠ 0 by decide)
  have h2 := Int.emod_lt_of_pos (r.toInt * 562949953421312 - 18446744073709551616 * m) (show (0 : Int) < 18446744073709551616 by decide)
  exact ⟨⟨r.toInt / 32768, by omega⟩, by omega, by omega⟩
theorem wr_17 : ¬ (-14 : Int32) = 0 → ∀ r : Int64, (∃ m : Int, (s_wrapped (-14) r).toInt = r.toInt - m * (t_sz (-14)).toInt) ∧ (s_low (-14)).toInt ≤ (s_wrapped (-14) r).toInt ∧ (s_wrapped (-14) r).toInt ≤ (s_high (-14)).toInt := by
  intro _ r
  rw [show (t_sz (-14)).toInt = 16384 by decide, show (s_low (-14)).toInt = 0 by decide, show (s_high (-14)).toInt = 16383 by decide]
  have e1 := shl_i (x := r) (b := (s_unused (-14)).toInt64 &&& 63) (n := 50) (by decide)
  obtain ⟨m, m1, m2, m3⟩ := bm64 (r.toInt * 2 ^ 50)
  rw [m1] at e1
  unfold s_wrapped
  rw [if_pos (by decide), shr_u (n := 50) (by decide) (by decide), e1]
  rw [m1] at m2 m3
  rw [show (2 : Int) ^ 50 = 1125899906842624 by decide] at *
  rw [show ((2 ^ 50 : Nat) : Int) = 1125899906842624 by decide]
  have h1 := Int.emod_nonneg (r.toInt * 1125899906842624 - 18446744073709551616 * m) (show (18446744073709551616 : Int) ≠ 0 by decide)
  have h2 := Int.emod_lt_of_pos (r.toInt * 1125899906842624 - 18446744073709551616 * m) (show (0 : Int) < 18446744073709551616 by decide)
  exact ⟨⟨r.toInt / 16384, by omega⟩, by omega, by omega⟩
theorem wr_18 : ¬ (-13 : Int32) = 0 → ∀ r : Int64, (∃ m : Int, (s_wrapped (-13) r).toInt = r.toInt - m * (t_sz (-13)).toInt) ∧ (s_low (-13)).toInt ≤ (s_wrapped (-13) r).toInt ∧ (s_wrapped (-13) r).toInt ≤ (s_high (-13)).toInt := by
  intro _ r
  rw [show (t_sz (-13)).toInt = 8192 by decide, show (s_low (-13)).toInt = 0 by decide, show (s_high (-13)).toInt = 8191 by decide]
  have e1 := shl_i (x := r) (b := (s_unused (-13)).toInt64 &&& 63) (n := 51) (by decide)
  obtain ⟨m, m1, m2, m3⟩ := bm64 (r.toInt * 2 ^ 51)
  rw [m1] at e1
  unfold s_wrapped
  rw [if_pos (by decide), shr_u (n := 51) (by decide) (by decide), e1]
  rw [m1] at m2 m3
  rw [show (2 : Int) ^ 51 = 2251799813685248 by decide] at *
  rw [show ((2 ^ 51 : Nat) : Int) = 2251799813685248 by decide]
  have h1 := Int.emod_nonneg (r.toInt * 2251799813685248 - 18446744073709551616 * m) (show (18446744073709551616 : Int) ≠ 0 by decide)
  have h2 := Int.emod_lt_of_pos (r.toInt * 2251799813685248 - 18446744073709551616 * m) (show (0 : Int) < 18446744073709551616 by decide)
  exact ⟨⟨r.toInt / 8192, by omega⟩, by omega, by omega⟩
theorem wr_19 : ¬ (-12 : Int32) = 0 → ∀ r : Int64, (∃ m : Int, (s_wrapped (-12) r).toInt = r.toInt - m * (t_sz (-12)).toInt) ∧ (s_low (-12)).toInt ≤ (s_wrapped (-12) r).toInt ∧ (s_wrapped (-12) r).toInt ≤ (s_high (-12)).toInt := by
  intro _ r
  rw [show (t_sz (-12)).toInt = 4096 by decide, show (s_low (-12)).toInt = 0 by decide, show (s_high (-12)).toInt = 4095 by decide]
  have e1 := shl_i (x := r) (b := (s_unused (-12)).toInt64 &&& 63) (n := 52) (by decide)
  obtain ⟨m, m1, m2, m3⟩ := bm64 (r.toInt * 2 ^ 52)
  rw [m1] at e1
  unfold s_wrapped
  rw [if_pos (by decide), shr_u (n := 52) (by decide) (by decide), e1]
  rw [m1] at m2 m3
  rw [show (2 : Int) ^ 52 = 4503599627370496 by decide] at *
  rw [show ((2 ^ 52 : Nat) : Int) = 4503599627370496 by decide]
  have h1 := Int.emod_nonneg (r.toInt * 4503599627370496 - 18446744073709551616 * m) (show (18446744073709551616 : Int) ≠ 0 by decide)
  have h2 := Int.emod_lt_of_pos (r.toInt * 4503599627370496 - 18446744073709551616 * m) (show (0 : Int) < 18446744073709551616 by decide)
  exact ⟨⟨r.toInt / 4096, by omega⟩, by omega, by omega⟩
theorem wr_20 : ¬ (-11 : Int32) = 0 → ∀ r : Int64, (∃ m : Int, (s_wrapped (-11) r).toInt = r.toInt - m * (t_sz (-11)).toInt) ∧ (s_low (-11)).toInt ≤ (s_wrapped (-11) r).toInt ∧ (s_wrapped (-11) r).toInt ≤ (s_high (-11)).toInt := by
  intro _ r
  rw [show (t_sz (-11)).toInt = 2048 by decide, show (s_low (-11)).toInt = 0 by decide, show (s_high (-11)).toInt = 2047 by decide]
  have e1 := shl_i (x := r) (b := (s_unused (-11)).toInt64 &&& 63) (n := 53) (by decide)
  obtain ⟨m, m1, m2, m3⟩ := bm64 (r.toInt * 2 ^ 53)
  rw [m1] at e1
  unfold s_wrapped
  rw [if_pos (by decide), shr_u (n := 53) (by decide) (by decide), e1]
  rw [m1] at m2 m3
  rw [show (2 : Int) ^ 53 = 9007199254740992 by decide] at *
  rw [show ((2 ^ 53 : Nat) : Int) = 9007199254740992 by decide]
  have h1 := Int.emod_nonneg (r.toInt * 9007199254740992 - 18446744073709551616 * m) (show (18446744073709551616 : Int) ≠ 0 by decide)
  have h2 := Int.emod_lt_of_pos (r.toInt * 9007199254740992 - 18446744073709551616 * m) (show (0 : Int) < 18446744073709551616 by decide)
  exact ⟨⟨r.toInt / 2048, by omega⟩, by omega, by omega⟩
theorem wr_21 : ¬ (-10 : Int32) = 0 → ∀ r : Int64, (∃ m : Int, (s_wrapped (-10) r).toInt = r.toInt - m * (t_sz (-10)).toInt) ∧ (s_low (-10)).toInt ≤ (s_wrapped (-10) r).toInt ∧ (s_wrapped (-10) r).toInt ≤ (s_high (-10)).toInt := by
  intro _ r
  rw [show (t_sz (-10)).toInt = 1024 by decide, show (s_low (-10)).toInt = 0 by decide, show (s_high (-10)).toInt = 1023 by decide]
  have e1 := shl_i (x := r) (b := (s_unused (-10)).toInt64 &&& 63) (n := 54) (by decide)
  obtain ⟨m, m1, m2, m3⟩ := bm64 (r.toInt * 2 ^ 54)
  rw [m1] at e1
  unfold s_wrapped
  rw [if_pos (by decide), shr_u (n := 54) (by decide) (by decide), e1]
  rw [m1] at m2 m3
  rw [show (2 : Int) ^ 54 = 18014398509481984 by decide] at *
  rw [show ((2 ^ 54 : Nat) : Int) = 18014398509481984 by decide]
  have h1 := Int.emod_nonneg (r.toInt * 18014398509481984 - 18446744073709551616 * m) (show (18446744073709551616 : Int) ≠ 0 by decide)
  have h2 := Int.emod_lt_of_pos (r.toInt * 18014398509481984 - 18446744073709551616 * m) (show (0 : Int) < 18446744073709551616 by decide)
  exact ⟨⟨r.toInt / 1024, by omega⟩, by omega, by omega⟩
theorem wr_22 : ¬ (-9 : Int32) = 0 → ∀ r : Int64, (∃ m : Int, (s_wrapped (-9) r).toInt = r.toInt - m * (t_sz (-9)).toInt) ∧ (s_low (-9)).toInt ≤ (s_wrapped (-9) r).toInt ∧ (s_wrapped (-9) r).toInt ≤ (s_high (-9)).toInt := by
  intro _ r
  rw [show (t_sz (-9)).toInt = 512 by decide, show (s_low (-9)).toInt = 0 by decide, show (s_high (-9)).toInt = 511 by decide]
  have e1 := shl_i (x := r) (b := (s_unused (-9)).toInt64 &&& 63) (n := 55) (by decide)
  obtain ⟨m, m1, m2, m3⟩ := bm64 (r.toInt * 2 ^ 55)
  rw [m1] at e1
  unfold s_wrapped
  rw [if_pos (by decide), shr_u (n := 55) (by decide) (by decide), e1]
  rw [m1] at m2 m3
  rw [show (2 : Int) ^ 55 = 36028797018963968 by decide] at *
  rw [show ((2 ^ 55 : Nat) : Int) = 36028797018963968 by decide]
  have h1 := Int.emod_nonneg (r.toInt * 36028797018963968 - 18446744073709551616 * m) (show (18446744073709551616 : Int) ≠ 0 by decide)
  have h2 := Int.emod_lt_of_pos (r.toInt * 36028797018963968 - 18446744073709551616 * m) (show (0 : Int) < 18446744073709551616 by decide)
  exact ⟨⟨r.toInt / 512, by omega⟩, by omega, by omega⟩
theorem wr_23 : ¬ (-8 : Int32) = 0 → ∀ r : Int64, (∃ m : Int, (s_wrapped (-8) r).toInt = r.toInt - m * (t_sz (-8)).toInt) ∧ (s_low (-8)).toInt ≤ (s_wrapped (-8) r).toInt ∧ (s_wrapped (-8) r).toInt ≤ (s_high (-8)).toInt := by
  intro _ r
  rw [show (t_sz (-8)).toInt = 256 by decide, show (s_low (-8)).toInt = 0 by decide, show (s_high (-8)).toInt = 255 by decide]
  have e1 := shl_i (x := r) (b := (s_unused (-8)).toInt64 &&& 63) (n := 56) (by decide)
  obtain ⟨m, m1, m2, m3⟩ := bm64 (r.toInt * 2 ^ 56)
  rw [m1] at e1
  unfold s_wrapped
  rw [if_pos (by decide), shr_u (n := 56) (by decide) (by decide), e1]
  rw [m1] at m2 m3
  rw [show (2 : Int) ^ 56 = 72057594037927936 by decide] at *
  rw [show ((2 ^ 56 : Nat) : Int) = 72057594037927936 by decide]
  have h1 := Int.emod_nonneg (r.toInt * 72057594037927936 - 18446744073709551616 * m) (show (18446744073709551616 : Int) ≠ 0 by decide)
  have h2 := Int.emod_lt_of_pos (r.toInt * 72057594037927936 - 18446744073709551616 * m) (show (0 : Int) < 18446744073709551616 by decide)
  exact ⟨⟨r.toInt / 256, by omega⟩, by omega, by omega⟩
theorem wr_24 : ¬ (-7 : Int32) = 0 → ∀ r : Int64, (∃ m : Int, (s_wrapped (-7) r).toInt = r.toInt - m * (t_sz (-7)).toInt) ∧ (s_low (-7)).toInt ≤ (s_wrapped (-7) r).toInt ∧ (s_wrapped (-7) r).toInt ≤ (s_high (-7)).toInt := by
  intro _ r
  rw [show (t_sz (-7)).toInt = 128 by decide, show (s_low (-7)).toInt = 0 by decide, show (s_high (-7)).toInt = 127 by decide]
  have e1 := shl_i (x := r) (b := (s_unused (-7)).toInt64 &&& 63) (n := 57) (by decide)
  obtain ⟨m, m1, m2, m3⟩ := bm64 (r.toInt * 2 ^ 57)
  rw [m1] at e1
  unfold s_wrapped
  rw [if_pos (by decide), shr_u (n := 57) (by decide) (by decide), e1]
  rw [m1] at m2 m3
  rw [show (2 : Int) ^ 57 = 144115188075855872 by decide] at *
  rw [show ((2 ^ 57 : Nat) : Int) = 144115188075855872 by decide]
  have h1 := Int.emod_nonneg (r.toInt * 144115188075855872 - 18446744073709551616 * m) (show (18446744073709551616 : Int) ≠ 0 by decide)
  have h2 := Int.emod_lt_of_pos (r.toInt * 144115188075855872 - 18446744073709551616 * m) (show (0 : Int) < 18446744073709551616 by decide)
  exact ⟨⟨r.toInt / 128, by omega⟩, by omega, by omega⟩
theorem wr_25 : ¬ (-6 : Int32) = 0 → ∀ r : Int64, (∃ m : Int, (s_wrapped (-6) r).toInt = r.toInt - m * (t_sz (-6)).toInt) ∧ (s_low (-6)).toInt ≤ (s_wrapped (-6) r).toInt ∧ (s_wrapped (-6) r).toInt ≤ (s_high (-6)).toInt := by
  intro _ r
  rw [show (t_sz (-6)).toInt = 64 by decide, show (s_low (-6)).toInt = 0 by decide, show (s_high (-6)).toInt = 63 by decide]
  have e1 := shl_i (x := r) (b := (s_unused (-6)).toInt64 &&& 63) (n := 58) (by decide)
  obtain ⟨m, m1, m2, m3⟩ := bm64 (r.toInt * 2 ^ 58)
  rw [m1] at e1
  unfold s_wrapped
  rw [if_pos (by decide), shr_u (n := 58) (by decide) (by decide), e1]
  rw [m1] at m2 m3
  rw [show (2 : Int) ^ 58 = 288230376151711744 by decide] at *
  rw [show ((2 ^ 58 : Nat) : Int) = 288230376151711744 by decide]
  have h1 := Int.emod_nonneg (r.toInt * 288230376151711744 - 18446744073709551616 * m) (show (18446744073709551616 : Int) ≠ 0 by decide)
  have h2 := Int.emod_lt_of_pos (r.toInt * 288230376151711744 - 18446744073709551616 * m) (show (0 : Int) < 18446744073709551616 by decide)
  exact ⟨⟨r.toInt / 64, by omega⟩, by omega, by omega⟩
theorem wr_26 : ¬ (-5 : Int32) = 0 → ∀ r : Int64, (∃ m : Int, (s_wrapped (-5) r).toInt = r.toInt - m * (t_sz (-5)).toInt) ∧ (s_low (-5)).toInt ≤ (s_wrapped (-5) r).toInt ∧ (s_wrapped (-5) r).toInt ≤ (s_high (-5)).toInt := by
  intro _ r
  rw [show (t_sz (-5)).toInt = 32 by decide, show (s_low (-5)).toInt = 0 by decide, show (s_high (-5)).toInt = 31 by decide]
  have e1 := shl_i (x := r) (b := (s_unused (-5)).toInt64 &&& 63) (n := 59) (by decide)
  obtain ⟨m, m1, m2, m3⟩ := bm64 (r.toInt * 2 ^ 59)
  rw [m1] at e1
  unfold s_wrapped
  rw [if_pos (by decide), shr_u (n := 59) (by decide) (by decide), e1]
  rw [m1] at m2 m3
  rw [show (2 : Int) ^ 59 = 576460752303423488 by decide] at *
  rw [show ((2 ^ 59 : Nat) : Int) = 576460752303423488 by decide]
  have h1 := Int.emod_nonneg (r.toInt * 576460752303423488 - 18446744073709551616 * m) (show (18446744073709551616 : Int) ≠ 0 by decide)
  have h2 := Int.emod_lt_of_pos (r.toInt * 576460752303423488 - 18446744073709551616 * m) (show (0 : Int) < 18446744073709551616 by decide)
  exact ⟨⟨r.toInt / 32, by omega⟩, by omega, by omega⟩
theorem wr_27 : ¬ (-4 : Int32) = 0 → ∀ r : Int64, (∃ m : Int, (s_wrapped (-4) r).toInt = r.toInt - m * (t_sz (-4)).toInt) ∧ (s_low (-4)).toInt ≤ (s_wrapped (-4) r).toInt ∧ (s_wrapped (-4) r).toInt ≤ (s_high (-4)).toInt := by
  intro _ r
  rw [show (t_sz (-4)).toInt = 16 by decide, show (s_low (-4)).toInt = 0 by decide, show (s_high (-4)).toInt = 15 by decide]
  have e1 := shl_i (x := r) (b := (s_unused (-4)).toInt64 &&& 63) (n := 60) (by decide)
  obtain ⟨m, m1, m2, m3⟩ := bm64 (r.toInt * 2 ^ 60)
  rw [m1] at e1
  unfold s_wrapped
  rw [if_pos (by decide), shr_u (n := 60) (by decide) (by decide), e1]
  rw [m1] at m2 m3
  rw [show (2 : Int) ^ 60 = 1152921504606846976 by decide] at *
  rw [show ((2 ^ 60 : Nat) : Int) = 1152921504606846976 by decide]
  have h1 := Int.emod_nonneg (r.toInt * 1152921504606846976 - 18446744073709551616 * m) (show (18446744073709551616 : Int) ≠ 0 by decide)
  have h2 := Int.emod_lt_of_pos (r.toInt * 1152921504606846976 - 18446744073709551616 * m) (show (0 : Int) < 18446744073709551616 by decide)
  exact ⟨⟨r.toInt / 16, by omega⟩, by omega, by omega⟩
theorem wr_28 : ¬ (-3 : Int32) = 0 → ∀ r : Int64, (∃ m : Int, (s_wrapped (-3) r).toInt = r.toInt - m * (t_sz (-3)).toInt) ∧ (s_low (-3)).toInt ≤ (s_wrapped (-3) r).toInt ∧ (s_wrapped (-3) r).toInt ≤ (s_high (-3)).toInt := by
  intro _ r
  rw [show (t_sz (-3)).toInt = 8 by decide, show (s_low (-3)).toInt = 0 by decide, show (s_high (-3)).toInt = 7 by decide]
  have e1 := shl_i (x := r) (b := (s_unused (-3)).toInt64 &&& 63) (n := 61) (by decide)
  obtain ⟨m, m1, m2, m3⟩ := bm64 (r.toInt * 2 ^ 61)
  rw [m1] at e1
  unfold s_wrapped
  rw [if_pos (by decide), shr_u (n := 61) (by decide) (by decide), e1]
  rw [m1] at m2 m3
  rw [show (2 : Int) ^ 61 = 2305843009213693952 by decide] at *
  rw [show ((2 ^ 61 : Nat) : Int) = 2305843009213693952 by decide]
  have h1 := Int.emod_nonneg (r.toInt * 2305843009213693952 - 18446744073709551616 * m) (show (18446744073709551616 : Int) ≠ 0 by decide)
  have h2 := Int.emod_lt_of_pos (r.toInt * 2305843009213693952 - 18446744073709551616 * m) (show (0 : Int) < 18446744073709551616 by decide)
  exact ⟨⟨r.toInt / 8, by omega⟩, by omega, by omega⟩
theorem wr_29 : ¬ (-2 : Int32) = 0 → ∀ r : Int64, (∃ m : Int, (s_wrapped (-2) r).toInt = r.toInt - m * (t_sz (-2)).toInt) ∧ (s_low (-2)).toInt ≤ (s_wrapped (-2) r).toInt ∧ (s_wrapped (-2) r).toInt ≤ (s_high (-2)).toInt := by
  intro _ r
  rw [show (t_sz (-2)).toInt = 4 by decide, show (s_low (-2)).toInt = 0 by decide, show (s_high (-2)).toInt = 3 by decide]
  have e1 := shl_i (x := r) (b := (s_unused (-2)).toInt64 &&& 63) (n := 62) (by decide)
  obtain ⟨m, m1, m2, m3⟩ := bm64 (r.toInt * 2 ^ 62)
  rw [m1] at e1
  unfold s_wrapped
  rw [if_pos (by decide), shr_u (n := 62) (by decide) (by decide), e1]
  rw [m1] at m2 m3
  rw [show (2 : Int) ^ 62 = 4611686018427387904 by decide] at *
  rw [show ((2 ^ 62 : Nat) : Int) = 4611686018427387904 by decide]
  have h1 := Int.emod_nonneg (r.toInt * 4611686018427387904 - 18446744073709551616 * m) (show (18446744073709551616 : Int) ≠ 0 by decide)
  have h2 := Int.emod_lt_of_pos (r.toInt * 4611686018427387904 - 18446744073709551616 * m) (show (0 : Int) < 18446744073709551616 by decide)
  exact ⟨⟨r.toInt / 4, by omega⟩, by omega, by omega⟩
theorem wr_30 : ¬ (-1 : Int32) = 0 → ∀ r : Int64, (∃ m : Int, (s_wrapped (-1) r).toInt = r.toInt - m * (t_sz (-1)).toInt) ∧ (s_low (-1)).toInt ≤ (s_wrapped (-1) r).toInt ∧ (s_wrapped (-1) r).toInt ≤ (s_high (-1)).toInt := by
  intro _ r
  rw [show (t_sz (-1)).toInt = 2 by decide, show (s_low (-1)).toInt = 0 by decide, show (s_high (-1)).toInt = 1 by decide]
  have e1 := shl_i (x := r) (b := (s_unused (-1)).toInt64 &&& 63) (n := 63) (by decide)
  obtain ⟨m, m1, m2, m3⟩ := bm64 (r.toInt * 2 ^ 63)
  rw [m1] at e1
  unfold s_wrapped
  rw [if_pos (by decide), shr_u (n := 63) (by decide) (by decide), e1]
  rw [m1] at m2 m3
  rw [show (2 : Int) ^ 63 = 9223372036854775808 by decide] at *
  rw [show ((2 ^ 63 : Nat) : Int) = 9223372036854775808 by decide]
  have h1 := Int.emod_nonneg (r.toInt * 9223372036854775808 - 18446744073709551616 * m) (show (18446744073709551616 : Int) ≠ 0 by decide)
  have h2 := Int.emod_lt_of_pos (r.toInt * 9223372036854775808 - 18446744073709551616 * m) (show (0 : Int) < 18446744073709551616 by decide)
  exact ⟨⟨r.toInt / 2, by omega⟩, by omega, by omega⟩
theorem wr_31 : ¬ (0 : Int32) = 0 → ∀ r : Int64, (∃ m : Int, (s_wrapped 0 r).toInt = r.toInt - m * (t_sz 0).toInt) ∧ (s_low 0).toInt ≤ (s_wrapped 0 r).toInt ∧ (s_wrapped 0 r).toInt ≤ (s_high 0).toInt := fun h => absurd rfl h
theorem wr_32 : ¬ (1 : Int32) = 0 → ∀ r : Int64, (∃ m : Int, (s_wrapped 1 r).toInt = r.toInt - m * (t_sz 1).toInt) ∧ (s_low 1).toInt ≤ (s_wrapped 1 r).toInt ∧ (s_wrapped 1 r).toInt ≤ (s_high 1).toInt := by
  intro _ r
  rw [show (t_sz 1).toInt = 2 by decide, show (s_low 1).toInt = -1 by decide, show (s_high 1).toInt = 0 by decide]
  have e1 := shl_i (x := r) (b := (s_unused 1).toInt64 &&& 63) (n := 63) (by decide)
  obtain ⟨m, m1, m2, m3⟩ := bm64 (r.toInt * 2 ^ 63)
  rw [m1] at e1
  unfold s_wrapped
  rw [if_neg (by decide), sar_i (n := 63) (by decide), e1]
  rw [m1] at m2 m3
  rw [show (2 : Int) ^ 63 = 9223372036854775808 by decide] at *
  rw [show ((2 ^ 63 : Nat) : Int) = 9223372036854775808 by decide]
  exact ⟨⟨m, by omega⟩, by omega, by omega⟩
theorem wr_33 : ¬ (2 : Int32) = 0 → ∀ r : Int64, (∃ m : Int, (s_wrapped 2 r).toInt = r.toInt - m * (t_sz 2).toInt) ∧ (s_low 2).toInt ≤ (s_wrapped 2 r).toInt ∧ (s_wrapped 2 r).toInt ≤ (s_high 2).toInt := by
  intro _ r
  rw [show (t_sz 2).toInt = 4 by decide, show (s_low 2).toInt = -2 by decide, show (s_high 2).toInt = 1 by decide]
  have e1 := shl_i (x := r) (b := (s_unused 2).toInt64 &&& 63) (n := 62) (by decide)
  obtain ⟨m, m1, m2, m3⟩ := bm64 (r.toInt * 2 ^ 62)
  rw [m1] at e1
  unfold s_wrapped
  rw [if_neg (by decide), sar_i (n := 62) (by decide), e1]
  rw [m1] at m2 m3
  rw [show (2 : Int) ^ 62 = 4611686018427387904 by decide] at *
  rw [show ((2 ^ 62 : Nat) : Int) = 4611686018427387904 by decide]
  exact ⟨⟨m, by omega⟩, by omega, by omega⟩
theorem wr_34 : ¬ (3 : Int32) = 0 → ∀ r : Int64, (∃ m : Int, (s_wrapped 3 r).toInt = r.toInt - m * (t_sz 3).toInt) ∧ (s_low 3).toInt ≤ (s_wrapped 3 r).toInt ∧ (s_wrapped 3 r).toInt ≤ (s_high 3).toInt := by
  intro _ r
  rw [show (t_sz 3).toInt = 8 by decide, show (s_low 3).toInt = -4 by decide, show (s_high 3).toInt = 3 by decide]
  have e1 := shl_i (x := r) (b := (s_unused 3).toInt64 &&& 63) (n := 61) (by decide)
  obtain ⟨m, m1, m2, m3⟩ := bm64 (r.toInt * 2 ^ 61)
  rw [m1] at e1
  unfold s_wrapped
  rw [if_neg (by decide), sar_i (n := 61) (by decide), e1]
  rw [m1] at m2 m3
  rw [show (2 : Int) ^ 61 = 2305843009213693952 by decide] at *
  rw [show ((2 ^ 61 : Nat) : Int) = 2305843009213693952 by decide]
  exact ⟨⟨m, by omega⟩, by omega, by omega⟩
theorem wr_35 : ¬ (4 : Int32) = 0 → ∀ r : Int64, (∃ m : Int, (s_wrapped 4 r).toInt = r.toInt - m * (t_sz 4).toInt) ∧ (s_low 4).toInt ≤ (s_wrapped 4 r).toInt ∧ (s_wrapped 4 r).toInt ≤ (s_high 4).toInt := by
  intro _ r
  rw [show (t_sz 4).toInt = 16 by decide, show (s_low 4).toInt = -8 by decide, show (s_high 4).toInt = 7 by decide]
  have e1 := shl_i (x := r) (b := (s_unused 4).toInt64 &&& 63) (n := 60) (by decide)
  obtain ⟨m, m1, m2, m3⟩ := bm64 (r.toInt * 2 ^ 60)
  rw [m1] at e1
  unfold s_wrapped
  rw [if_neg (by decide), sar_i (n := 60) (by decide), e1]
  rw [m1] at m2 m3
  rw [show (2 : Int) ^ 60 = 1152921504606846976 by decide] at *
  rw [show ((2 ^ 60 : Nat) : Int) = 1152921504606846976 by decide]
  exact ⟨⟨m, by omega⟩, by omega, by omega⟩
theorem wr_36 : ¬ (5 : Int32) = 0 → ∀ r : Int64, (∃ m : Int, (s_wrapped 5 r).toInt = r.toInt - m * (t_sz 5).toInt) ∧ (s_low 5).toInt ≤ (s_wrapped 5 r).toInt ∧ (s_wrapped 5 r).toInt ≤ (s_high 5).toInt := by
  intro _ r
  rw [show (t_sz 5).toInt = 32 by decide, show (s_low 5).toInt = -16 by decide, show (s_high 5).toInt = 15 by decide]
  have e1 := shl_i (x := r) (b := (s_unused 5).toInt64 &&& 63) (n := 59) (by decide)
  obtain ⟨m, m1, m2, m3⟩ := bm64 (r.toInt * 2 ^ 59)
  rw [m1] at e1
  unfold s_wrapped
  rw [if_neg (by decide), sar_i (n := 59) (by decide), e1]
  rw [m1] at m2 m3
  rw [show (2 : Int) ^ 59 = 576460752303423488 by decide] at *
  rw [show ((2 ^ 59 : Nat) : Int) = 576460752303423488 by decide]
  exact ⟨⟨m, by omega⟩, by omega, by omega⟩
theorem wr_37 : ¬ (6 : Int32) = 0 → ∀ r : Int64, (∃ m : Int, (s_wrapped 6 r).toInt = r.toInt - m * (t_sz 6).toInt) ∧ (s_low 6).toInt ≤ (s_wrapped 6 r).toInt ∧ (s_wrapped 6 r).toInt ≤ (s_high 6).toInt := by
  intro _ r
  rw [show (t_sz 6).toInt = 64 by decide, show (s_low 6).toInt = -32 by decide, show (s_high 6).toInt = 31 by decide]
  have e1 := shl_i (x := r) (b := (s_unused 6).toInt64 &&& 63) (n := 58) (by decide)
  obtain ⟨m, m1, m2, m3⟩ := bm64 (r.toInt * 2 ^ 58)
  rw [m1] at e1
  unfold s_wrapped
  rw [if_neg (by decide), sar_i (n := 58) (by decide), e1]
  rw [m1] at m2 m3
  rw [show (2 : Int) ^ 58 = 288230376151711744 by decide] at *
  rw [show ((2 ^ 58 : Nat) : Int) = 288230376151711744 by decide]
  exact ⟨⟨m, by omega⟩, by omega, by omega⟩
theorem wr_38 : ¬ (7 : Int32) = 0 → ∀ r : Int64, (∃ m : Int, (s_wrapped 7 r).toInt = r.toInt - m * (t_sz 7).toInt) ∧ (s_low 7).toInt ≤ (s_wrapped 7 r).toInt ∧ (s_wrapped 7 r).toInt ≤ (s_high 7).toInt := by
  intro _ r
  rw [show (t_sz 7).toInt = 128 by decide, show (s_low 7).toInt = -64 by decide, show (s_high 7).toInt = 63 by decide]
  have e1 := shl_i (x := r) (b := (s_unused 7).toInt64 &&& 63) (n := 57) (by decide)
  obtain ⟨m, m1, m2, m3⟩ := bm64 (r.toInt * 2 ^ 57)
  rw [m1] at e1
  unfold s_wrapped
  rw [if_neg (by decide), sar_i (n := 57) (by decide), e1]
  rw [m1] at m2 m3
  rw [show (2 : Int) ^ 57 = 144115188075855872 by decide] at *
  rw [show ((2 ^ 57 : Nat) : Int) = 144115188075855872 by decide]
  exact ⟨⟨m, by omega⟩, by omega, by omega⟩
theorem wr_39 : ¬ (8 : Int32) = 0 → ∀ r : Int64, (∃ m : Int, (s_wrapped 8 r).toInt = r.toInt - m * (t_sz 8).toInt) ∧ (s_low 8).toInt ≤ (s_wrapped 8 r).toInt ∧ (s_wrapped 8 r).toInt ≤ (s_high 8).toInt := by
  intro _ r
  rw [show (t_sz 8).toInt = 256 by decide, show (s_low 8).toInt = -128 by decide, show (s_high 8).toInt = 127 by decide]
  have e1 := shl_i (x := r) (b := (s_unused 8).toInt64 &&& 63) (n := 56) (by decide)
  obtain ⟨m, m1, m2, m3⟩ := bm64 (r.toInt * 2 ^ 56)
  rw [m1] at e1
  unfold s_wrapped
  rw [if_neg (by decide), sar_i (n := 56) (by decide), e1]
  rw [m1] at m2 m3
  rw [show (2 : Int) ^ 56 = 72057594037927936 by decide] at *
  rw [show ((2 ^ 56 : Nat) : Int) = 72057594037927936 by decide]
  exact ⟨⟨m, by omega⟩, by omega, by omega⟩
theorem wr_40 : ¬ (9 : Int32) = 0 → ∀ r : Int64, (∃ m : Int, (s_wrapped 9 r).toInt = r.toInt - m * (t_sz 9).toInt) ∧ (s_low 9).toInt ≤ (s_wrapped 9 r).toInt ∧ (s_wrapped 9 r).toInt ≤ (s_high 9).toInt := by
  intro _ r
  rw [show (t_sz 9).toInt = 512 by decide, show (s_low 9).toInt = -256 by decide, show (s_high 9).toInt = 255 by decide]
  have e1 := shl_i (x := r) (b := (s_unused 9).toInt64 &&& 63) (n := 55) (by decide)
  obtain ⟨m, m1, m2, m3⟩ := bm64 (r.toInt * 2 ^ 55)
  rw [m1] at e1
  unfold s_wrapped
  rw [if_neg (by decide), sar_i (n := 55) (by decide), e1]
  rw [m1] at m2 m3
  rw [show (2 : Int) ^ 55 = 36028797018963968 by decide] at *
  rw [show ((2 ^ 55 : Nat) : Int) = 36028797018963968 by decide]
  exact ⟨⟨m, by omega⟩, by omega, by omega⟩
theorem wr_41 : ¬ (10 : Int32) = 0 → ∀ r : Int64, (∃ m : Int, (s_wrapped 10 r).toInt = r.toInt - m * (t_sz 10).toInt) ∧ (s_low 10).toInt ≤ (s_wrapped 10 r).toInt ∧ (s_wrapped 10 r).toInt ≤ (s_high 10).toInt := by
  intro _ r
  rw [show (t_sz 10).toInt = 1024 by decide, show (s_low 10).toInt = -512 by decide, show (s_high 10).toInt = 511 by decide]
  have e1 := shl_i (x := r) (b := (s_unused 10).toInt64 &&& 63) (n := 54) (by decide)
  obtain ⟨m, m1, m2, m3⟩ := bm64 (r.toInt * 2 ^ 54)
  rw [m1] at e1
  unfold s_wrapped
  rw [if_neg (by decide), sar_i (n := 54) (by decide), e1]
  rw [m1] at m2 m3
  rw [show (2 : Int) ^ 54 = 18014398509481984 by decide] at *
  rw [show ((2 ^ 54 : Nat) : Int) = 18014398509481984 by decide]
  exact ⟨⟨m, by omega⟩, by omega, by omega⟩
theorem wr_42 : ¬ (11 : Int32) = 0 → ∀ r : Int64, (∃ m : Int, (s_wrapped 11 r).toInt = r.toInt - m * (t_sz 11).toInt) ∧ (s_low 11).toInt ≤ (s_wrapped 11 r).toInt ∧ (s_wrapped 11 r).toInt ≤ (s_high 11).toInt := by
  intro _ r
  rw [show (t_sz 11).toInt = 2048 by decide, show (s_low 11).toInt = -1024 by decide, show (s_high 11).toInt = 1023 by decide]
  have e1 := shl_i (x := r) (b := (s_unused 11).toInt64 &&& 63) (n := 53) (by decide)
  obtain ⟨m, m1, m2, m3⟩ := bm64 (r.toInt * 2 ^ 53)
  rw [m1] at e1
  unfold s_wrapped
  rw [if_neg (by decide), sar_i (n := 53) (by decide), e1]
  rw [m1] at m2 m3
  rw [show (2 : Int) ^ 53 = 9007199254740992 by decide] at *
  rw [show ((2 ^ 53 : Nat) : Int) = 9007199254740992 by decide]
  exact ⟨⟨m, by omega⟩, by omega, by omega⟩
theorem wr_43 : ¬ (12 : Int32) = 0 → ∀ r : Int64, (∃ m : Int, (s_wrapped 12 r).toInt = r.toInt - m * (t_sz 12).toInt) ∧ (s_low 12).toInt ≤ (s_wrapped 12 r).toInt ∧ (s_wrapped 12 r).toInt ≤ (s_high 12).toInt := by
  intro _ r
  rw [show (t_sz 12).toInt = 4096 by decide, show (s_low 12).toInt = -2048 by decide, show (s_high 12).toInt = 2047 by decide]
  have e1 := shl_i (x := r) (b := (s_unused 12).toInt64 &&& 63) (n := 52) (by decide)
  obtain ⟨m, m1, m2, m3⟩ := bm64 (r.toInt * 2 ^ 52)
  rw [m1] at e1
  unfold s_wrapped
  rw [if_neg (by decide), sar_i (n := 52) (by decide), e1]
  rw [m1] at m2 m3
  rw [show (2 : Int) ^ 52 = 4503599627370496 by decide] at *
  rw [show ((2 ^ 52 : Nat) : Int) = 4503599627370496 by decide]
  exact ⟨⟨m, by omega⟩, by omega, by omega⟩
theorem wr_44 : ¬ (13 : Int32) = 0 → ∀ r : Int64, (∃ m : Int, (s_wrapped 13 r).toInt = r.toInt - m * (t_sz 13).toInt) ∧ (s_low 13).toInt ≤ (s_wrapped 13 r).toInt ∧ (s_wrapped 13 r).toInt ≤ (s_high 13).toInt := by
  intro _ r
  rw [show (t_sz 13).toInt = 8192 by decide, show (s_low 13).toInt = -4096 by decide, show (s_high 13).toInt = 4095 by decide]
  have e1 := shl_i (x := r) (b := (s_unused 13).toInt64 &&& 63) (n := 51) (by decide)
  obtain ⟨m, m1, m2, m3⟩ := bm64 (r.toInt * 2 ^ 51)
  rw [m1] at e1
  unfold s_wrapped
  rw [if_neg (by decide), sar_i (n := 51) (by decide), e1]
  rw [m1] at m2 m3
  rw [show (2 : Int) ^ 51 = 2251799813685248 by decide] at *
  rw [show ((2 ^ 51 : Nat) : Int) = 2251799813685248 by decide]
  exact ⟨⟨m, by omega⟩, by omega, by omega⟩
theorem wr_45 : ¬ (14 : Int32) = 0 → ∀ r : Int64, (∃ m : Int, (s_wrapped 14 r).toInt = r.toInt - m * (t_sz 14).toInt) ∧ (s_low 14).toInt ≤ (s_wrapped 14 r).toInt ∧ (s_wrapped 14 r).toInt ≤ (s_high 14).toInt := by
  intro _ r
  rw [show (t_sz 14).toInt = 16384 by decide, show (s_low 14).toInt = -8192 by decide, show (s_high 14).toInt = 8191 by decide]
  have e1 := shl_i (x := r) (b := (s_unused 14).toInt64 &&& 63) (n := 50) (by decide)
  obtain ⟨m, m1, m2, m3⟩ := bm64 (r.toInt * 2 ^ 50)
  rw [m1] at e1
  unfold s_wrapped
  rw [if_neg (by decide), sar_i (n := 50) (by decide), e1]
  rw [m1] at m2 m3
  rw [show (2 : Int) ^ 50 = 1125899906842624 by decide] at *
  rw [show ((2 ^ 50 : Nat) : Int) = 1125899906842624 by decide]
  exact ⟨⟨m, by omega⟩, by omega, by omega⟩
theorem wr_46 : ¬ (15 : Int32) = 0 → ∀ r : Int64, (∃ m : Int, (s_wrapped 15 r).toInt = r.toInt - m * (t_sz 15).toInt) ∧ (s_low 15).toInt ≤ (s_wrapped 15 r).toInt ∧ (s_wrapped 15 r).toInt ≤ (s_high 15).toInt := by
  intro _ r
  rw [show (t_sz 15).toInt = 32768 by decide, show (s_low 15).toInt = -16384 by decide, show (s_high 15).toInt = 16383 by decide]
  have e1 := shl_i (x := r) (b := (s_unused 15).toInt64 &&& 63) (n := 49) (by decide)
  obtain ⟨m, m1, m2, m3⟩ := bm64 (r.toInt * 2 ^ 49)
  rw [m1] at e1
  unfold s_wrapped
  rw [if_neg (by decide), sar_i (n := 49) (by decide), e1]
  rw [m1] at m2 m3
  rw [show (2 : Int) ^ 49 = 562949953421312 by decide] at *
  rw [show ((2 ^ 49 : Nat) : Int) = 562949953421312 by decide]
  exact ⟨⟨m, by omega⟩, by omega, by omega⟩
theorem wr_47 : ¬ (16 : Int32) = 0 → ∀ r : Int64, (∃ m : Int, (s_wrapped 16 r).toInt = r.toInt - m * (t_sz 16).toInt) ∧ (s_low 16).toInt ≤ (s_wrapped 16 r).toInt ∧ (s_wrapped 16 r).toInt ≤ (s_high 16).toInt := by
  intro _ r
  rw [show (t_sz 16).toInt = 65536 by decide, show (s_low 16).toInt = -32768 by decide, show (s_high 16).toInt = 32767 by decide]
  have e1 := shl_i (x := r) (b := (s_unused 16).toInt64 &&& 63) (n := 48) (by decide)
  obtain ⟨m, m1, m2, m3⟩ := bm64 (r.toInt * 2 ^ 48)
  rw [m1] at e1
  unfold s_wrapped
  rw [if_neg (by decide), sar_i (n := 48) (by decide), e1]
  rw [m1] at m2 m3
  rw [show (2 : Int) ^ 48 = 281474976710656 by decide] at *
  rw [show ((2 ^ 48 : Nat) : Int) = 281474976710656 by decide]
  exact ⟨⟨m, by omega⟩, by omega, by omega⟩
theorem wr_48 : ¬ (17 : Int32) = 0 → ∀ r : Int64, (∃ m : Int, (s_wrapped 17 r).toInt = r.toInt - m * (t_sz 17).toInt) ∧ (s_low 17).toInt ≤ (s_wrapped 17 r).toInt ∧ (s_wrapped 17 r).toInt ≤ (s_high 17).toInt := by
  intro _ r
  rw [show (t_sz 17).toInt = 131072 by decide, show (s_low 17).toInt = -65536 by decide, show (s_high 17).toInt = 65535 by decide]
  have e1 := shl_i (x := r) (b := (s_unused 17).toInt64 &&& 63) (n := 47) (by decide)
  obtain ⟨m, m1, m2, m3⟩ := bm64 (r.toInt * 2 ^ 47)
  rw [m1] at e1
  unfold s_wrapped
  rw [if_neg (by decide), sar_i (n := 47) (by decide), e1]
  rw [m1] at m2 m3
  rw [show (2 : Int) ^ 47 = 140737488355328 by decide] at *
  rw [show ((2 ^ 47 : Nat) : Int) = 140737488355328 by decide]
  exact ⟨⟨m, by omega⟩, by omega, by omega⟩
theorem wr_49 : ¬ (18 : Int32) = 0 → ∀ r : Int64, (∃ m : Int, (s_wrapped 18 r).toInt = r.toInt - m * (t_sz 18).toInt) ∧ (s_low 18).toInt ≤ (s_wrapped 18 r).toInt ∧ (s_wrapped 18 r).toInt ≤ (s_high 18).toInt := by
  intro _ r
  rw [show (t_sz 18).toInt = 262144 by decide, show (s_low 18).toInt = -131072 by decide, show (s_high 18).toInt = 131071 by decide]
  have e1 := shl_i (x := r) (b := (s_unused 18).toInt64 &&& 63) (n := 46) (by decide)
  obtain ⟨m, m1, m2, m3⟩ := bm64 (r.toInt * 2 ^ 46)
  rw [m1] at e1
  unfold s_wrapped
  rw [if_neg (by decide), sar_i (n := 46) (by decide), e1]
  rw [m1] at m2 m3
  rw [show (2 : Int) ^ 46 = 70368744177664 by decide] at *
  rw [show ((2 ^ 46 : Nat) : Int) = 70368744177664 by decide]
  exact ⟨⟨m, by omega⟩, by omega, by omega⟩
theorem wr_50 : ¬ (19 : Int32) = 0 → ∀ r : Int64, (∃ m : Int, (s_wrapped 19 r).toInt = r.toInt - m * (t_sz 19).toInt) ∧ (s_low 19).toInt ≤ (s_wrapped 19 r).toInt ∧ (s_wrapped 19 r).toInt ≤ (s_high 19).toInt := by
  intro _ r
  rw [show (t_sz 19).toInt = 524288 by decide, show (s_low 19).toInt = -262144 by decide, show (s_high 19).toInt = 262143 by decide]
  have e1 := shl_i (x := r) (b := (s_unused 19).toInt64 &&& 63) (n := 45) (by decide)
  obtain ⟨m, m1, m2, m3⟩ := bm64 (r.toInt * 2 ^ 45)
  rw [m1] at e1
  unfold s_wrapped
  rw [if_neg (by decide), sar_i (n := 45) (by decide), e1]
  rw [m1] at m2 m3
  rw [show (2 : Int) ^ 45 = 35184372088832 by decide] at *
  rw [show ((2 ^ 45 : Nat) : Int) = 35184372088832 by decide]
  exact ⟨⟨m, by omega⟩, by omega, by omega⟩
theorem wr_51 : ¬ (20 : Int32) = 0 → ∀ r : Int64, (∃ m : Int, (s_wrapped 20 r).toInt = r.toInt - m * (t_sz 20).toInt) ∧ (s_low 20).toInt ≤ (s_wrapped 20 r).toInt ∧ (s_wrapped 20 r).toInt ≤ (s_high 20).toInt := by
  intro _ r
  rw [show (t_sz 20).toInt = 1048576 by decide, show (s_low 20).toInt = -524288 by decide, show (s_high 20).toInt = 524287 by decide]
  have e1 := shl_i (x := r) (b := (s_unused 20).toInt64 &&& 63) (n := 44) (by decide)
  obtain ⟨m, m1, m2, m3⟩ := bm64 (r.toInt * 2 ^ 44)
  rw [m1] at e1
  unfold s_wrapped
  rw [if_neg (by decide), sar_i (n := 44) (by decide), e1]
  rw [m1] at m2 m3
  rw [show (2 : Int) ^ 44 = 17592186044416 by decide] at *
  rw [show ((2 ^ 44 : Nat) : Int) = 17592186044416 by decide]
  exact ⟨⟨m, by omega⟩, by omega, by omega⟩
theorem wr_52 : ¬ (21 : Int32) = 0 → ∀ r : Int64, (∃ m : Int, (s_wrapped 21 r).toInt = r.toInt - m * (t_sz 21).toInt) ∧ (s_low 21).toInt ≤ (s_wrapped 21 r).toInt ∧ (s_wrapped 21 r).toInt ≤ (s_high 21).toInt := by
  intro _ r
  rw [show (t_sz 21).toInt = 2097152 by decide, show (s_low 21).toInt = -1048576 by decide, show (s_high 21).toInt = 1048575 by decide]
  have e1 := shl_i (x := r) (b := (s_unused 21).toInt64 &&& 63) (n := 43) (by decide)
  obtain ⟨m, m1, m2, m3⟩ := bm64 (r.toInt * 2 ^ 43)
  rw [m1] at e1
  unfold s_wrapped
  rw [if_neg (by decide), sar_i (n := 43) (by decide), e1]
  rw [m1] at m2 m3
  rw [show (2 : Int) ^ 43 = 8796093022208 by decide] at *
  rw [show ((2 ^ 43 : Nat) : Int) = 8796093022208 by decide]
  exact ⟨⟨m, by omega⟩, by omega, by omega⟩
theorem wr_53 : ¬ (22 : Int32) = 0 → ∀ r : Int64, (∃ m : Int, (s_wrapped 22 r).toInt = r.toInt - m * (t_sz 22).toInt) ∧ (s_low 22).toInt ≤ (s_wrapped 22 r).toInt ∧ (s_wrapped 22 r).toInt ≤ (s_high 22).toInt := by
  intro _ r
  rw [show (t_sz 22).toInt = 4194304 by decide, show (s_low 22).toInt = -2097152 by decide, show (s_high 22).toInt = 2097151 by decide]
  have e1 := shl_i (x := r) (b := (s_unused 22).toInt64 &&& 63) (n := 42) (by decide)
  obtain ⟨m, m1, m2, m3⟩ := bm64 (r.toInt * 2 ^ 42)
  rw [m1] at e1
  unfold s_wrapped
  rw [if_neg (by decide), sar_i (n := 42) (by decide), e1]
  rw [m1] at m2 m3
  rw [show (2 : Int) ^ 42 = 4398046511104 by decide] at *
  rw [show ((2 ^ 42 : Nat) : Int) = 4398046511104 by decide]
  exact ⟨⟨m, by omega⟩, by omega, by omega⟩
theorem wr_54 : ¬ (23 : Int32) = 0 → ∀ r : Int64, (∃ m : Int, (s_wrapped 23 r).toInt = r.toInt - m * (t_sz 23).toInt) ∧ (s_low 23).toInt ≤ (s_wrapped 23 r).toInt ∧ (s_wrapped 23 r).toInt ≤ (s_high 23).toInt := by
  intro _ r
  rw [show (t_sz 23).toInt = 8388608 by decide, show (s_low 23).toInt = -4194304 by decide, show (s_high 23).toInt = 4194303 by decide]
  have e1 := shl_i (x := r) (b := (s_unused 23).toInt64 &&& 63) (n := 41) (by decide)
  obtain ⟨m, m1, m2, m3⟩ := bm64 (r.toInt * 2 ^ 41)
  rw [m1] at e1
  unfold s_wrapped
  rw [if_neg (by decide), sar_i (n := 41) (by decide), e1]
  rw [m1] at m2 m3
  rw [show (2 : Int) ^ 41 = 2199023255552 by decide] at *
  rw [show ((2 ^ 41 : Nat) : Int) = 2199023255552 by decide]
  exact ⟨⟨m, by omega⟩, by omega, by omega⟩
theorem wr_55 : ¬ (24 : Int32) = 0 → ∀ r : Int64, (∃ m : Int, (s_wrapped 24 r).toInt = r.toInt - m * (t_sz 24).toInt) ∧ (s_low 24).toInt ≤ (s_wrapped 24 r).toInt ∧ (s_wrapped 24 r).toInt ≤ (s_high 24).toInt := by
  intro _ r
  rw [show (t_sz 24).toInt = 16777216 by decide, show (s_low 24).toInt = -8388608 by decide, show (s_high 24).toInt = 8388607 by decide]
  have e1 := shl_i (x := r) (b := (s_unused 24).toInt64 &&& 63) (n := 40) (by decide)
  obtain ⟨m, m1, m2, m3⟩ := bm64 (r.toInt * 2 ^ 40)
  rw [m1] at e1
  unfold s_wrapped
  rw [if_neg (by decide), sar_i (n := 40) (by decide), e1]
  rw [m1] at m2 m3
  rw [show (2 : Int) ^ 40 = 1099511627776 by decide] at *
  rw [show ((2 ^ 40 : Nat) : Int) = 1099511627776 by decide]
  exact ⟨⟨m, by omega⟩, by omega, by omega⟩
theorem wr_56 : ¬ (25 : Int32) = 0 → ∀ r : Int64, (∃ m : Int, (s_wrapped 25 r).toInt = r.toInt - m * (t_sz 25).toInt) ∧ (s_low 25).toInt ≤ (s_wrapped 25 r).toInt ∧ (s_wrapped 25 r).toInt ≤ (s_high 25).toInt := by
  intro _ r
  rw [show (t_sz 25).toInt = 33554432 by decide, show (s_low 25).toInt = -16777216 by decide, show (s_high 25).toInt = 16777215 by decide]
  have e1 := shl_i (x := r) (b := (s_unused 25).toInt64 &&& 63) (n := 39) (by decide)
  obtain ⟨m, m1, m2, m3⟩ := bm64 (r.toInt * 2 ^ 39)
  rw [m1] at e1
  unfold s_wrapped
  rw [if_neg (by decide), sar_i (n := 39) (by decide), e1]
  rw [m1] at m2 m3
  rw [show (2 : Int) ^ 39 = 549755813888 by decide] at *
  rw [show ((2 ^ 39 : Nat) : Int) = 549755813888 by decide]
  exact ⟨⟨m, by omega⟩, by omega, by omega⟩
theorem wr_57 : ¬ (26 : Int32) = 0 → ∀ r : Int64, (∃ m : Int, (s_wrapped 26 r).toInt = r.toInt - m * (t_sz 26).toInt) ∧ (s_low 26).toInt ≤ (s_wrapped 26 r).toInt ∧ (s_wrapped 26 r).toInt ≤ (s_high 26).toInt := by
  intro _ r
  rw [show (t_sz 26).toInt = 67108864 by decide, show (s_low 26).toInt = -33554432 by decide, show (s_high 26).toInt = 33554431 by decide]
  have e1 := shl_i (x := r) (b := (s_unused 26).toInt64 &&& 63) (n := 38) (by decide)
  obtain ⟨m, m1, m2, m3⟩ := bm64 (r.toInt * 2 ^ 38)
  rw [m1] at e1
  unfold s_wrapped
  rw [if_neg (by decide), sar_i (n := 38) (by decide), e1]
  rw [m1] at m2 m3
  rw [show (2 : Int) ^ 38 = 274877906944 by decide] at *
  rw [show ((2 ^ 38 : Nat) : Int) = 274877906944 by decide]
  exact ⟨⟨m, by omega⟩, by omega, by omega⟩
theorem wr_58 : ¬ (27 : Int32) = 0 → ∀ r : Int64, (∃ m : Int, (s_wrapped 27 r).toInt = r.toInt - m * (t_sz 27).toInt) ∧ (s_low 27).toInt ≤ (s_wrapped 27 r).toInt ∧ (s_wrapped 27 r).toInt ≤ (s_high 27).toInt := by
  intro _ r
  rw [show (t_sz 27).toInt = 134217728 by decide, show (s_low 27).toInt = -67108864 by decide, show (s_high 27).toInt = 67108863 by decide]
  have e1 := shl_i (x := r) (b := (s_unused 27).toInt64 &&& 63) (n := 37) (by decide)
  obtain ⟨m, m1, m2, m3⟩ := bm64 (r.toInt * 2 ^ 37)
  rw [m1] at e1
  unfold s_wrapped
  rw [if_neg (by decide), sar_i (n := 37) (by decide), e1]
  rw [m1] at m2 m3
  rw [show (2 : Int) ^ 37 = 137438953472 by decide] at *
  rw [show ((2 ^ 37 : Nat) : Int) = 137438953472 by decide]
  exact ⟨⟨m, by omega⟩, by omega, by omega⟩
theorem wr_59 : ¬ (28 : Int32) = 0 → ∀ r : Int64, (∃ m : Int, (s_wrapped 28 r).toInt = r.toInt - m * (t_sz 28).toInt) ∧ (s_low 28).toInt ≤ (s_wrapped 28 r).toInt ∧ (s_wrapped 28 r).toInt ≤ (s_high 28).toInt := by
  intro _ r
  rw [show (t_sz 28).toInt = 268435456 by decide, show (s_low 28).toInt = -134217728 by decide, show (s_high 28).toInt = 134217727 by decide]
  have e1 := shl_i (x := r) (b := (s_unused 28).toInt64 &&& 63) (n := 36) (by decide)
  obtain ⟨m, m1, m2, m3⟩ := bm64 (r.toInt * 2 ^ 36)
  rw [m1] at e1
  unfold s_wrapped
  rw [if_neg (by decide), sar_i (n := 36) (by decide), e1]
  rw [m1] at m2 m3
  rw [show (2 : Int) ^ 36 = 68719476736 by decide] at *
  rw [show ((2 ^ 36 : Nat) : Int) = 68719476736 by decide]
  exact ⟨⟨m, by omega⟩, by omega, by omega⟩
theorem wr_60 : ¬ (29 : Int32) = 0 → ∀ r : Int64, (∃ m : Int, (s_wrapped 29 r).toInt = r.toInt - m * (t_sz 29).toInt) ∧ (s_low 29).toInt ≤ (s_wrapped 29 r).toInt ∧ (s_wrapped 29 r).toInt ≤ (s_high 29).toInt := by
  intro _ r
  rw [show (t_sz 29).toInt = 536870912 by decide, show (s_low 29).toInt = -268435456 by decide, show (s_high 29).toInt = 268435455 by decide]
  have e1 := shl_i (x := r) (b := (s_unused 29).toInt64 &&& 63) (n := 35) (by decide)
  obtain ⟨m, m1, m2, m3⟩ := bm64 (r.toInt * 2 ^ 35)
  rw [m1] at e1
  unfold s_wrapped
  rw [if_neg (by decide), sar_i (n := 35) (by decide), e1]
  rw [m1] at m2 m3
  rw [show (2 : Int) ^ 35 = 34359738368 by decide] at *
  rw [show ((2 ^ 35 : Nat) : Int) = 34359738368 by decide]
  exact ⟨⟨m, by omega⟩, by omega, by omega⟩
theorem wr_61 : ¬ (30 : Int32) = 0 → ∀ r : Int64, (∃ m : Int, (s_wrapped 30 r).toInt = r.toInt - m * (t_sz 30).toInt) ∧ (s_low 30).toInt ≤ (s_wrapped 30 r).toInt ∧ (s_wrapped 30 r).toInt ≤ (s_high 30).toInt := by
  intro _ r
  rw [show (t_sz 30).toInt = 1073741824 by decide, show (s_low 30).toInt = -536870912 by decide, show (s_high 30).toInt = 536870911 by decide]
  have e1 := shl_i (x := r) (b := (s_unused 30).toInt64 &&& 63) (n := 34) (by decide)
  obtain ⟨m, m1, m2, m3⟩ := bm64 (r.toInt * 2 ^ 34)
  rw [m1] at e1
  unfold s_wrapped
  rw [if_neg (by decide), sar_i (n := 34) (by decide), e1]
  rw [m1] at m2 m3
  rw [show (2 : Int) ^ 34 = 17179869184 by decide] at *
  rw [show ((2 ^ 34 : Nat) : Int) = 17179869184 by decide]
  exact ⟨⟨m, by omega⟩, by omega, by omega⟩
theorem wr_62 : ¬ (31 : Int32) = 0 → ∀ r : Int64, (∃ m : Int, (s_wrapped 31 r).toInt = r.toInt - m * (t_sz 31).toInt) ∧ (s_low 31).toInt ≤ (s_wrapped 31 r).toInt ∧ (s_wrapped 31 r).toInt ≤ (s_high 31).toInt := by
  intro _ r
  rw [show (t_sz 31).toInt = 2147483648 by decide, show (s_low 31).toInt = -1073741824 by decide, show (s_high 31).toInt = 1073741823 by decide]
  have e1 := shl_i (x := r) (b := (s_unused 31).toInt64 &&& 63) (n := 33) (by decide)
  obtain ⟨m, m1, m2, m3⟩ := bm64 (r.toInt * 2 ^ 33)
  rw [m1] at e1
  unfold s_wrapped
  rw [if_neg (by decide), sar_i (n := 33) (by decide), e1]
  rw [m1] at m2 m3
  rw [show (2 : Int) ^ 33 = 8589934592 by decide] at *
  rw [show ((2 ^ 33 : Nat) : Int) = 8589934592 by decide]
  exact ⟨⟨m, by omega⟩, by omega, by omega⟩
theorem wr_all {t : Int32} (h : VT t) (h0 : ¬ t = 0) (r : Int64) : (∃ m : Int, (s_wrapped t r).toInt = r.toInt - m * (t_sz t).toInt) ∧ (s_low t).toInt ≤ (s_wrapped t r).toInt ∧ (s_wrapped t r).toInt ≤ (s_high t).toInt := by
  refine h.all (p := fun t => ¬ t = 0 → ∀ r : Int64, (∃ m : Int, (s_wrapped t r).toInt = r.toInt - m * (t_sz t).toInt) ∧ (s_low t).toInt ≤ (s_wrapped t r).toInt ∧ (s_wrapped t r).toInt ≤ (s_high t).toInt) (fun k => ?_) h0 r
  match k with
  | ⟨0, _⟩ => exact wr_0
  | ⟨1, _⟩ => exact wr_1
  | ⟨2, _⟩ => exact wr_2
  | ⟨3, _⟩ => exact wr_3
  | ⟨4, _⟩ => exact wr_4
  | ⟨5, _⟩ => exact wr_5
  | ⟨6, _⟩ => exact wr_6
  | ⟨7, _⟩ => exact wr_7
  | ⟨8, _⟩ => exact wr_8
  | ⟨9, _⟩ => exact wr_9
  | ⟨10, _⟩ => exact wr_10
  | ⟨11, _⟩ => exact wr_11
  | ⟨12, _⟩ => exact wr_12
  | ⟨13, _⟩ => exact wr_13
  | ⟨14, _⟩ => exact wr_14
  | ⟨15, _⟩ => exact wr_15
  | ⟨16, _⟩ => exact wr_16
  | ⟨17, _⟩ => exact wr_17
  | ⟨18, _⟩ => exact wr_18
  | ⟨19, _⟩ => exact wr_19
  | ⟨20, _⟩ => exact wr_20
  | ⟨21, _⟩ => exact wr_21
  | ⟨22, _⟩ => exact wr_22
  | ⟨23, _⟩ => exact wr_23
  | ⟨24, _⟩ => exact wr_24
  | ⟨25, _⟩ => exact wr_25
  | ⟨26, _⟩ => exact wr_26
  | ⟨27, _⟩ => exact wr_27
  | ⟨28, _⟩ => exact wr_28
  | ⟨29, _⟩ => exact wr_29
  | ⟨30, _⟩ => exact wr_30
  | ⟨31, _⟩ => exact wr_31
  | ⟨32, _⟩ => exact wr_32
  | ⟨33, _⟩ => exact wr_33
  | ⟨34, _⟩ => exact wr_34
  | ⟨35, _⟩ => exact wr_35
  | ⟨36, _⟩ => exact wr_36
  | ⟨37, _⟩ => exact wr_37
  | ⟨38, _⟩ => exact wr_38
  | ⟨39, _⟩ => exact wr_39
  | ⟨40, _⟩ => exact wr_40
  | ⟨41, _⟩ => exact wr_41
  | ⟨42, _⟩ => exact wr_42
  | ⟨43, _⟩ => exact wr_43
  | ⟨44, _⟩ => exact wr_44
  | ⟨45, _⟩ => exact wr_45
  | ⟨46, _⟩ => exact wr_46
  | ⟨47, _⟩ => exact wr_47
  | ⟨48, _⟩ => exact wr_48
  | ⟨49, _⟩ => exact wr_49
  | ⟨50, _⟩ => exact wr_50
  | ⟨51, _⟩ => exact wr_51
  | ⟨52, _⟩ => exact wr_52
  | ⟨53, _⟩ => exact wr_53
  | ⟨54, _⟩ => exact wr_54
  | ⟨55, _⟩ => exact wr_55
  | ⟨56, _⟩ => exact wr_56
  | ⟨57, _⟩ => exact wr_57
  | ⟨58, _⟩ => exact wr_58
  | ⟨59, _⟩ => exact wr_59
  | ⟨60, _⟩ => exact wr_60
  | ⟨61, _⟩ => exact wr_61
  | ⟨62, _⟩ => exact wr_62
  | ⟨n + 63, h⟩ => exact absurd h (by omega)
