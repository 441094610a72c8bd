/-! reckon and work -/
theorem vt_hi {t : Int32} (h : VT t) : (t_high t).toInt = (t_low t).toInt + (t_sz t).toInt - 1 ∧ 0 < (t_sz t).toInt ∧ (t_sz t).toInt ≤ 4294967297 := h.all (p := fun t => (t_high t).toInt = (t_low t).toInt + (t_sz t).toInt - 1 ∧ 0 < (t_sz t).toInt ∧ (t_sz t).toInt ≤ 4294967297) (by decide +kernel)
theorem wrap_eq {t : Int32} {r : Int64} (h : VT t) (h0 : ¬ t = 0) (hr1 : -4611686018427387904 ≤ r.toInt) (hr2 : r.toInt ≤ 4611686018427387904) : t_rkV t r = s_wrapped t r := by
  obtain ⟨a1, a2, a3⟩ := vt_hi h
  obtain ⟨b1, b2⟩ := vt_low h
  obtain ⟨q, c1, c2, c3⟩ := rkV_i (t := t) (r := r) rfl rfl a1 b1 b2 a2 a3 hr1 hr2
  obtain ⟨⟨m, d1⟩, d2, d3⟩ := wr_all h h0 r
  rw [← high_eq h0, a1] at d3
  apply Int64.toInt_inj.mp
  exact mod_one a2 c1 d1 c2 c3 d2 (by omega)
theorem trap_iff {x : Int64} : s_isTrap x = true ↔ 1000000000000000 < x.toInt := by
  simp only [s_isTrap, decide_eq_true_eq, Int64.lt_iff_toInt_lt]
  rw [show (1000000000000000 : Int64).toInt = 1000000000000000 by decide]
/-- a type that arithmetic is done in -/
def AT (t : Int32) : Prop := (VT t ∧ ¬ t = 0) ∨ t = 300
theorem AT.n0 {t : Int32} (h : AT t) : ¬ t = 0 := by
  rcases h with h | rfl
  · exact h.2
  · decide
theorem at_low {t : Int32} (h : AT t) : -2147483648 ≤ (s_low t).toInt ∧ (s_low t).toInt ≤ 0 := by
  rcases h with h | rfl
  · exact vt_low h.1
  · decide
theorem at_high {t : Int32} (h : AT t) : 0 ≤ (s_high t).toInt ∧ (s_high t).toInt ≤ 2147483648 := by
  rcases h with h | rfl
  · have := vt_high h.1
    omega
  · decide
theorem at_small {t : Int32} {x : Int64} (h : AT t) (hh : s_holds t x = true) : -2147483648 ≤ x.toInt ∧ x.toInt ≤ 2147483648 := by
  have h1 := at_low h
  have h2 := at_high h
  rw [holds_iff] at hh
  omega
theorem small_nt {x : Int64} (h : x.toInt ≤ 2147483648) : s_isTrap x = false := by
  rw [Bool.eq_false_iff]
  intro q
  rw [trap_iff] at q
  omega
theorem chk_n {M : mm_M} {k t : Int32} {r : Int64} (ht : AT t) (h : s_isTrap (s_checked t r) = false) : s_checked t r = r ∧ s_holds t r = true ∧ t_rk2 M k t r = (r, M) := by
  by_cases q : s_holds t r = true
  · refine ⟨if_pos q, q, ?_⟩
    unfold t_rk2
    rw [fits_eq ht.n0, if_pos q]
  · unfold s_checked at h
    rw [if_neg q] at h
    exact absurd h (by decide)
theorem chk_t {M : mm_M} {k t : Int32} {r : Int64} (ht : AT t) (h6 : ¬ 6 ≤ k) (h : s_isTrap (s_checked t r) = true) : s_checked t r = 1000000000000001 ∧ (t_rk2 M k t r).2 = mm_sL M 30 0 34 1000000000000001 := by
  by_cases q : s_holds t r = true
  · unfold s_checked at h
    rw [if_pos q, small_nt (at_small ht q).2] at h
    exact absurd h (by decide)
  · refine ⟨if_neg q, ?_⟩
    unfold t_rk2
    rw [fits_eq ht.n0, if_neg q, if_neg h6]
    rfl
theorem wrp {M : mm_M} {k t : Int32} {r : Int64} (h6 : 6 ≤ k) (h8 : k ≤ 8) : t_rk2 M k t r = (t_rkV t r, M) := by
  unfold t_rk2 t_rkV t_rk3
  by_cases q : t_fitsIn t r = true
  · rw [if_pos q, if_pos q]
  · rw [if_neg q, if_neg q, if_pos h6, if_pos h8]
theorem clp {M : mm_M} {k t : Int32} {r : Int64} (ht : AT t) (h6 : 6 ≤ k) (h8 : ¬ k ≤ 8) : t_rk2 M k t r = (s_clamped t r, M) ∧ s_holds t (s_clamped t r) = true := by
  have h1 := at_low ht
  have h2 := at_high ht
  unfold t_rk2 t_rk3 s_clamped
  rw [fits_eq ht.n0, high_eq ht.n0, low_eq]
  by_cases q : s_holds t r = true
  · have q' := q
    rw [holds_iff] at q'
    rw [if_pos q]
    by_cases q1 : r < s_high t
    · have q2 : ¬ r < s_low t := by
        rw [Int64.lt_iff_toInt_lt]
        omega
      simp only [if_pos q1, if_neg q2]
      exact ⟨trivial, q⟩
    · have q2 : ¬ s_high t < s_low t := by
        rw [Int64.lt_iff_toInt_lt]
        omega
      have e : r = s_high t := by
        apply Int64.toInt_inj.mp
        rw [Int64.lt_iff_toInt_lt] at q1
        omega
      simp only [if_neg q1, if_neg q2]
      exact ⟨by rw [e], by rw [← e]; exact q⟩
  · rw [if_neg q, if_pos h6, if_neg h8]
    rw [holds_iff] at q
    by_cases q1 : s_low t ≤ r
    · have q3 : ¬ r < s_high t := by
        rw [Int64.lt_iff_toInt_lt]
        rw [Int64.le_iff_toInt_le] at q1
        omega
      have q2 : ¬ s_high t < s_low t := by
        rw [Int64.lt_iff_toInt_lt]
        omega
      simp only [if_pos q1, if_neg q3, if_neg q2]
      exact ⟨trivial, holds_iff.mpr ⟨by omega, Int.le_refl _⟩⟩
    · have q3 : r < s_high t := by
        rw [Int64.lt_iff_toInt_lt]
        rw [Int64.le_iff_toInt_le] at q1
        omega
      have q2 : r < s_low t := by
        rw [Int64.lt_iff_toInt_lt]
        rw [Int64.le_iff_toInt_le] at q1
        omega
      simp only [if_neg q1, if_pos q3, if_pos q2]
      exact ⟨trivial, holds_iff.mpr ⟨Int.le_refl _, by omega⟩⟩
/-- a kind of two operands, in a type that it may have -/
def KT (k t : Int32) : Prop := k = 11 ∨ k = 12 ∨ (AT t ∧ (k = 2 ∨ k = 3 ∨ k = 4 ∨ k = 5)) ∨ (VT t ∧ ¬ t = 0 ∧ (k = 6 ∨ k = 7 ∨ k = 8 ∨ k = 9 ∨ k = 10))
def sm (x : Int64) : Prop := -2147483648 ≤ x.toInt ∧ x.toInt ≤ 2147483648
theorem add_i {x y : Int64} (hx : sm x) (hy : sm y) : (x + y).toInt = x.toInt + y.toInt := by
  obtain ⟨a, b⟩ := hx
  obtain ⟨c, d⟩ := hy
  rw [Int64.toInt_add]
  apply Int.bmod_eq_of_le <;> omega
theorem sub_i {x y : Int64} (hx : sm x) (hy : sm y) : (x - y).toInt = x.toInt - y.toInt := by
  obtain ⟨a, b⟩ := hx
  obtain ⟨c, d⟩ := hy
  rw [Int64.toInt_sub]
  apply Int.bmod_eq_of_le <;> omega
theorem mul_b {a b : Int} (h1 : -2147483648 ≤ a) (h2 : a ≤ 2147483648) (h3 : -2147483648 ≤ b) (h4 : b ≤ 2147483648) : -4611686018427387904 ≤ a * b ∧ a * b ≤ 4611686018427387904 := by
  have e : (a * b).natAbs ≤ 2147483648 * 2147483648 := by
    rw [Int.natAbs_mul]
    exact Nat.mul_le_mul (by omega) (by omega)
  omega
theorem mul_i {x y : Int64} (hx : sm x) (hy : sm y) : (x * y).toInt = x.toInt * y.toInt := by
  have := mul_b hx.1 hx.2 hy.1 hy.2
  rw [Int64.toInt_mul]
  apply Int.bmod_eq_of_le <;> omega
theorem w_2 {t : Int32} {x y : Int64} : s_work 2 t x y = s_checked t (x + y) := by
  unfold s_work
  rw [if_pos rfl]
theorem w_3 {t : Int32} {x y : Int64} : s_work 3 t x y = s_checked t (x - y) := by
  unfold s_work
  rw [if_neg (by decide), if_pos rfl]
theorem w_4 {t : Int32} {x y : Int64} : s_work 4 t x y = s_checked t (x * y) := by
  unfold s_work
  rw [if_neg (by decide), if_neg (by decide), if_pos rfl]
theorem w_5 {t : Int32} {x y : Int64} : s_work 5 t x y = (if y = 0 then 1000000000000002 else s_checked t (x / y)) := by
  unfold s_work
  rw [if_neg (by decide), if_neg (by decide), if_neg (by decide), if_pos rfl]
theorem w_6 {t : Int32} {x y : Int64} : s_work 6 t x y = s_wrapped t (x + y) := by
  unfold s_work
  rw [if_neg (by decide), if_neg (by decide), if_neg (by decide), if_neg (by decide), if_pos rfl]
theorem w_7 {t : Int32} {x y : Int64} : s_work 7 t x y = s_wrapped t (x - y) := by
  unfold s_work
  rw [if_neg (by decide), if_neg (by decide), if_neg (by decide), if_neg (by decide), if_neg (by decide), if_pos rfl]
theorem w_8 {t : Int32} {x y : Int64} : s_work 8 t x y = s_wrapped t (x * y) := by
  unfold s_work
  rw [if_neg (by decide), if_neg (by decide), if_neg (by decide), if_neg (by decide), if_neg (by decide), if_neg (by decide), if_pos rfl]
theorem w_9 {t : Int32} {x y : Int64} : s_work 9 t x y = s_clamped t (x + y) := by
  unfold s_work
  rw [if_neg (by decide), if_neg (by decide), if_neg (by decide), if_neg (by decide), if_neg (by decide), if_neg (by decide), if_neg (by decide), if_pos rfl]
theorem w_10 {t : Int32} {x y : Int64} : s_work 10 t x y = s_clamped t (x - y) := by
  unfold s_work
  rw [if_neg (by decide), if_neg (by decide), if_neg (by decide), if_neg (by decide), if_neg (by decide), if_neg (by decide), if_neg (by decide), if_neg (by decide), if_pos rfl]
theorem w_11 {t : Int32} {x y : Int64} : s_work 11 t x y = (if x < y then 1 else 0) := by
  unfold s_work
  rw [if_neg (by decide), if_neg (by decide), if_neg (by decide), if_neg (by decide), if_neg (by decide), if_neg (by decide), if_neg (by decide), if_neg (by decide), if_neg (by decide), if_pos rfl]
theorem w_12 {t : Int32} {x y : Int64} : s_work 12 t x y = (if x = y then 1 else 0) := by
  unfold s_work
  rw [if_neg (by decide), if_neg (by decide), if_neg (by decide), if_neg (by decide), if_neg (by decide), if_neg (by decide), if_neg (by decide), if_neg (by decide), if_neg (by decide), if_neg (by decide)]
theorem r_2 {M : mm_M} {t : Int32} {x y : Int64} : t_reck M 2 t x y = t_rk2 M 2 t (x + y) := by
  unfold t_reck
  rw [if_neg (by decide), if_neg (by decide), if_neg (fun z => absurd z.1 (by decide)), show t_plain 2 = 2 by decide]
  unfold t_raw
  rw [if_pos rfl]
theorem r_3 {M : mm_M} {t : Int32} {x y : Int64} : t_reck M 3 t x y = t_rk2 M 3 t (x - y) := by
  unfold t_reck
  rw [if_neg (by decide), if_neg (by decide), if_neg (fun z => absurd z.1 (by decide)), show t_plain 3 = 3 by decide]
  unfold t_raw
  rw [if_neg (by decide), if_pos rfl]
theorem r_4 {M : mm_M} {t : Int32} {x y : Int64} : t_reck M 4 t x y = t_rk2 M 4 t (x * y) := by
  unfold t_reck
  rw [if_neg (by decide), if_neg (by decide), if_neg (fun z => absurd z.1 (by decide)), show t_plain 4 = 4 by decide]
  unfold t_raw
  rw [if_neg (by decide), if_neg (by decide), if_pos rfl]
theorem r_6 {M : mm_M} {t : Int32} {x y : Int64} : t_reck M 6 t x y = t_rk2 M 6 t (x + y) := by
  unfold t_reck
  rw [if_neg (by decide), if_neg (by decide), if_neg (fun z => absurd z.1 (by decide)), show t_plain 6 = 2 by decide]
  unfold t_raw
  rw [if_pos rfl]
theorem r_7 {M : mm_M} {t : Int32} {x y : Int64} : t_reck M 7 t x y = t_rk2 M 7 t (x - y) := by
  unfold t_reck
  rw [if_neg (by decide), if_neg (by decide), if_neg (fun z => absurd z.1 (by decide)), show t_plain 7 = 3 by decide]
  unfold t_raw
  rw [if_neg (by decide), if_pos rfl]
theorem r_8 {M : mm_M} {t : Int32} {x y : Int64} : t_reck M 8 t x y = t_rk2 M 8 t (x * y) := by
  unfold t_reck
  rw [if_neg (by decide), if_neg (by decide), if_neg (fun z => absurd z.1 (by decide)), show t_plain 8 = 4 by decide]
  unfold t_raw
  rw [if_neg (by decide), if_neg (by decide), if_pos rfl]
theorem r_9 {M : mm_M} {t : Int32} {x y : Int64} : t_reck M 9 t x y = t_rk2 M 9 t (x + y) := by
  unfold t_reck
  rw [if_neg (by decide), if_neg (by decide), if_neg (fun z => absurd z.1 (by decide)), show t_plain 9 = 2 by decide]
  unfold t_raw
  rw [if_pos rfl]
theorem r_10 {M : mm_M} {t : Int32} {x y : Int64} : t_reck M 10 t x y = t_rk2 M 10 t (x - y) := by
  unfold t_reck
  rw [if_neg (by decide), if_neg (by decide), if_neg (fun z => absurd z.1 (by decide)), show t_plain 10 = 3 by decide]
  unfold t_raw
  rw [if_neg (by decide), if_pos rfl]
theorem r_5z {M : mm_M} {t : Int32} {x y : Int64} (q : y = 0) : t_reck M 5 t x y = (0, mm_sL M 30 0 34 1000000000000002) := by
  unfold t_reck
  rw [if_neg (by decide), if_neg (by decide), if_pos ⟨rfl, q⟩]
theorem r_5n {M : mm_M} {t : Int32} {x y : Int64} (q : ¬ y = 0) : t_reck M 5 t x y = t_rk2 M 5 t (x / y) := by
  unfold t_reck
  rw [if_neg (by decide), if_neg (by decide), if_neg (fun z => q z.2), show t_plain 5 = 5 by decide]
  unfold t_raw
  rw [if_neg (by decide), if_neg (by decide), if_neg (by decide), if_neg q]
theorem r_11 {M : mm_M} {t : Int32} {x y : Int64} : t_reck M 11 t x y = (if x < y then 1 else 0, M) := by
  unfold t_reck
  rw [if_pos rfl]
theorem r_12 {M : mm_M} {t : Int32} {x y : Int64} : t_reck M 12 t x y = (if x = y then 1 else 0, M) := by
  unfold t_reck
  rw [if_neg (by decide), if_pos rfl]
theorem reck {M : mm_M} {k t : Int32} {x y : Int64} (hk : KT k t) (hx : sm x) (hy : sm y) : (s_isTrap (s_work k t x y) = true → (t_reck M k t x y).2 = mm_sL M 30 0 34 (s_work k t x y) ∧ (s_work k t x y = 1000000000000001 ∨ s_work k t x y = 1000000000000002)) ∧ (s_isTrap (s_work k t x y) = false → t_reck M k t x y = (s_work k t x y, M) ∧ s_holds (if s_isComp k = true then 0 else t) (s_work k t x y) = true) := by
  have hc : ∀ {p : Prop} [Decidable p] {a : Int64}, a = (if p then 1 else 0) → s_isTrap a = false ∧ s_holds 0 a = true := fun {p} _ {a} e => by
    rw [e]
    split <;> exact ⟨by decide, by decide⟩
  have ck : ∀ {k : Int32} {r : Int64}, AT t → ¬ 6 ≤ k → s_isComp k = false → s_work k t x y = s_checked t r → t_reck M k t x y = t_rk2 M k t r → (s_isTrap (s_work k t x y) = true → (t_reck M k t x y).2 = mm_sL M 30 0 34 (s_work k t x y) ∧ (s_work k t x y = 1000000000000001 ∨ s_work k t x y = 1000000000000002)) ∧ (s_isTrap (s_work k t x y) = false → t_reck M k t x y = (s_work k t x y, M) ∧ s_holds (if s_isComp k = true then 0 else t) (s_work k t x y) = true) := fun {k r} ht h6 hco e1 e2 => by
    rw [e1, e2, hco]
    refine ⟨fun h => ?_, fun h => ?_⟩
    · obtain ⟨a, b⟩ := chk_t (M := M) ht h6 h
      rw [a, b]
      exact ⟨rfl, Or.inl rfl⟩
    · obtain ⟨a, b, c⟩ := chk_n (M := M) (k := k) ht h
      rw [a, c]
      exact ⟨rfl, b⟩
  have wk : ∀ {k : Int32} {r : Int64}, VT t → ¬ t = 0 → 6 ≤ k → k ≤ 8 → s_isComp k = false → -4611686018427387904 ≤ r.toInt → r.toInt ≤ 4611686018427387904 → s_work k t x y = s_wrapped t r → t_reck M k t x y = t_rk2 M k t r → (s_isTrap (s_work k t x y) = true → (t_reck M k t x y).2 = mm_sL M 30 0 34 (s_work k t x y) ∧ (s_work k t x y = 1000000000000001 ∨ s_work k t x y = 1000000000000002)) ∧ (s_isTrap (s_work k t x y) = false → t_reck M k t x y = (s_work k t x y, M) ∧ s_holds (if s_isComp k = true then 0 else t) (s_work k t x y) = true) := fun {k r} ht h0 h6 h8 hco r1 r2 e1 e2 => by
    obtain ⟨-, d2, d3⟩ := wr_all ht h0 r
    have hh : s_holds t (s_wrapped t r) = true := holds_iff.mpr ⟨d2, d3⟩
    rw [e1, e2, hco, wrp h6 h8, wrap_eq ht h0 r1 r2, small_nt (at_small (Or.inl ⟨ht, h0⟩) hh).2]
    exact ⟨fun h => absurd h (by decide), fun _ => ⟨rfl, hh⟩⟩
  have lk : ∀ {k : Int32} {r : Int64}, VT t → ¬ t = 0 → 6 ≤ k → ¬ k ≤ 8 → s_isComp k = false → s_work k t x y = s_clamped t r → t_reck M k t x y = t_rk2 M k t r → (s_isTrap (s_work k t x y) = true → (t_reck M k t x y).2 = mm_sL M 30 0 34 (s_work k t x y) ∧ (s_work k t x y = 1000000000000001 ∨ s_work k t x y = 1000000000000002)) ∧ (s_isTrap (s_work k t x y) = false → t_reck M k t x y = (s_work k t x y, M) ∧ s_holds (if s_isComp k = true then 0 else t) (s_work k t x y) = true) := fun {k r} ht h0 h6 h8 hco e1 e2 => by
    obtain ⟨c1, c2⟩ := clp (M := M) (k := k) (r := r) (Or.inl ⟨ht, h0⟩) h6 h8
    rw [e1, e2, hco, c1, small_nt (at_small (Or.inl ⟨ht, h0⟩) c2).2]
    exact ⟨fun h => absurd h (by decide), fun _ => ⟨rfl, c2⟩⟩
  have ea := add_i hx hy
  have es := sub_i hx hy
  have em := mul_i hx hy
  have bm := mul_b hx.1 hx.2 hy.1 hy.2
  obtain ⟨x1, x2⟩ := hx
  obtain ⟨y1, y2⟩ := hy
  rcases hk with rfl | rfl | ⟨ht, rfl | rfl | rfl | rfl⟩ | ⟨ht, h0, rfl | rfl | rfl | rfl | rfl⟩
  · have e : s_work 11 t x y = if x < y then 1 else 0 := w_11
    obtain ⟨n1, n2⟩ := hc e
    rw [n1]
    exact ⟨fun h => absurd h (by decide), fun _ => ⟨by rw [e, r_11], n2⟩⟩
  · have e : s_work 12 t x y = if x = y then 1 else 0 := w_12
    obtain ⟨n1, n2⟩ := hc e
    rw [n1]
    exact ⟨fun h => absurd h (by decide), fun _ => ⟨by rw [e, r_12], n2⟩⟩
  · exact ck (r := x + y) ht (by decide) (by decide) w_2 r_2
  · exact ck (r := x - y) ht (by decide) (by decide) w_3 r_3
  · exact ck (r := x * y) ht (by decide) (by decide) w_4 r_4
  · by_cases q : y = 0
    · have e : s_work 5 t x y = 1000000000000002 := by rw [w_5, if_pos q]
      rw [e, r_5z q]
      exact ⟨fun _ => ⟨rfl, Or.inr rfl⟩, fun h => absurd h (by decide)⟩
    · exact ck (r := x / y) ht (by decide) (by decide) (by rw [w_5, if_neg q]) (r_5n q)
  · exact wk (r := x + y) ht h0 (by decide) (by decide) (by decide) (by omega) (by omega) w_6 r_6
  · exact wk (r := x - y) ht h0 (by decide) (by decide) (by decide) (by omega) (by omega) w_7 r_7
  · exact wk (r := x * y) ht h0 (by decide) (by decide) (by decide) (by omega) (by omega) w_8 r_8
  · exact lk (r := x + y) ht h0 (by decide) (by decide) (by decide) w_9 r_9
  · exact lk (r := x - y) ht h0 (by decide) (by decide) (by decide) w_10 r_10
/-- the type of a code, in an instance of both sides -/
theorem tyW_eq {c : Int32} {x : Int64} : t_tyW c x = if x < 1 then 500 else if x ≤ 31 then (if 200 ≤ c then -x.toInt32 else x.toInt32) else 500 := by
  unfold t_tyW
  have e1 : (1 : Int64).toInt = 1 := by decide
  have e31 : (31 : Int64).toInt = 31 := by decide
  by_cases q1 : x < 1
  · have q2 : ¬ 31 < x := by
      rw [Int64.lt_iff_toInt_lt] at q1 ⊢
      omega
    have q3 : ¬ 1 ≤ x := by
      rw [Int64.lt_iff_toInt_lt] at q1
      rw [Int64.le_iff_toInt_le]
      omega
    rw [if_pos q1, if_neg q2, if_neg q3]
  · rw [if_neg q1]
    by_cases q4 : x ≤ 31
    · have q2 : ¬ 31 < x := by
        rw [Int64.le_iff_toInt_le] at q4
        rw [Int64.lt_iff_toInt_lt]
        omega
      have q3 : 1 ≤ x := by
        rw [Int64.lt_iff_toInt_lt] at q1
        rw [Int64.le_iff_toInt_le]
        omega
      have q5 : t_wide x.toInt32 = true := by
        rw [wide_iff, Int64.toInt_toInt32]
        rw [Int64.le_iff_toInt_le] at q3 q4
        have : x.toInt.bmod (2 ^ 32) = x.toInt := by apply Int.bmod_eq_of_le <;> omega
        omega
      rw [if_pos q4, if_neg q2, if_pos q3, if_pos q5]
    · have q2 : 31 < x := by
        rw [Int64.le_iff_toInt_le] at q4
        rw [Int64.lt_iff_toInt_lt]
        omega
      rw [if_neg q4, if_pos q2]
def okC (c : Int32) : Prop := s_isByP c = true ∨ c < 100 ∨ ¬ c ≤ 299
theorem typeIn_eq {C R : mm_M} {j : Nat} {i c : Int32} (hc : okC c) (h0 : C.1 15 j 0 = 300 ↔ R.1 8 0 (R.1 41 0 i.toNatClampNeg).toNatClampNeg = 300) (h1 : C.1 15 j 1 = 300 ↔ R.1 9 0 (R.1 41 0 i.toNatClampNeg).toNatClampNeg = 300)
    (v0 : C.1 15 j 0 = 300 → R.2.1 56 0 i.toNatClampNeg = C.2.1 16 j 0) (v1 : C.1 15 j 1 = 300 → R.2.1 57 0 i.toNatClampNeg = C.2.1 16 j 1) : t_typeIn R i c = s_typeBy C j c := by
  have key : ∀ {k : Nat} {c : Int32} {g : Nat} {F : Nat}, (C.1 15 j k = 300 ↔ R.1 g 0 (R.1 41 0 i.toNatClampNeg).toNatClampNeg = 300) → (C.1 15 j k = 300 → R.2.1 F 0 i.toNatClampNeg = C.2.1 16 j k) → (if R.1 g 0 (R.1 41 0 i.toNatClampNeg).toNatClampNeg = 300 then t_tyW c (R.2.1 F 0 i.toNatClampNeg) else 500) = (if ¬ C.1 15 j k = 300 then 500 else if C.2.1 16 j k < 1 then 500 else if C.2.1 16 j k ≤ 31 then (if 200 ≤ c then -(C.2.1 16 j k).toInt32 else (C.2.1 16 j k).toInt32) else 500) := fun {k c g F} h v => by
    by_cases q : C.1 15 j k = 300
    · rw [if_pos (h.mp q), if_neg (fun z => z q), v q, tyW_eq]
    · rw [if_neg (fun z => q (h.mpr z)), if_pos q]
  rcases hc with hc | hc | hc
  · simp only [s_isByP, Bool.or_eq_true, decide_eq_true_eq] at hc
    rcases hc with ((rfl | rfl) | rfl) | rfl
    · exact key h0 v0
    · exact key h1 v1
    · exact key h0 v0
    · exact key h1 v1
  · unfold t_typeIn s_typeBy
    rw [if_pos hc, if_pos]
    rw [Bool.eq_false_iff]
    intro q
    simp only [s_isByP, Bool.or_eq_true, decide_eq_true_eq] at q
    rcases q with ((rfl | rfl) | rfl) | rfl <;> exact absurd hc (by decide)
  · unfold t_typeIn s_typeBy
    have hn : ¬ c < 100 := fun q => hc (by
      rw [Int32.lt_iff_toInt_lt, show (100 : Int32).toInt = 100 by decide] at q
      rw [Int32.le_iff_toInt_le, show (299 : Int32).toInt = 299 by decide]
      omega)
    rw [if_neg hn, if_pos hc, if_pos]
    rw [Bool.eq_false_iff]
    intro q
    simp only [s_isByP, Bool.or_eq_true, decide_eq_true_eq] at q
    rcases q with ((rfl | rfl) | rfl) | rfl <;> exact absurd hc (by decide)
