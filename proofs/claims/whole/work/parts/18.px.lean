/-! pairs and ifs on both sides -/
theorem k_212 {k : Int32} (h : s_isOne k = true) (z0 : ¬ k = 0) (z1 : ¬ k = 1) (z13 : ¬ k = 13) (z14 : ¬ k = 14) (z15 : ¬ k = 15) (z16 : ¬ k = 16) : k = 2 ∨ k = 3 ∨ k = 4 ∨ k = 5 ∨ k = 6 ∨ k = 7 ∨ k = 8 ∨ k = 9 ∨ k = 10 ∨ k = 11 ∨ k = 12 := by
  simp only [s_isOne, Bool.and_eq_true, Bool.not_eq_true', decide_eq_false_iff_not, Int32.lt_iff_toInt_lt] at h
  simp only [← Int32.toInt_inj] at *
  have e : ∀ m : Int, -2147483648 ≤ m → m < 2147483648 → (Int32.ofInt m).toInt = m := fun m h1 h2 => Int32.toInt_ofInt_of_le h1 h2
  rw [show (0 : Int32).toInt = 0 by decide] at *
  rw [show (1 : Int32).toInt = 1 by decide] at *
  rw [show (13 : Int32).toInt = 13 by decide] at *
  rw [show (14 : Int32).toInt = 14 by decide] at *
  rw [show (15 : Int32).toInt = 15 by decide] at *
  rw [show (16 : Int32).toInt = 16 by decide] at *
  rw [show (2 : Int32).toInt = 2 by decide, show (3 : Int32).toInt = 3 by decide, show (4 : Int32).toInt = 4 by decide, show (5 : Int32).toInt = 5 by decide, show (6 : Int32).toInt = 6 by decide, show (7 : Int32).toInt = 7 by decide, show (8 : Int32).toInt = 8 by decide, show (9 : Int32).toInt = 9 by decide, show (10 : Int32).toInt = 10 by decide, show (11 : Int32).toInt = 11 by decide, show (12 : Int32).toInt = 12 by decide]
  omega
theorem SC.l34 {C R : mm_M} {k : Nat} {x : Int64} (h : SC C R) : SC C (mm_sL R 30 0 k x) := h
theorem ST.l34 {C R : mm_M} {j : Nat} {n : Int32} {x : Int64} (h : ST C R j n) : ST C (mm_sL R 30 0 34 x) j n := ⟨h.1.l34, h.2⟩
/-- pairs, when the operands fit -/
theorem lpC_sim {C R : mm_M} {j : Nat} {n k a b u : Int32} (h : ST C R j n) (ha : vp_in a 60) (hb : vp_in b 60) (la : ¬ C.1 17 j a.toNatClampNeg = 400) (lb : ¬ C.1 17 j b.toNatClampNeg = 400) (hk : k = 2 ∨ k = 3 ∨ k = 4 ∨ k = 5 ∨ k = 6 ∨ k = 7 ∨ k = 8 ∨ k = 9 ∨ k = 10 ∨ k = 11 ∨ k = 12) (eu : s_fitted C j a b = u)
    (hu : (C.1 17 j a.toNatClampNeg = u ∧ C.1 17 j b.toNatClampNeg = u) ∨ ((VT u ∧ ¬ u = 0) ∧ (C.1 17 j a.toNatClampNeg = u ∨ (C.1 17 j a.toNatClampNeg = 300 ∧ s_holds u (C.2.1 19 j a.toNatClampNeg) = true)) ∧ (C.1 17 j b.toNatClampNeg = u ∨ (C.1 17 j b.toNatClampNeg = 300 ∧ s_holds u (C.2.1 19 j b.toNatClampNeg) = true)))) : RS j n (s_lpC C j n k a b) (t_lt2 R (nI j) n k a b u) := by
  obtain ⟨-, ra, wa1, wa2, wa3⟩ := h.1.rd h.2.1 h.2.2.1 ha
  obtain ⟨a1, a2, a3⟩ := ra la
  obtain ⟨a4, a5, a6⟩ := wa3 la
  obtain ⟨-, rb, wb1, wb2, wb3⟩ := h.1.rd h.2.1 h.2.2.1 hb
  obtain ⟨b1, b2, b3⟩ := rb lb
  obtain ⟨b4, b5, b6⟩ := wb3 lb
  have hT : TV u := by
    rcases hu with ⟨z, -⟩ | ⟨z, -⟩
    · rw [← z]
      exact a4
    · exact Or.inl z.1
  unfold s_lpC t_lt2
  rw [eu]
  by_cases q0 : u = 0 ∧ ¬ k = 12
  · rw [if_pos q0, if_pos q0]
    exact RS.fail h.1 h.2.1 h.2.2.1 (by decide)
  rw [if_neg q0, if_neg q0]
  have hw : s_isWrap k = true ↔ ¬ k ≤ 5 ∧ ¬ 11 ≤ k := by
    rcases hk with rfl | rfl | rfl | rfl | rfl | rfl | rfl | rfl | rfl | rfl | rfl <;> decide
  have hcc : (if k ≤ 10 then u else 0) = (if s_isComp k = true then 0 else u) := by
    rcases hk with rfl | rfl | rfl | rfl | rfl | rfl | rfl | rfl | rfl | rfl | rfl <;> rfl
  by_cases q1 : u = 300 ∧ s_isWrap k = true
  · rw [if_pos q1, if_pos ⟨q1.1, hw.mp q1.2⟩]
    exact RS.fail h.1 h.2.1 h.2.2.1 (by decide)
  have q1' : ¬ (u = 300 ∧ ¬ k ≤ 5 ∧ ¬ 11 ≤ k) := fun z => q1 ⟨z.1, hw.mpr z.2⟩
  rw [if_neg q1, if_neg q1']
  have hTf : TV (if s_isComp k = true then 0 else u) := by
    split
    · exact Or.inl ⟨by decide, by decide⟩
    · exact hT
  have hKT : KT k u := by
    rcases hT with hv | h3
    · rcases hk with rfl | rfl | rfl | rfl | rfl | rfl | rfl | rfl | rfl | rfl | rfl
      all_goals first
        | exact Or.inl rfl
        | exact Or.inr (Or.inl rfl)
        | exact Or.inr (Or.inr (Or.inl ⟨Or.inl ⟨hv, fun z => q0 ⟨z, by decide⟩⟩, by decide⟩))
        | exact Or.inr (Or.inr (Or.inr ⟨hv, fun z => q0 ⟨z, by decide⟩, by decide⟩))
    · have nw : ¬ s_isWrap k = true := fun z => q1 ⟨h3, z⟩
      rcases hk with rfl | rfl | rfl | rfl | rfl | rfl | rfl | rfl | rfl | rfl | rfl
      all_goals first
        | exact Or.inl rfl
        | exact Or.inr (Or.inl rfl)
        | exact Or.inr (Or.inr (Or.inl ⟨Or.inr h3, by decide⟩))
        | exact absurd (by decide) nw
  have un : C.1 18 j a.toNatClampNeg = 0 ∨ C.1 18 j b.toNatClampNeg = 0 → ¬ (if s_isComp k = true then 0 else u) = 300 := fun hz z => by
    split at z
    · exact absurd z (by decide)
    · rcases hu with ⟨y1, y2⟩ | ⟨y, -⟩
      · rcases hz with hz | hz
        · rw [a5 (y1.trans z)] at hz
          exact absurd hz (by decide)
        · rw [b5 (y2.trans z)] at hz
          exact absurd hz (by decide)
      · rw [z] at y
        exact absurd y.1.2 (by decide)
  unfold s_lpE t_lt3
  rw [a2, b2]
  have t0 : (mm_sL R 30 0 34 0).2.1 30 0 34 = 0 := rfl
  by_cases k1 : C.1 18 j a.toNatClampNeg = 0
  · rw [if_pos k1, if_pos k1]
    unfold t_lt4
    rw [if_pos t0, hcc]
    exact find_sim h.l34 hTf (un (Or.inl k1))
  rw [if_neg k1, if_neg k1]
  by_cases k2 : C.1 18 j b.toNatClampNeg = 0
  · rw [if_pos k2, if_pos k2]
    unfold t_lt4
    rw [if_pos t0, hcc]
    exact find_sim h.l34 hTf (un (Or.inr k2))
  rw [if_neg k2, if_neg k2]
  have k1' := wa2.resolve_left k1
  have k2' := wb2.resolve_left k2
  rw [a3 k1', b3 k2']
  obtain ⟨r1, r2⟩ := reck (M := mm_sL R 30 0 34 0) hKT (a4.sm (a6 k1')) (b4.sm (b6 k2'))
  generalize s_work k u (C.2.1 19 j a.toNatClampNeg) (C.2.1 19 j b.toNatClampNeg) = w at *
  by_cases q : s_isTrap w = true
  · obtain ⟨e1, e2⟩ := r1 q
    rw [if_pos q, e1]
    unfold t_lt4
    have tw : (mm_sL (mm_sL R 30 0 34 0) 30 0 34 w).2.1 30 0 34 = w := rfl
    have w0 : ¬ w = 0 := by
      rcases e2 with z | z <;> rw [z] <;> decide
    rw [tw, if_neg w0]
    refine RS.fail (R := mm_sL (mm_sL R 30 0 34 0) 30 0 34 w) h.1 h.2.1 h.2.2.1 ?_
    split <;> decide
  · have q : s_isTrap w = false := by simpa using q
    obtain ⟨e1, e2⟩ := r2 q
    rw [if_neg (by rw [q]; decide), e1]
    unfold t_lt4
    rw [if_pos t0, hcc]
    exact findK_sim h.l34 hTf e2
theorem pair_sim {C R : mm_M} {j : Nat} {n k a b : Int32} (h : ST C R j n) (ha : vp_in a 60) (hb : vp_in b 60) (la : ¬ C.1 17 j a.toNatClampNeg = 400) (lb : ¬ C.1 17 j b.toNatClampNeg = 400) (hk : k = 2 ∨ k = 3 ∨ k = 4 ∨ k = 5 ∨ k = 6 ∨ k = 7 ∨ k = 8 ∨ k = 9 ∨ k = 10 ∨ k = 11 ∨ k = 12) : RS j n (s_seq (s_fits C j n a b) fun M3 => s_lpC M3 j n k a b) (t_lookTwo R (nI j) n k a b) := by
  obtain ⟨f1, f2⟩ := fit_sim h ha hb la lb
  unfold s_seq t_lookTwo
  by_cases q : (s_fits C j n a b).1 = true
  · obtain ⟨e1, e2, e3⟩ := f1 q
    rw [if_pos q, e1, e2, if_pos h.re]
    exact lpC_sim h ha hb la lb hk rfl e3
  · have q' : (s_fits C j n a b).1 = false := by simpa using q
    have e := f2 q'
    rw [if_neg q, if_neg (fun z => e.2.2 (e.1.symm.trans z))]
    exact RS.f e
theorem if_sim {C R : mm_M} {j : Nat} {n a b c : Int32} (h : ST C R j n) (ha : vp_in a 60) (hb : vp_in b 60) (hc : vp_in c 60) (la : ¬ C.1 17 j a.toNatClampNeg = 400) (t0 : C.1 17 j a.toNatClampNeg = 0) (l1 : C.1 18 j a.toNatClampNeg = 0 → ¬ C.1 17 j b.toNatClampNeg = 400 ∧ ¬ C.1 17 j c.toNatClampNeg = 400) (l2 : ¬ C.1 18 j a.toNatClampNeg = 0 → ¬ C.1 17 j (if C.2.1 19 j a.toNatClampNeg = 0 then c else b).toNatClampNeg = 400) : RS j n (s_liB (fun M _ => (true, M)) C j n a b c) (t_lookIf R (nI j) n a b c) := by
  obtain ⟨-, ra, wa1, wa2, wa3⟩ := h.1.rd h.2.1 h.2.2.1 ha
  obtain ⟨a1, a2, a3⟩ := ra la
  obtain ⟨a4, a5, a6⟩ := wa3 la
  unfold s_liB t_lookIf
  rw [if_neg (fun z => z t0), a2]
  by_cases k1 : C.1 18 j a.toNatClampNeg = 0
  · obtain ⟨lb, lc⟩ := l1 k1
    rw [if_neg (fun z => z k1), if_pos k1]
    obtain ⟨f1, f2⟩ := fit_sim h hb hc lb lc
    show RS j n (s_seq (true, C) fun M1 => s_seq (true, M1) fun M2 => s_seq (s_fits M2 j n b c) fun M3 => s_liC M3 j n b c) _
    show RS j n (s_seq (s_fits C j n b c) fun M3 => s_liC M3 j n b c) _
    unfold s_seq
    by_cases q : (s_fits C j n b c).1 = true
    · obtain ⟨e1, e2, e3⟩ := f1 q
      rw [if_pos q, e1, e2, if_pos h.re]
      show RS j n (s_liC C j n b c) (if s_fitted C j b c = 300 then t_fail R (-2) (nI j) n else t_found R (nI j) n (s_fitted C j b c) 0 0)
      unfold s_liC
      by_cases q3 : s_fitted C j b c = 300
      · rw [if_pos q3, if_pos q3]
        exact RS.fail h.1 h.2.1 h.2.2.1 (by decide)
      · rw [if_neg q3, if_neg q3]
        refine find_sim h ?_ q3
        rcases e3 with ⟨z, -⟩ | ⟨z, -⟩
        · rw [← z]
          obtain ⟨-, -, -, -, wb3⟩ := h.1.rd h.2.1 h.2.2.1 hb
          exact (wb3 lb).1
        · exact Or.inl z.1
    · have q' : (s_fits C j n b c).1 = false := by simpa using q
      have e := f2 q'
      rw [if_neg q, if_neg (fun z => e.2.2 (e.1.symm.trans z))]
      exact RS.f e
  · have k1' := wa2.resolve_left k1
    have lt := l2 k1
    rw [if_pos k1, if_neg k1, a3 k1']
    show RS j n (true, s_findS C j n (if C.2.1 19 j a.toNatClampNeg = 0 then c else b)) _
    have hv := a6 k1'
    rw [t0, holds_iff, show (s_low 0).toInt = 0 by decide, show (s_high 0).toInt = 1 by decide] at hv
    by_cases q : C.2.1 19 j a.toNatClampNeg = 0
    · rw [if_pos q] at lt ⊢
      rw [if_neg (by rw [q]; decide)]
      exact findS_sim h hc lt
    · rw [if_neg q] at lt ⊢
      have q1 : C.2.1 19 j a.toNatClampNeg = 1 := by
        rw [← Int64.toInt_inj, show (0 : Int64).toInt = 0 by decide] at q
        rw [← Int64.toInt_inj, show (1 : Int64).toInt = 1 by decide]
        omega
      rw [if_pos q1]
      exact findS_sim h hb lt
