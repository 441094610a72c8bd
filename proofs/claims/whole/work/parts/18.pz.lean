/-! want on both sides -/
theorem tyW_v {c : Int32} {x : Int64} : t_tyW c x = 500 ∨ VT (t_tyW c x) := by
  rw [tyW_eq]
  by_cases q1 : x < 1
  · rw [if_pos q1]
    exact Or.inl rfl
  · rw [if_neg q1]
    by_cases q2 : x ≤ 31
    · rw [if_pos q2]
      right
      rw [Int64.lt_iff_toInt_lt, show (1 : Int64).toInt = 1 by decide] at q1
      rw [Int64.le_iff_toInt_le, show (31 : Int64).toInt = 31 by decide] at q2
      have e : x.toInt32.toInt = x.toInt := by
        rw [Int64.toInt_toInt32]
        apply Int.bmod_eq_of_le <;> omega
      split
      · rcases neg_toInt (t := x.toInt32) with n | n
        · unfold VT
          omega
        · omega
      · unfold VT
        omega
    · rw [if_neg q2]
      exact Or.inl rfl
theorem ti_300 {R : mm_M} {i c : Int32} (h : okC c) : t_typeIn R i c = 300 ↔ c = 300 := by
  have v : ∀ {t : Int32}, t = 500 ∨ VT t → ¬ t = 300 := fun {t} hv z => by
    rw [z] at hv
    rcases hv with hv | hv
    · exact absurd hv (by decide)
    · exact absurd hv.2 (by decide)
  have w : ∀ {p : Prop} [Decidable p] {y : Int64}, ¬ (if p then t_tyW c y else 500) = 300 := fun {p} _ {y} => by
    split
    · exact v tyW_v
    · decide
  rcases h with h | h | h
  · have hc : ¬ c = 300 := fun z => by rw [z] at h; exact absurd h (by decide)
    refine ⟨fun z => absurd z ?_, fun z => absurd z hc⟩
    simp only [s_isByP, Bool.or_eq_true, decide_eq_true_eq] at h
    rcases h with ((rfl | rfl) | rfl) | rfl <;> exact w
  · unfold t_typeIn
    rw [if_pos h]
  · have hn : ¬ c < 100 := fun q => h (by
      rw [Int32.lt_iff_toInt_lt, show (100 : Int32).toInt = 100 by decide] at q
      rw [Int32.le_iff_toInt_le, show (299 : Int32).toInt = 299 by decide]
      omega)
    unfold t_typeIn
    rw [if_neg hn, if_pos h]
theorem isOf_eq {C R : mm_M} {m : Nat} {f : Int32} {v w v' w' : Int64} (h : SC C R) (hm : m < 20) (hc : nI m < C.1 12 0 2) (hv : C.1 8 0 f.toNatClampNeg = 300 → v' = v) (hw : C.1 9 0 f.toNatClampNeg = 300 → w' = w) : t_wm R f v' w' (t_cut R 8 f v') (t_cut R 9 f w') m = s_isOf C m f v w := by
  obtain ⟨f1, f2, f3, f4, f5, f6, f7, f8, f9, f10, f11, f12, f13, f14, -, -⟩ := (h.2.2.2.2 m hm hc).1
  unfold t_wm s_isOf t_same t_cut
  rw [h.1 8 (by decide), h.1 9 (by decide), f1, nI_clamp (by omega)]
  by_cases q : C.1 14 m 0 = f
  · subst q
    have A : (decide (R.1 42 0 m = (if C.1 8 0 (C.1 14 m 0).toNatClampNeg = 300 then v'.toInt32 else 0)) && decide (R.2.1 56 0 m = (if C.1 8 0 (C.1 14 m 0).toNatClampNeg = 300 then v' else 0))) = s_hasCount C m 0 v := by
      unfold s_hasCount
      rw [cl0]
      by_cases q1 : C.1 8 0 (C.1 14 m 0).toNatClampNeg = 300
      · rw [f13, f11, hv q1]
        simp only [q1, if_true, f6.mpr q1, decide_true, Bool.not_true, Bool.false_or]
        by_cases q2 : C.2.1 16 m 0 = v
        · simp [q2]
        · simp [q2]
      · have q1' : ¬ C.1 15 m 0 = 300 := fun z => q1 (f6.mp z)
        rw [f13, f11]
        simp [q1, q1']
    have B : (decide (R.1 43 0 m = (if C.1 9 0 (C.1 14 m 0).toNatClampNeg = 300 then w'.toInt32 else 0)) && decide (R.2.1 57 0 m = (if C.1 9 0 (C.1 14 m 0).toNatClampNeg = 300 then w' else 0))) = s_hasCount C m 1 w := by
      unfold s_hasCount
      rw [cl1]
      by_cases q1 : C.1 9 0 (C.1 14 m 0).toNatClampNeg = 300
      · rw [f14, f12, hw q1]
        simp only [q1, if_true, f7.mpr q1, decide_true, Bool.not_true, Bool.false_or]
        by_cases q2 : C.2.1 16 m 1 = w
        · simp [q2]
        · simp [q2]
      · have q1' : ¬ C.1 15 m 1 = 300 := fun z => q1 (f7.mp z)
        rw [f14, f12]
        simp [q1, q1']
    rw [← A, ← B]
    simp only [decide_true, Bool.true_and]
    cases decide (R.1 42 0 m = (if C.1 8 0 (C.1 14 m 0).toNatClampNeg = 300 then v'.toInt32 else 0)) <;> cases decide (R.1 43 0 m = (if C.1 9 0 (C.1 14 m 0).toNatClampNeg = 300 then w'.toInt32 else 0)) <;> simp
  · simp [q]
theorem search_eq {C R : mm_M} {c : Nat} {f i n : Int32} {v w v' w' : Int64} (h : SC C R) (ec : C.1 12 0 2 = nI c) (hc : c ≤ 20) (hv : C.1 8 0 f.toNatClampNeg = 300 → v' = v) (hw : C.1 9 0 f.toNatClampNeg = 300 → w' = w) : ∀ k, k ≤ c → (∃ m, m < c ∧ s_wantL C f v w c k = some m ∧ t_wantL R i n f v' w' (t_cut R 8 f v') (t_cut R 9 f w') c k = (nI m, R) ∧ C.1 14 m 0 = f) ∨ (s_wantL C f v w c k = none ∧ t_wantL R i n f v' w' (t_cut R 8 f v') (t_cut R 9 f w') c k = t_wantN R i n f v' w' (t_cut R 8 f v') (t_cut R 9 f w') c)
  | 0, _ => Or.inr ⟨rfl, rfl⟩
  | k + 1, hk => by
    have hm : nI (c - (k + 1)) < C.1 12 0 2 := by
      rw [ec]
      exact nI_lt (by omega) (by omega)
    have e := isOf_eq (f := f) (v := v) (w := w) (v' := v') (w' := w') h (show c - (k + 1) < 20 by omega) hm hv hw
    unfold s_wantL t_wantL
    rw [e]
    by_cases q : s_isOf C (c - (k + 1)) f v w = true
    · rw [if_pos q, if_pos q]
      refine Or.inl ⟨c - (k + 1), by omega, rfl, rfl, ?_⟩
      simp only [s_isOf, Bool.and_eq_true, decide_eq_true_eq] at q
      exact q.1.1
    · rw [if_neg q, if_neg q]
      exact search_eq h ec hc hv hw k (by omega)
/-- a new instance on the reference's side -/
theorem wantW_at {R : mm_M} {f : Int32} {v w : Int64} {v0 v1 : Int32} {c : Nat} : (t_wantW R f v w v0 v1 c).1 41 0 c = f ∧ (t_wantW R f v w v0 v1 c).1 42 0 c = v0 ∧ (t_wantW R f v w v0 v1 c).1 43 0 c = v1 ∧ (t_wantW R f v w v0 v1 c).2.1 56 0 c = (if R.1 8 0 f.toNatClampNeg = 300 then v else 0) ∧ (t_wantW R f v w v0 v1 c).2.1 57 0 c = (if R.1 9 0 f.toNatClampNeg = 300 then w else 0) ∧
    (∀ g, g < 41 ∨ 43 < g → (t_wantW R f v w v0 v1 c).1 g = R.1 g) ∧ (∀ g, ¬ g = 56 → ¬ g = 57 → (t_wantW R f v w v0 v1 c).2.1 g = R.2.1 g) ∧ (∀ g a, a ≠ c → (t_wantW R f v w v0 v1 c).1 g 0 a = R.1 g 0 a ∧ (t_wantW R f v w v0 v1 c).2.1 g 0 a = R.2.1 g 0 a) := by
  have I1 : (t_wantW R f v w v0 v1 c).1 = mm_u (mm_u (mm_u R.1 41 0 c f) 42 0 c v0) 43 0 c v1 := rfl
  have L1 : (t_wantW R f v w v0 v1 c).2.1 = mm_u (mm_u R.2.1 56 0 c (if R.1 8 0 f.toNatClampNeg = 300 then v else 0)) 57 0 c (if R.1 9 0 f.toNatClampNeg = 300 then w else 0) := rfl
  refine ⟨?_, ?_, ?_, ?_, ?_, fun g hg => ?_, fun g h1 h2 => ?_, fun g a ha => ⟨?_, ?_⟩⟩
  · rw [I1, mm_u_row' (by decide), mm_u_row' (by decide), mm_u_own, if_pos rfl]
  · rw [I1, mm_u_row' (by decide), mm_u_own, if_pos rfl]
  · rw [I1, mm_u_own, if_pos rfl]
  · rw [L1, mm_u_row' (by decide), mm_u_own, if_pos rfl]
  · rw [L1, mm_u_own, if_pos rfl]
  · rw [I1, mm_u_row' (by omega), mm_u_row' (by omega), mm_u_row' (by omega)]
  · rw [L1, mm_u_row' h2, mm_u_row' h1]
  · rw [I1, u3, if_neg (fun z => ha z.2.2), u3, if_neg (fun z => ha z.2.2), u3, if_neg (fun z => ha z.2.2)]
  · rw [L1, u3, if_neg (fun z => ha z.2.2), u3, if_neg (fun z => ha z.2.2)]
/-- instance a of the class is the same in both memories -/
theorem s_typeBy_row {C C' : mm_M} {a : Nat} (h15 : C'.1 15 a = C.1 15 a) (h16 : C'.2.1 16 a = C.2.1 16 a) (code : Int32) : s_typeBy C' a code = s_typeBy C a code := by
  unfold s_typeBy s_typeByK
  rw [h15, h16]
theorem sI_rows {M : mm_M} {x : Int32} : (∀ g, g ≠ 12 → (mm_sI M 12 0 2 x).1 g = M.1 g) ∧ (∀ k, (mm_sI M 12 0 2 x).1 12 0 k = if k = 2 then x else M.1 12 0 k) ∧ (mm_sI M 12 0 2 x).2 = M.2 := by
  refine ⟨fun g h => ?_, fun k => ?_, rfl⟩
  · show mm_u M.1 12 0 2 x g = _
    rw [mm_u_row' h]
  · show mm_u M.1 12 0 2 x 12 0 k = _
    rw [mm_u_own]
theorem wE_rows {M : mm_M} {c : Nat} : (∀ g, g ≠ 30 → (t_wantE c M).1 g = M.1 g) ∧ (∀ k, (t_wantE c M).1 30 0 k = if k = 3 then nI c + 1 else M.1 30 0 k) ∧ (t_wantE c M).2 = M.2 := by
  refine ⟨fun g h => ?_, fun k => ?_, rfl⟩
  · show mm_u M.1 30 0 3 (nI c + 1) g = _
    rw [mm_u_row' h]
  · show mm_u M.1 30 0 3 (nI c + 1) 30 0 k = _
    rw [mm_u_own]
theorem new_sim {C R : mm_M} {c : Nat} {f : Int32} {v w v' w' : Int64} (h : SC C R) (hp : IP C) (ec : C.1 12 0 2 = nI c) (hc : c < 20) (hf : s_hasFun C f = true) (hv : C.1 8 0 f.toNatClampNeg = 300 → v' = v ∧ sm v) (hw : C.1 9 0 f.toNatClampNeg = 300 → w' = w ∧ sm w) :
    (s_beg C c f v w = true → (∀ i n, t_wantB (t_wantW R f v' w' (t_cut R 8 f v') (t_cut R 9 f w') c) i n f c = (nI c, t_wantE c (t_clr c 60 (t_wantW R f v' w' (t_cut R 8 f v') (t_cut R 9 f w') c)))) ∧ SC (mm_sI (s_begM C c f v w) 12 0 2 (nI c + 1)) (t_wantE c (t_clr c 60 (t_wantW R f v' w' (t_cut R 8 f v') (t_cut R 9 f w') c)))) ∧
    (s_beg C c f v w = false → ∀ i n, t_wantB (t_wantW R f v' w' (t_cut R 8 f v') (t_cut R 9 f w') c) i n f c = (-1, t_fail (t_wantW R f v' w' (t_cut R 8 f v') (t_cut R 9 f w') c) (-4) (if n = 63 then nI c else i) n)) ∧
    (∀ g, g < 14 → (s_begM C c f v w).1 g = C.1 g) ∧ (∀ g a, a ≠ c → (s_begM C c f v w).1 g a = C.1 g a ∧ (s_begM C c f v w).2.1 g a = C.2.1 g a) ∧ (s_begM C c f v w).1 14 c 0 = f := by
  obtain ⟨y1, y2, y3, y4, y5, y6, y7, y8⟩ := wantW_at (R := R) (f := f) (v := v') (w := w') (v0 := t_cut R 8 f v') (v1 := t_cut R 9 f w') (c := c)
  obtain ⟨-, k8, k9, k10⟩ := hp.2.2.2 f hf
  have e8 := h.1 8 (by decide)
  have e9 := h.1 9 (by decide)
  have e10 := h.1 10 (by decide)
  have cc : (nI c).toNatClampNeg = c := nI_clamp (by omega)
  generalize hR : t_wantW R f v' w' (t_cut R 8 f v') (t_cut R 9 f w') c = R1 at *
  have z8 : R1.1 8 = C.1 8 := (y6 8 (by decide)).trans e8
  have z9 : R1.1 9 = C.1 9 := (y6 9 (by decide)).trans e9
  have z10 : R1.1 10 = C.1 10 := (y6 10 (by decide)).trans e10
  have hty : ∀ X : mm_M, (X.1 15 c 0 = 300 ↔ C.1 8 0 f.toNatClampNeg = 300) → (X.1 15 c 1 = 300 ↔ C.1 9 0 f.toNatClampNeg = 300) → X.2.1 16 c 0 = v → X.2.1 16 c 1 = w → ∀ code, okC code → s_typeBy X c code = t_typeIn R1 (nI c) code := fun X x0 x1 l0 l1 code hcode => by
    refine (typeIn_eq hcode ?_ ?_ ?_ ?_).symm <;> rw [cc]
    · rw [y1, z8]
      exact x0
    · rw [y1, z9]
      exact x1
    · intro z
      rw [y4, e8, if_pos (x0.mp z), l0]
      exact (hv (x0.mp z)).1
    · intro z
      rw [y5, e9, if_pos (x1.mp z), l1]
      exact (hw (x1.mp z)).1
  obtain ⟨b1, b2, b3, b4, b5, b6, b7, b8, b9, b10⟩ := beg_at (v := v) (w := w) (t_typeIn R1 (nI c)) hty k8 k9 k10 (ti_300 (okC_par k8)) (ti_300 (okC_par k9))
  have hB : ∀ i n, t_wantB R1 i n f c = if s_beg C c f v w = true then (nI c, t_wantE c (t_clr c 60 R1)) else (-1, t_fail R1 (-4) (if n = 63 then nI c else i) n) := fun i n => by
    unfold t_wantB s_beg
    rw [z8, z9, z10, b3, b4, b5]
    by_cases q1 : t_typeIn R1 (nI c) (C.1 8 0 f.toNatClampNeg) = 500
    · simp [q1]
    · by_cases q2 : t_typeIn R1 (nI c) (C.1 9 0 f.toNatClampNeg) = 500
      · simp [q1, q2]
      · by_cases q3 : t_typeIn R1 (nI c) (C.1 10 0 f.toNatClampNeg) = 500
        · simp [q1, q2, q3]
        · simp [q1, q2, q3]
  refine ⟨fun hb => ⟨fun i n => by rw [hB, if_pos hb], ?_⟩, fun hb i n => by rw [hB, if_neg (by rw [hb]; decide)], b1, b9, b2⟩
  obtain ⟨h1, h2, h3, h4, h5⟩ := h
  have R2i : ∀ g, g ≠ 30 → g ≠ 44 → (t_wantE c (t_clr c 60 R1)).1 g = R1.1 g := fun g n1 n2 => by
    rw [wE_rows.1 g n1, (clr_keep 60 R1).2 g n2]
  have R2l : (t_wantE c (t_clr c 60 R1)).2 = R1.2 := wE_rows.2.2.trans (clr_keep 60 R1).1
  have R44 : ∀ a, (t_wantE c (t_clr c 60 R1)).1 44 0 a = if 60 * c ≤ a ∧ a < 60 * c + 60 then 0 else R.1 44 0 a := fun a => by
    rw [wE_rows.1 44 (by decide), t_clr_at hc 60 R1 (Nat.le_refl _), y6 44 (by decide), show 60 * c + (60 - 60) = 60 * c by omega]
  have R30 : ∀ k, (t_wantE c (t_clr c 60 R1)).1 30 0 k = if k = 3 then nI c + 1 else R.1 30 0 k := fun k => by
    rw [wE_rows.2.1, (clr_keep 60 R1).2 30 (by decide), y6 30 (by decide)]
  have C2i : ∀ g, g ≠ 12 → (mm_sI (s_begM C c f v w) 12 0 2 (nI c + 1)).1 g = (s_begM C c f v w).1 g := sI_rows.1
  have C12 : ∀ k, (mm_sI (s_begM C c f v w) 12 0 2 (nI c + 1)).1 12 0 k = if k = 2 then nI c + 1 else C.1 12 0 k := fun k => by
    rw [sI_rows.2.1, b1 12 (by decide)]
  have C2l : (mm_sI (s_begM C c f v w) 12 0 2 (nI c + 1)).2 = (s_begM C c f v w).2 := sI_rows.2.2
  generalize mm_sI (s_begM C c f v w) 12 0 2 (nI c + 1) = C2 at *
  generalize t_wantE c (t_clr c 60 R1) = R2 at *
  refine ⟨fun g hg => ?_, ?_, ?_, ?_, fun j hj hjc => ?_⟩
  · rw [R2i g (by omega) (by omega), y6 g (by omega), C2i g (by omega), b1 g (by omega)]
    exact h1 g hg
  · rw [R30, C12, if_pos rfl, if_pos rfl]
  · rw [R30, C12, if_neg (by decide), if_neg (by decide)]
    exact h3
  · rw [R30, C12, if_neg (by decide), if_neg (by decide)]
    exact h4
  · rw [C12, if_pos rfl, nI_1] at hjc
    have hle : j < c + 1 := Nat.not_le.mp fun z => absurd hjc (nI_nlt z (by omega))
    by_cases q : j = c
    · subst q
      have c8 : C2.1 8 = C.1 8 := by rw [C2i 8 (by decide), b1 8 (by decide)]
      have c9 : C2.1 9 = C.1 9 := by rw [C2i 9 (by decide), b1 9 (by decide)]
      have c10 : C2.1 10 = C.1 10 := by rw [C2i 10 (by decide), b1 10 (by decide)]
      have c7 : C2.1 7 = C.1 7 := by rw [C2i 7 (by decide), b1 7 (by decide)]
      have d0 : C2.1 14 j 0 = f := by rw [C2i 14 (by decide), b2]
      have d1 : C2.1 14 j 1 = t_typeIn R1 (nI j) (C.1 10 0 f.toNatClampNeg) := by rw [C2i 14 (by decide), b3]
      have d2 : C2.1 15 j 0 = t_typeIn R1 (nI j) (C.1 8 0 f.toNatClampNeg) := by rw [C2i 15 (by decide), b4]
      have d3 : C2.1 15 j 1 = t_typeIn R1 (nI j) (C.1 9 0 f.toNatClampNeg) := by rw [C2i 15 (by decide), b5]
      have l0 : C2.2.1 16 j 0 = v := by rw [C2l, b6]
      have l1 : C2.2.1 16 j 1 = w := by rw [C2l, b7]
      have i8 : C2.1 15 j 0 = 300 ↔ C.1 8 0 f.toNatClampNeg = 300 := by rw [d2]; exact ti_300 (okC_par k8)
      have i9 : C2.1 15 j 1 = 300 ↔ C.1 9 0 f.toNatClampNeg = 300 := by rw [d3]; exact ti_300 (okC_par k9)
      have ty2 := hty C2 i8 i9 l0 l1
      simp only [s_beg, Bool.and_eq_true, Bool.not_eq_true', decide_eq_false_iff_not] at hb
      rw [b3, b4, b5] at hb
      have hf2 : s_hasFun C2 f = true := by
        unfold s_hasFun at hf ⊢
        rw [c7]
        exact hf
      refine ⟨?_, fun k hk => ?_⟩
      · unfold SF
        rw [d0, c8, c9, c10, ty2 _ (okC_par k8), ty2 _ (okC_par k9), ty2 _ (okC_res k10), l0, l1, i8, i9]
        refine ⟨by rw [R2i 41 (by decide) (by decide), y1], hf2, d2, d3, d1, Iff.rfl, Iff.rfl, by rw [d2]; exact hb.1.1, by rw [d3]; exact hb.1.2, by rw [d1]; exact hb.2, ?_, ?_, ?_, ?_, fun z => (hv z).2, fun z => (hw z).2⟩
        · rw [R2l, y4, e8]
          by_cases q1 : C.1 8 0 f.toNatClampNeg = 300
          · rw [if_pos q1, if_pos q1, (hv q1).1]
          · rw [if_neg q1, if_neg q1]
        · rw [R2l, y5, e9]
          by_cases q1 : C.1 9 0 f.toNatClampNeg = 300
          · rw [if_pos q1, if_pos q1, (hw q1).1]
          · rw [if_neg q1, if_neg q1]
        · rw [R2i 42 (by decide) (by decide), y2]
          unfold t_cut
          rw [e8]
          by_cases q1 : C.1 8 0 f.toNatClampNeg = 300
          · rw [if_pos q1, if_pos q1, (hv q1).1]
          · rw [if_neg q1, if_neg q1]
        · rw [R2i 43 (by decide) (by decide), y3]
          unfold t_cut
          rw [e9]
          by_cases q1 : C.1 9 0 f.toNatClampNeg = 300
          · rw [if_pos q1, if_pos q1, (hw q1).1]
          · rw [if_neg q1, if_neg q1]
      · obtain ⟨u1, u2⟩ := b8 k hk
        have v1 : C2.1 17 j k = 400 := by rw [C2i 17 (by decide), u1]
        have v2 : C2.1 18 j k = 0 := by rw [C2i 18 (by decide), u2]
        unfold SN WN
        rw [v1, v2, R44, if_pos ⟨by omega, by omega⟩]
        exact ⟨⟨⟨fun _ => rfl, fun _ => rfl⟩, fun z => absurd rfl z⟩, fun _ => rfl, Or.inl rfl, fun z => absurd rfl z⟩
    · have hj' : nI j < C.1 12 0 2 := by
        rw [ec]
        exact nI_lt (by omega) (by omega)
      obtain ⟨g1, g2⟩ := h5 j hj hj'
      have row : ∀ g, g ≠ 12 → C2.1 g j = C.1 g j := fun g hg => by rw [C2i g hg, (b9 g j q).1]
      have rowl : ∀ g, C2.2.1 g j = C.2.1 g j := fun g => by rw [C2l, (b9 g j q).2]
      have c8 : C2.1 8 = C.1 8 := by rw [C2i 8 (by decide), b1 8 (by decide)]
      have c9 : C2.1 9 = C.1 9 := by rw [C2i 9 (by decide), b1 9 (by decide)]
      have c10 : C2.1 10 = C.1 10 := by rw [C2i 10 (by decide), b1 10 (by decide)]
      have c7 : C2.1 7 = C.1 7 := by rw [C2i 7 (by decide), b1 7 (by decide)]
      have hf2 : ∀ x, s_hasFun C2 x = s_hasFun C x := fun x => by
        unfold s_hasFun
        rw [c7]
      have ty2 := s_typeBy_row (row 15 (by decide)) (rowl 16)
      refine ⟨?_, fun k hk => ?_⟩
      · unfold SF at g1 ⊢
        rw [row 14 (by decide), row 15 (by decide), rowl 16, c8, c9, c10, hf2, ty2, ty2, ty2, R2i 41 (by decide) (by decide), R2i 42 (by decide) (by decide), R2i 43 (by decide) (by decide), R2l, (y8 41 j q).1, (y8 42 j q).1, (y8 43 j q).1, (y8 56 j q).2, (y8 57 j q).2]
        exact g1
      · obtain ⟨g3, g4⟩ := g2 k hk
        unfold SN WN at *
        rw [row 17 (by decide), row 18 (by decide), rowl 19, R44, if_neg (by omega), R2i 45 (by decide) (by decide), R2i 46 (by decide) (by decide), R2l, y6 45 (by decide), y6 46 (by decide), y7 48 (by decide) (by decide)]
        exact ⟨g3, g4⟩
