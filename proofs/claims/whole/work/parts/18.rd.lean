/-! define keeps what stands -/
theorem def_rows {M : mm_M} {f p q r b : Int32} {F : Nat} (eF : f.toNatClampNeg = F) (M2 : mm_M) (e2 : M2 = t_defM (s_addFunM M f p q r b) f p q r b) :
    M2.2 = M.2 ∧ (∀ g, g ≠ 1 → g < 7 ∨ (12 ≤ g ∧ g < 36) ∨ 41 ≤ g → M2.1 g = M.1 g) ∧ (∀ x, M2.1 1 0 x = if x = 11 then M.1 1 0 11 + 1 else M.1 1 0 x) ∧
    (∀ x, M2.1 7 0 x = if x = F then 1 else M.1 7 0 x) ∧ (∀ x, M2.1 8 0 x = if x = F then p else M.1 8 0 x) ∧ (∀ x, M2.1 9 0 x = if x = F then q else M.1 9 0 x) ∧ (∀ x, M2.1 10 0 x = if x = F then r else M.1 10 0 x) ∧ (∀ x, M2.1 11 0 x = if x = F then b else M.1 11 0 x) ∧
    (∀ x, M2.1 36 0 x = if x = F then 1 else M.1 36 0 x) ∧ (∀ x, M2.1 37 0 x = if x = F then p else M.1 37 0 x) ∧ (∀ x, M2.1 38 0 x = if x = F then q else M.1 38 0 x) ∧ (∀ x, M2.1 39 0 x = if x = F then r else M.1 39 0 x) ∧ (∀ x, M2.1 40 0 x = if x = F then b else M.1 40 0 x) := by
  have E1 : (s_addFunM M f p q r b).1 = mm_u (mm_u (mm_u (mm_u (mm_u (mm_u M.1 7 0 F 1) 8 0 F p) 9 0 F q) 10 0 F r) 11 0 F b) 1 0 11 (M.1 1 0 11 + 1) := by
    unfold s_addFunM
    rw [eF]
    rfl
  have L1 : (s_addFunM M f p q r b).2 = M.2 := rfl
  generalize s_addFunM M f p q r b = M1 at *
  have E2 : M2.1 = mm_u (mm_u (mm_u (mm_u (mm_u M1.1 36 0 F 1) 37 0 F p) 38 0 F q) 39 0 F r) 40 0 F b := by
    rw [e2]
    unfold t_defM
    rw [eF]
    rfl
  have L2 : M2.2 = M.2 := by
    rw [e2]
    exact L1
  have low : ∀ g, g < 36 → M2.1 g = M1.1 g := fun g hg => by rw [E2, mm_u_row' (by omega), mm_u_row' (by omega), mm_u_row' (by omega), mm_u_row' (by omega), mm_u_row' (by omega)]
  have high : ∀ g, 12 ≤ g → M1.1 g = M.1 g := fun g hg => by rw [E1, mm_u_row' (by omega), mm_u_row' (by omega), mm_u_row' (by omega), mm_u_row' (by omega), mm_u_row' (by omega), mm_u_row' (by omega)]
  refine ⟨L2, fun g h1 h2 => ?_, fun x => ?_, fun x => ?_, fun x => ?_, fun x => ?_, fun x => ?_, fun x => ?_, fun x => ?_, fun x => ?_, fun x => ?_, fun x => ?_, fun x => ?_⟩
  · rw [E2, mm_u_row' (by omega), mm_u_row' (by omega), mm_u_row' (by omega), mm_u_row' (by omega), mm_u_row' (by omega), E1, mm_u_row' (by omega), mm_u_row' (by omega), mm_u_row' (by omega), mm_u_row' (by omega), mm_u_row' (by omega), mm_u_row' (by omega)]
  · rw [low 1 (by decide), E1, mm_u_own, mm_u_row' (by decide), mm_u_row' (by decide), mm_u_row' (by decide), mm_u_row' (by decide), mm_u_row' (by decide)]
  · rw [low 7 (by decide), E1, mm_u_row' (by decide), mm_u_row' (by decide), mm_u_row' (by decide), mm_u_row' (by decide), mm_u_row' (by decide), mm_u_own]
  · rw [low 8 (by decide), E1, mm_u_row' (by decide), mm_u_row' (by decide), mm_u_row' (by decide), mm_u_row' (by decide), mm_u_own, mm_u_row' (by decide)]
  · rw [low 9 (by decide), E1, mm_u_row' (by decide), mm_u_row' (by decide), mm_u_row' (by decide), mm_u_own, mm_u_row' (by decide), mm_u_row' (by decide)]
  · rw [low 10 (by decide), E1, mm_u_row' (by decide), mm_u_row' (by decide), mm_u_own, mm_u_row' (by decide), mm_u_row' (by decide), mm_u_row' (by decide)]
  · rw [low 11 (by decide), E1, mm_u_row' (by decide), mm_u_own, mm_u_row' (by decide), mm_u_row' (by decide), mm_u_row' (by decide), mm_u_row' (by decide)]
  · rw [E2, mm_u_row' (by decide), mm_u_row' (by decide), mm_u_row' (by decide), mm_u_row' (by decide), mm_u_own, high 36 (by decide)]
  · rw [E2, mm_u_row' (by decide), mm_u_row' (by decide), mm_u_row' (by decide), mm_u_own, mm_u_row' (by decide), high 37 (by decide)]
  · rw [E2, mm_u_row' (by decide), mm_u_row' (by decide), mm_u_own, mm_u_row' (by decide), mm_u_row' (by decide), high 38 (by decide)]
  · rw [E2, mm_u_row' (by decide), mm_u_own, mm_u_row' (by decide), mm_u_row' (by decide), mm_u_row' (by decide), high 39 (by decide)]
  · rw [E2, mm_u_own, mm_u_row' (by decide), mm_u_row' (by decide), mm_u_row' (by decide), mm_u_row' (by decide), high 40 (by decide)]
theorem hasFun_iff {C : mm_M} {f : Int32} : s_hasFun C f = true ↔ vp_in f 8 ∧ ¬ C.1 7 0 f.toNatClampNeg = 0 := by
  unfold s_hasFun
  rw [vp_in_iff]
  simp only [Bool.and_eq_true, Bool.not_eq_true', decide_eq_false_iff_not, Int32.lt_iff_toInt_lt, Int32.le_iff_toInt_le, Int32.toInt_zero, show (8 : Int32).toInt = 8 by decide]
  constructor
  · rintro ⟨⟨h1, h2⟩, h3⟩
    exact ⟨⟨by omega, by omega⟩, h3⟩
  · rintro ⟨⟨h1, h2⟩, h3⟩
    exact ⟨⟨by omega, by omega⟩, h3⟩
/-- one more is counted -/
theorem cf_add {M : mm_M} : ∀ (r : Nat) (x : Int32), t_cf M r (x + 1) = t_cf M r x + 1
  | 0, _ => rfl
  | r + 1, x => by
    unfold t_cf
    split
    · exact cf_add r x
    · exact cf_add r (x + 1)
theorem cf_low {M M' : mm_M} : ∀ (r : Nat) (x : Int32), (∀ y, 8 - r ≤ y → y < 8 → M'.1 36 0 y = M.1 36 0 y) → t_cf M' r x = t_cf M r x
  | 0, _, _ => rfl
  | r + 1, x, h => by
    unfold t_cf
    by_cases q : r < 8
    · rw [h (8 - (r + 1)) (by omega) (by omega)]
      exact cf_low r _ fun y h1 h2 => h y (by omega) h2
    · have e1 : 8 - (r + 1) = 0 := by omega
      rw [h (8 - (r + 1)) (by omega) (by omega)]
      exact cf_low r _ fun y h1 h2 => h y (by omega) h2
theorem cf_one {M M' : mm_M} {F : Nat} (hF : F < 8) (h0 : M.1 36 0 F = 0) (h1 : ∀ x, M'.1 36 0 x = if x = F then 1 else M.1 36 0 x) : ∀ (r : Nat) (x : Int32), r ≤ 8 → 8 - r ≤ F → t_cf M' r x = t_cf M r x + 1
  | 0, x, _, h => absurd h (by omega)
  | r + 1, x, hr, h => by
    unfold t_cf
    by_cases e : 8 - (r + 1) = F
    · rw [e, h0, h1, if_pos rfl, if_neg (by decide), if_pos rfl]
      rw [cf_low (M := M) (M' := M') r (x + 1) fun y y1 y2 => by rw [h1, if_neg (by omega)]]
      exact cf_add r x
    · rw [h1, if_neg e]
      exact cf_one hF h0 h1 r _ (by omega) (by omega)
theorem def_add {M : mm_M} {f p q r b : Int32} (h : INV M) (h8 : vp_in f 8) (h0 : M.1 7 0 f.toNatClampNeg = 0) (hb : s_hasNode M b = true) (hp1 : s_isPar p = true) (hq1 : s_isPar q = true) (hr1 : s_isRes r = true) : INV (t_defM (s_addFunM M f p q r b) f p q r b) := by
  obtain ⟨hgd, hp, hi, hsp, hS, hB, hc, hf⟩ := h
  obtain ⟨F, eF⟩ : ∃ F, f.toNatClampNeg = F := ⟨_, rfl⟩
  have hF : F < 8 := by
    rw [← eF]
    exact (clamp_i h8).2
  obtain ⟨r2, rO, q1, q7, q8, q9, q10, q11, q36, q37, q38, q39, q40⟩ := def_rows (M := M) (p := p) (q := q) (r := r) (b := b) eF _ rfl
  generalize t_defM (s_addFunM M f p q r b) f p q r b = M2 at *
  rw [eF] at h0
  have e10 : M2.1 1 0 10 = M.1 1 0 10 := by rw [q1, if_neg (by decide)]
  have hn : ∀ n, s_hasNode M2 n = s_hasNode M n := fun n => by
    unfold s_hasNode
    rw [e10]
  have lvE : ∀ n, lv M2 n = lv M n := fun n => by
    unfold lv
    rw [rO 6 (by decide) (by decide)]
  -- functions that were there
  have old : ∀ g, s_hasFun M g = true → ¬ g.toNatClampNeg = F ∧ s_hasFun M2 g = true := fun g z => by
    obtain ⟨g1, g2⟩ := hasFun_iff.mp z
    have ne : ¬ g.toNatClampNeg = F := fun y => g2 (by rw [y]; exact h0)
    exact ⟨ne, hasFun_iff.mpr ⟨g1, by rw [q7, if_neg ne]; exact g2⟩⟩
  refine ⟨by rw [r2]; exact hgd, ⟨by rw [e10]; exact hp.1, by rw [e10]; exact hp.2.1, fun n z => ?_, fun g z => ?_⟩, ?_, ⟨?_, ?_, ?_, ?_, ?_, ?_, ?_, ?_, ?_, ?_, ?_⟩, ?_, ⟨fun j hj hjc x hx hl => ?_, fun j hj hjc => ?_⟩, ?_, ?_⟩
  · rw [hn] at z
    show NDp M2 (lv M2 n) (M2.1 2 0 n.toNatClampNeg) (M2.1 3 0 n.toNatClampNeg) (M2.1 4 0 n.toNatClampNeg) (M2.1 5 0 n.toNatClampNeg)
    rw [lvE, rO 2 (by decide) (by decide), rO 3 (by decide) (by decide), rO 4 (by decide) (by decide), rO 5 (by decide) (by decide)]
    exact (hp.nd z).mono fun x y => ⟨by rw [hn]; exact y, lvE x⟩
  · rw [hn, q8, q9, q10, q11]
    by_cases e : g.toNatClampNeg = F
    · rw [if_pos e, if_pos e, if_pos e, if_pos e]
      exact ⟨hb, hp1, hq1, hr1⟩
    · rw [if_neg e, if_neg e, if_neg e, if_neg e]
      obtain ⟨g1, g2⟩ := hasFun_iff.mp z
      rw [q7, if_neg e] at g2
      exact hp.2.2.2 g (hasFun_iff.mpr ⟨g1, g2⟩)
  · obtain ⟨c, c1, c2, c3⟩ := hi
    refine ⟨c, c1, by rw [rO 12 (by decide) (by decide)]; exact c2, fun j hj => ?_⟩
    rw [rO 14 (by decide) (by decide)]
    exact (old _ (c3 j hj)).2
  · rw [rO 30 (by decide) (by decide), e10]
    exact hsp.1
  · rw [rO 31 (by decide) (by decide), rO 2 (by decide) (by decide)]
    exact hsp.2.1
  · rw [rO 32 (by decide) (by decide), rO 3 (by decide) (by decide)]
    exact hsp.2.2.1
  · rw [rO 33 (by decide) (by decide), rO 4 (by decide) (by decide)]
    exact hsp.2.2.2.1
  · rw [rO 34 (by decide) (by decide), rO 5 (by decide) (by decide)]
    exact hsp.2.2.2.2.1
  · rw [rO 35 (by decide) (by decide), rO 6 (by decide) (by decide)]
    exact hsp.2.2.2.2.2.1
  · funext x
    rw [q36, q7, hsp.2.2.2.2.2.2.1]
  · funext x
    rw [q37, q8, hsp.2.2.2.2.2.2.2.1]
  · funext x
    rw [q38, q9, hsp.2.2.2.2.2.2.2.2.1]
  · funext x
    rw [q39, q10, hsp.2.2.2.2.2.2.2.2.2.1]
  · funext x
    rw [q40, q11, hsp.2.2.2.2.2.2.2.2.2.2]
  · obtain ⟨-, s2, s3, s4, s5⟩ := hS
    have c12 := rO 12 (by decide) (by decide)
    have c30 := rO 30 (by decide) (by decide)
    refine ⟨fun _ _ => rfl, by rw [c12, c30]; exact s2, by rw [c12, c30]; exact s3, by rw [c12, c30]; exact s4, fun j hj hjc => ?_⟩
    rw [c12] at hjc
    obtain ⟨g1, g2⟩ := s5 j hj hjc
    refine ⟨?_, fun k hk => ?_⟩
    · have ho := old _ g1.2.1
      unfold SF at g1 ⊢
      have ht : ∀ c, s_typeBy M2 j c = s_typeBy M j c := fun c => by
        unfold s_typeBy s_typeByK
        rw [rO 15 (by decide) (by decide), r2]
      simp only [ht, rO 14 (by decide) (by decide), rO 15 (by decide) (by decide), rO 41 (by decide) (by decide), rO 42 (by decide) (by decide), rO 43 (by decide) (by decide), r2, q8, q9, q10, if_neg ho.1, ho.2]
      exact ⟨g1.1, trivial, g1.2.2⟩
    · unfold SN WN
      rw [rO 17 (by decide) (by decide), rO 18 (by decide) (by decide), rO 44 (by decide) (by decide), rO 45 (by decide) (by decide), rO 46 (by decide) (by decide), r2]
      exact g2 k hk
  · rw [rO 12 (by decide) (by decide)] at hjc
    rw [rO 17 (by decide) (by decide)] at hl
    rw [rO 18 (by decide) (by decide), hn]
    obtain ⟨b1, b2⟩ := hB.1 j hj hjc x hx hl
    refine ⟨b1, fun y => ?_⟩
    refine (b2 y).cong (fun g g1 g2 => by rw [rO g (by omega) (by omega)]) (fun g x1 x2 => rO g (by omega) (by omega)) (fun g _ => by rw [r2]) (rO 47 (by decide) (by decide)) (fun nn => ?_)
    obtain ⟨m, m1, m2, m3, m4, m5, -⟩ := nn
    have hm := (hS.2.2.2.2 m m1 m2).1.2.1
    rw [m5] at hm
    rw [q8, q9, if_neg (old _ hm).1, if_neg (old _ hm).1]
    exact ⟨rfl, rfl⟩
  · rw [rO 12 (by decide) (by decide)] at hjc
    have hm := (hS.2.2.2.2 j hj hjc).1.2.1
    have := hB.2 j hj hjc
    unfold PB PS LPc at *
    rw [rO 14 (by decide) (by decide), q11, if_neg (old _ hm).1, rO 17 (by decide) (by decide), r2]
    exact this
  · rw [rO 30 (by decide) (by decide), rO 21 (by decide) (by decide)]
    exact hc
  · rw [q1, if_pos rfl, hf]
    exact (cf_one (M := M) (M' := M2) hF (by rw [hsp.2.2.2.2.2.2.1]; exact h0) q36 8 0 (by decide) (by omega)).symm
theorem def_inv {M : mm_M} {f p q r b : Int32} (h : INV M) : (s_addFun M f p q r b).1 = (t_def (s_addFun M f p q r b).2 f p q r b).1 ∧ INV (t_def (s_addFun M f p q r b).2 f p q r b).2 ∧ (s_addFun M f p q r b).2.2.2 = mm_gd := by
  have hp := h.2.1
  have hsp := h.2.2.2.1
  have e7 : (7 : Int32) < f ↔ 8 ≤ f := by
    rw [Int32.lt_iff_toInt_lt, Int32.le_iff_toInt_le, show (7 : Int32).toInt = 7 by decide, show (8 : Int32).toInt = 8 by decide]
    omega
  by_cases acc : ¬ f < 0 ∧ ¬ 8 ≤ f ∧ M.1 7 0 f.toNatClampNeg = 0 ∧ s_hasNode M b = true ∧ s_isPar p = true ∧ s_isPar q = true ∧ s_isRes r = true
  · obtain ⟨a1, a2, a3, a4, a5, a6, a7⟩ := acc
    have f8 : vp_in f 8 := by
      rw [vp_in_iff]
      rw [Int32.lt_iff_toInt_lt, Int32.toInt_zero] at a1
      rw [Int32.le_iff_toInt_le, show (8 : Int32).toInt = 8 by decide] at a2
      exact ⟨by omega, by omega⟩
    have inv := def_add h f8 a3 a4 a5 a6 a7
    have e1 : s_addFun M f p q r b = (0, s_addFunM M f p q r b) := by
      unfold s_addFun
      rw [if_neg a1, if_neg a2, if_neg (fun z => z a3), if_neg (by rw [a4]; decide), if_neg (by rw [a5]; decide), if_neg (by rw [a6]; decide), if_neg (by rw [a7]; decide)]
    have E1 : ∀ g, 12 ≤ g → (s_addFunM M f p q r b).1 g = M.1 g := fun g hg => by
      unfold s_addFunM
      show mm_u (mm_u (mm_u (mm_u (mm_u (mm_u M.1 7 0 _ 1) 8 0 _ p) 9 0 _ q) 10 0 _ r) 11 0 _ b) 1 0 11 _ g = _
      rw [mm_u_row' (by omega), mm_u_row' (by omega), mm_u_row' (by omega), mm_u_row' (by omega), mm_u_row' (by omega), mm_u_row' (by omega)]
    have L1 : (s_addFunM M f p q r b).2.2 = M.2.2 := rfl
    rw [e1]
    show 0 = (t_def (s_addFunM M f p q r b) f p q r b).1 ∧ INV (t_def (s_addFunM M f p q r b) f p q r b).2 ∧ (s_addFunM M f p q r b).2.2 = mm_gd
    generalize s_addFunM M f p q r b = M1 at *
    have res := isRes_eq.mpr a7
    have e2 : t_def M1 f p q r b = (0, t_defM M1 f p q r b) := by
      unfold t_def
      rw [if_neg a1, if_neg (fun z => a2 (e7.mp z)), E1 36 (by decide), hsp.2.2.2.2.2.2.1, if_neg (fun z => z a3), isCode_eq, isCode_eq, if_neg (by rw [a5]; decide), if_neg (by rw [a6]; decide), if_neg (by rw [res.1]; decide), if_neg res.2, isNode_eq (C := M) (by rw [E1 30 (by decide)]; exact hsp.1), if_neg (by rw [a4]; decide)]
    rw [e2]
    exact ⟨rfl, inv, L1.trans h.1⟩
  · have e1 : s_addFun M f p q r b = (-1, M) := by
      unfold s_addFun
      repeat' split
      all_goals first | rfl | (exfalso; apply acc; simp_all)
    have e2 : t_def M f p q r b = (-1, M) := by
      unfold t_def
      rw [isNode_eq (C := M) hsp.1, hsp.2.2.2.2.2.2.1]
      by_cases q1 : f < 0
      · rw [if_pos q1]
      rw [if_neg q1]
      by_cases q2 : 7 < f
      · rw [if_pos q2]
      rw [if_neg q2]
      by_cases q3 : ¬ M.1 7 0 f.toNatClampNeg = 0
      · rw [if_pos q3]
      rw [if_neg q3, isCode_eq, isCode_eq]
      by_cases q4 : s_isPar p = false
      · rw [if_pos q4]
      rw [if_neg q4]
      by_cases q5 : s_isPar q = false
      · rw [if_pos q5]
      rw [if_neg q5]
      by_cases q6 : t_isCode r = false
      · rw [if_pos q6]
      rw [if_neg q6]
      have q3 := Classical.not_not.mp q3
      have q4 : s_isPar p = true := by simpa using q4
      have q5 : s_isPar q = true := by simpa using q5
      have q6 : t_isCode r = true := by simpa using q6
      by_cases q7 : 299 < r
      · rw [if_pos q7]
      rw [if_neg q7]
      by_cases q8 : s_hasNode M b = true
      · exact absurd ⟨q1, fun z => q2 (e7.mpr z), q3, q8, q4, q5, isRes_eq.mp ⟨q6, q7⟩⟩ acc
      · rw [if_pos (by simpa using q8)]
    rw [e1]
    show -1 = (t_def M f p q r b).1 ∧ INV (t_def M f p q r b).2 ∧ M.2.2 = mm_gd
    rw [e2]
    exact ⟨rfl, h, h.1⟩
