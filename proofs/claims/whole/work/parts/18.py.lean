/-! instances are wanted on both sides -/
theorem s_clr_at {i : Nat} : ∀ (k : Nat) (M : mm_M), k ≤ 60 → (∀ a b, (s_clr i k M).1 17 a b = if a = i ∧ 60 - k ≤ b ∧ b < 60 then 400 else M.1 17 a b) ∧ (∀ a b, (s_clr i k M).1 18 a b = if a = i ∧ 60 - k ≤ b ∧ b < 60 then 0 else M.1 18 a b) ∧ (∀ f, f ≠ 17 → f ≠ 18 → (s_clr i k M).1 f = M.1 f) ∧ (s_clr i k M).2 = M.2
  | 0, M, _ => by
    refine ⟨fun a b => ?_, fun a b => ?_, fun f _ _ => rfl, rfl⟩
    · rw [if_neg (by omega)]
      rfl
    · rw [if_neg (by omega)]
      rfl
  | k + 1, M, hk => by
    obtain ⟨h1, h2, h3, h4⟩ := s_clr_at (i := i) k (mm_sI (mm_sI M 17 i (60 - (k + 1)) 400) 18 i (60 - (k + 1)) 0) (by omega)
    refine ⟨fun a b => ?_, fun a b => ?_, fun f n1 n2 => ?_, h4⟩
    · refine (h1 a b).trans ?_
      have e : (mm_sI (mm_sI M 17 i (60 - (k + 1)) 400) 18 i (60 - (k + 1)) 0).1 17 a b = if a = i ∧ b = 60 - (k + 1) then 400 else M.1 17 a b := by
        show mm_u (mm_u M.1 17 i (60 - (k + 1)) 400) 18 i (60 - (k + 1)) 0 17 a b = _
        rw [mm_u_row' (by decide), u3]
        simp only [true_and]
      rw [e]
      by_cases q : a = i
      · by_cases q1 : 60 - k ≤ b ∧ b < 60
        · rw [if_pos ⟨q, q1⟩, if_pos ⟨q, by omega, by omega⟩]
        · rw [if_neg (fun z => q1 z.2)]
          by_cases q2 : b = 60 - (k + 1)
          · rw [if_pos ⟨q, q2⟩, if_pos ⟨q, by omega, by omega⟩]
          · rw [if_neg (fun z => q2 z.2), if_neg (fun z => by omega)]
      · rw [if_neg (fun z => q z.1), if_neg (fun z => q z.1), if_neg (fun z => q z.1)]
    · refine (h2 a b).trans ?_
      have e : (mm_sI (mm_sI M 17 i (60 - (k + 1)) 400) 18 i (60 - (k + 1)) 0).1 18 a b = if a = i ∧ b = 60 - (k + 1) then 0 else M.1 18 a b := by
        show mm_u (mm_u M.1 17 i (60 - (k + 1)) 400) 18 i (60 - (k + 1)) 0 18 a b = _
        rw [u3, mm_u_row' (by decide)]
        simp only [true_and]
      rw [e]
      by_cases q : a = i
      · by_cases q1 : 60 - k ≤ b ∧ b < 60
        · rw [if_pos ⟨q, q1⟩, if_pos ⟨q, by omega, by omega⟩]
        · rw [if_neg (fun z => q1 z.2)]
          by_cases q2 : b = 60 - (k + 1)
          · rw [if_pos ⟨q, q2⟩, if_pos ⟨q, by omega, by omega⟩]
          · rw [if_neg (fun z => q2 z.2), if_neg (fun z => by omega)]
      · rw [if_neg (fun z => q z.1), if_neg (fun z => q z.1), if_neg (fun z => q z.1)]
    · refine (h3 f n1 n2).trans ?_
      show mm_u (mm_u M.1 17 i (60 - (k + 1)) 400) 18 i (60 - (k + 1)) 0 f = _
      rw [mm_u_row' n2, mm_u_row' n1]
theorem t_clr_at {c : Nat} (hc : c < 20) : ∀ (r : Nat) (M : mm_M), r ≤ 60 → ∀ a, (t_clr c r M).1 44 0 a = if 60 * c + (60 - r) ≤ a ∧ a < 60 * c + 60 then 0 else M.1 44 0 a
  | 0, M, _, a => by
    rw [t_clr_0, if_neg (by omega)]
  | r + 1, M, hr, a => by
    rw [t_clr_s, t_clr_at hc r _ (by omega) a]
    have e : (nI c * 60 + nI (60 - (r + 1))).toNatClampNeg = 60 * c + (60 - (r + 1)) := by
      rw [ix_eq hc (vp_in_nI (by omega) (by decide)), nI_clamp (by omega)]
    rw [e]
    have e2 : (mm_sI M 44 0 (60 * c + (60 - (r + 1))) 0).1 44 0 a = if a = 60 * c + (60 - (r + 1)) then 0 else M.1 44 0 a := by
      show mm_u M.1 44 0 (60 * c + (60 - (r + 1))) 0 44 0 a = _
      rw [mm_u_own]
    rw [e2]
    by_cases q1 : 60 * c + (60 - r) ≤ a ∧ a < 60 * c + 60
    · rw [if_pos q1, if_pos ⟨by omega, by omega⟩]
    · rw [if_neg q1]
      by_cases q2 : a = 60 * c + (60 - (r + 1))
      · rw [if_pos q2, if_pos ⟨by omega, by omega⟩]
      · rw [if_neg q2, if_neg (fun z => by omega)]
theorem beg1_k {X : mm_M} {c : Nat} {f : Int32} : (∀ g, g ≠ 15 → (s_beg1 X c f).1 g = X.1 g) ∧ ∀ g a, a ≠ c → (s_beg1 X c f).1 g a = X.1 g a := by
  refine ⟨fun g h => ?_, fun g a h => ?_⟩
  · show mm_u (mm_u X.1 15 c 0 (X.1 8 0 f.toNatClampNeg)) 15 c 1 (X.1 9 0 f.toNatClampNeg) g = _
    rw [mm_u_row' h, mm_u_row' h]
  · show mm_u (mm_u X.1 15 c 0 (X.1 8 0 f.toNatClampNeg)) 15 c 1 (X.1 9 0 f.toNatClampNeg) g a = _
    rw [mm_u_row (fun q => h q.2), mm_u_row (fun q => h q.2)]
theorem beg2_k {X : mm_M} {c : Nat} : (∀ g, g ≠ 15 → (s_beg2 X c).1 g = X.1 g) ∧ ∀ g a, a ≠ c → (s_beg2 X c).1 g a = X.1 g a := by
  refine ⟨fun g h => ?_, fun g a h => ?_⟩
  · show mm_u X.1 15 c 0 (s_typeBy X c (X.1 15 c 0)) g = _
    rw [mm_u_row' h]
  · show mm_u X.1 15 c 0 (s_typeBy X c (X.1 15 c 0)) g a = _
    rw [mm_u_row (fun q => h q.2)]
theorem beg3_k {X : mm_M} {c : Nat} : (∀ g, g ≠ 15 → (s_beg3 X c).1 g = X.1 g) ∧ ∀ g a, a ≠ c → (s_beg3 X c).1 g a = X.1 g a := by
  refine ⟨fun g h => ?_, fun g a h => ?_⟩
  · show mm_u X.1 15 c 1 (s_typeBy X c (X.1 15 c 1)) g = _
    rw [mm_u_row' h]
  · show mm_u X.1 15 c 1 (s_typeBy X c (X.1 15 c 1)) g a = _
    rw [mm_u_row (fun q => h q.2)]
theorem beg4_k {X : mm_M} {c : Nat} {f : Int32} : (∀ g, g ≠ 14 → (s_beg4 X c f).1 g = X.1 g) ∧ (∀ g a, a ≠ c → (s_beg4 X c f).1 g a = X.1 g a) ∧ (s_beg4 X c f).1 14 c 0 = X.1 14 c 0 := by
  refine ⟨fun g h => ?_, fun g a h => ?_, ?_⟩
  · show mm_u X.1 14 c 1 (s_typeBy X c (X.1 10 0 f.toNatClampNeg)) g = _
    rw [mm_u_row' h]
  · show mm_u X.1 14 c 1 (s_typeBy X c (X.1 10 0 f.toNatClampNeg)) g a = _
    rw [mm_u_row (fun q => h q.2)]
  · show mm_u X.1 14 c 1 (s_typeBy X c (X.1 10 0 f.toNatClampNeg)) 14 c 0 = _
    rw [mm_u_own, if_neg (by decide)]
/-- the class's new instance c, in one piece: what its memory is -/
theorem beg_at {C : mm_M} {c : Nat} {f : Int32} {v w : Int64} (ty : Int32 → Int32)
    (hty : ∀ X : mm_M, (X.1 15 c 0 = 300 ↔ C.1 8 0 f.toNatClampNeg = 300) → (X.1 15 c 1 = 300 ↔ C.1 9 0 f.toNatClampNeg = 300) → X.2.1 16 c 0 = v → X.2.1 16 c 1 = w → ∀ code, okC code → s_typeBy X c code = ty code)
    (k8 : s_isPar (C.1 8 0 f.toNatClampNeg) = true) (k9 : s_isPar (C.1 9 0 f.toNatClampNeg) = true) (k10 : s_isRes (C.1 10 0 f.toNatClampNeg) = true) (t8 : ty (C.1 8 0 f.toNatClampNeg) = 300 ↔ C.1 8 0 f.toNatClampNeg = 300) (t9 : ty (C.1 9 0 f.toNatClampNeg) = 300 ↔ C.1 9 0 f.toNatClampNeg = 300) :
    (∀ g, g < 14 → (s_begM C c f v w).1 g = C.1 g) ∧ (s_begM C c f v w).1 14 c 0 = f ∧ (s_begM C c f v w).1 14 c 1 = ty (C.1 10 0 f.toNatClampNeg) ∧ (s_begM C c f v w).1 15 c 0 = ty (C.1 8 0 f.toNatClampNeg) ∧ (s_begM C c f v w).1 15 c 1 = ty (C.1 9 0 f.toNatClampNeg) ∧ (s_begM C c f v w).2.1 16 c 0 = v ∧ (s_begM C c f v w).2.1 16 c 1 = w ∧
    (∀ b, b < 60 → (s_begM C c f v w).1 17 c b = 400 ∧ (s_begM C c f v w).1 18 c b = 0) ∧
    (∀ g a, a ≠ c → (s_begM C c f v w).1 g a = C.1 g a ∧ (s_begM C c f v w).2.1 g a = C.2.1 g a) ∧ (∀ g, g ≠ 16 → (s_begM C c f v w).2.1 g = C.2.1 g) := by
  have X0 : ∀ g, (s_beg0 C c f v w).1 g = mm_u C.1 14 c 0 f g := fun g => rfl
  have L0 : (s_beg0 C c f v w).2.1 = mm_u (mm_u C.2.1 16 c 0 v) 16 c 1 w := rfl
  obtain ⟨d1, d2, d3, d4⟩ := s_clr_at (i := c) 60 (s_beg0 C c f v w) (Nat.le_refl _)
  generalize hX : s_clr c 60 (s_beg0 C c f v w) = X at *
  have x8 : X.1 8 = C.1 8 := ((d3 8 (by decide) (by decide)).trans (X0 8)).trans (mm_u_row' (by decide))
  have x9 : X.1 9 = C.1 9 := ((d3 9 (by decide) (by decide)).trans (X0 9)).trans (mm_u_row' (by decide))
  have x10 : X.1 10 = C.1 10 := ((d3 10 (by decide) (by decide)).trans (X0 10)).trans (mm_u_row' (by decide))
  have l0 : X.2.1 16 c 0 = v := by
    rw [d4, L0]
    show mm_u (mm_u C.2.1 16 c 0 v) 16 c 1 w 16 c 0 = v
    rw [mm_u_own, if_neg (by decide), mm_u_own, if_pos rfl]
  have l1 : X.2.1 16 c 1 = w := by
    rw [d4, L0]
    show mm_u (mm_u C.2.1 16 c 0 v) 16 c 1 w 16 c 1 = w
    rw [mm_u_own, if_pos rfl]
  -- the raw types of the parameters
  have A0 : (s_beg1 X c f).1 15 c 0 = C.1 8 0 f.toNatClampNeg := by
    show mm_u (mm_u X.1 15 c 0 (X.1 8 0 f.toNatClampNeg)) 15 c 1 (X.1 9 0 f.toNatClampNeg) 15 c 0 = _
    rw [mm_u_own, if_neg (by decide), mm_u_own, if_pos rfl, x8]
  have A1 : (s_beg1 X c f).1 15 c 1 = C.1 9 0 f.toNatClampNeg := by
    show mm_u (mm_u X.1 15 c 0 (X.1 8 0 f.toNatClampNeg)) 15 c 1 (X.1 9 0 f.toNatClampNeg) 15 c 1 = _
    rw [mm_u_own, if_pos rfl, x9]
  have T1 := hty (s_beg1 X c f) (by rw [A0]) (by rw [A1]) l0 l1
  have B0 : (s_beg2 (s_beg1 X c f) c).1 15 c 0 = ty (C.1 8 0 f.toNatClampNeg) := by
    show mm_u (s_beg1 X c f).1 15 c 0 (s_typeBy (s_beg1 X c f) c ((s_beg1 X c f).1 15 c 0)) 15 c 0 = _
    rw [mm_u_own, if_pos rfl, A0, T1 _ (okC_par k8)]
  have B1 : (s_beg2 (s_beg1 X c f) c).1 15 c 1 = C.1 9 0 f.toNatClampNeg := by
    show mm_u (s_beg1 X c f).1 15 c 0 (s_typeBy (s_beg1 X c f) c ((s_beg1 X c f).1 15 c 0)) 15 c 1 = _
    rw [mm_u_own, if_neg (by decide), A1]
  have T2 := hty (s_beg2 (s_beg1 X c f) c) (by rw [B0]; exact t8) (by rw [B1]) l0 l1
  have C0 : (s_beg3 (s_beg2 (s_beg1 X c f) c) c).1 15 c 0 = ty (C.1 8 0 f.toNatClampNeg) := by
    show mm_u (s_beg2 (s_beg1 X c f) c).1 15 c 1 (s_typeBy (s_beg2 (s_beg1 X c f) c) c ((s_beg2 (s_beg1 X c f) c).1 15 c 1)) 15 c 0 = _
    rw [mm_u_own, if_neg (by decide), B0]
  have C1 : (s_beg3 (s_beg2 (s_beg1 X c f) c) c).1 15 c 1 = ty (C.1 9 0 f.toNatClampNeg) := by
    show mm_u (s_beg2 (s_beg1 X c f) c).1 15 c 1 (s_typeBy (s_beg2 (s_beg1 X c f) c) c ((s_beg2 (s_beg1 X c f) c).1 15 c 1)) 15 c 1 = _
    rw [mm_u_own, if_pos rfl, B1, T2 _ (okC_par k9)]
  have T3 := hty (s_beg3 (s_beg2 (s_beg1 X c f) c) c) (by rw [C0]; exact t8) (by rw [C1]; exact t9) l0 l1
  have e10 : (s_beg3 (s_beg2 (s_beg1 X c f) c) c).1 10 = C.1 10 := by
    rw [beg3_k.1 10 (by decide), beg2_k.1 10 (by decide), beg1_k.1 10 (by decide), x10]
  have eB : s_begM C c f v w = s_beg4 (s_beg3 (s_beg2 (s_beg1 X c f) c) c) c f := by
    unfold s_begM
    rw [hX]
  have eI : ∀ g, g ≠ 14 → g ≠ 15 → (s_begM C c f v w).1 g = X.1 g := fun g h1 h2 => by
    rw [eB, beg4_k.1 g h1, beg3_k.1 g h2, beg2_k.1 g h2, beg1_k.1 g h2]
  have eL : (s_begM C c f v w).2.1 = X.2.1 := by
    rw [eB]
    rfl
  refine ⟨fun g hg => ?_, ?_, ?_, ?_, ?_, by rw [eL]; exact l0, by rw [eL]; exact l1, fun b hb => ?_, fun g a ha => ⟨?_, ?_⟩, fun g hg => ?_⟩
  · rw [eI g (by omega) (by omega), d3 g (by omega) (by omega)]
    exact mm_u_row' (by omega)
  · rw [eB, beg4_k.2.2, beg3_k.1 14 (by decide), beg2_k.1 14 (by decide), beg1_k.1 14 (by decide), d3 14 (by decide) (by decide)]
    show mm_u C.1 14 c 0 f 14 c 0 = f
    rw [mm_u_own, if_pos rfl]
  · rw [eB]
    show mm_u (s_beg3 (s_beg2 (s_beg1 X c f) c) c).1 14 c 1 (s_typeBy (s_beg3 (s_beg2 (s_beg1 X c f) c) c) c ((s_beg3 (s_beg2 (s_beg1 X c f) c) c).1 10 0 f.toNatClampNeg)) 14 c 1 = _
    rw [mm_u_own, if_pos rfl, e10, T3 _ (okC_res k10)]
  · rw [eB, beg4_k.1 15 (by decide), C0]
  · rw [eB, beg4_k.1 15 (by decide), C1]
  · rw [eI 17 (by decide) (by decide), eI 18 (by decide) (by decide), d1, d2, if_pos ⟨rfl, by omega, hb⟩, if_pos ⟨rfl, by omega, hb⟩]
    exact ⟨rfl, rfl⟩
  · rw [eB, beg4_k.2.1 g a ha, beg3_k.2 g a ha, beg2_k.2 g a ha, beg1_k.2 g a ha]
    by_cases q7 : g = 17
    · subst q7
      funext b
      rw [d1, if_neg (fun z => ha z.1)]
      show mm_u C.1 14 c 0 f 17 a b = _
      rw [mm_u_row' (by decide)]
    · by_cases q8 : g = 18
      · subst q8
        funext b
        rw [d2, if_neg (fun z => ha z.1)]
        show mm_u C.1 14 c 0 f 18 a b = _
        rw [mm_u_row' (by decide)]
      · rw [d3 g q7 q8]
        show mm_u C.1 14 c 0 f g a = _
        rw [mm_u_row (fun q => ha q.2)]
  · rw [eL, d4, L0]
    show mm_u (mm_u C.2.1 16 c 0 v) 16 c 1 w g a = _
    rw [mm_u_row (fun q => ha q.2), mm_u_row (fun q => ha q.2)]
  · rw [eL, d4, L0]
    show mm_u (mm_u C.2.1 16 c 0 v) 16 c 1 w g = _
    rw [mm_u_row' hg, mm_u_row' hg]
