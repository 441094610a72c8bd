/-! the class's own init -/
section MMD
variable {l : Launch} {D : va_G} {dA : FieldType → ClassId} {sz : Nat}
theorem i1_at {M : mm_M} : (∀ x y z, (s_i1 M).1 x y z = if x = 1 ∧ y = 0 ∧ (z = 10 ∨ z = 11) then 0 else M.1 x y z) ∧ (s_i1 M).2.1 = M.2.1 ∧ (∀ x y z, (s_i1 M).2.2.1 x y z = if x = 1 ∧ y = 0 ∧ z < 10 then some (z + 2, 0) else M.2.2.1 x y z) ∧ ∀ x y, (s_i1 M).2.2.2 x y ↔ (y = 0 ∧ 2 ≤ x ∧ x < 12) ∨ M.2.2.2 x y := by
  obtain ⟨h1, h2, h3, h4⟩ := mkr_at (o := 1) (i := 0) (s := 2) (a := 0) (M := M) 10
  refine ⟨fun x y z => ?_, h2, fun x y z => ?_, fun x y => h4 x y⟩
  · show mm_u (mm_u (mkr 1 0 2 0 10 M).1 1 0 10 (Int32.ofInt 0)) 1 0 11 (Int32.ofInt 0) x y z = _
    rw [u3, u3, h1, show Int32.ofInt 0 = 0 by decide]
    repeat' split
    all_goals first | rfl | (exfalso; omega)
  · have := h3 x y z
    rw [show (0 + 10) = 10 from rfl] at this
    show (mkr 1 0 2 0 10 M).2.2.1 x y z = _
    rw [this]
    repeat' split
    all_goals first | rfl | (exfalso; omega)
theorem i1_cln {M : mm_M} (h : CLN M) (ho : M.2.2.2 1 0) : CLN (s_i1 M) := by
  have ho1 : (mkr 1 0 2 0 10 M).2.2.2 1 0 := ((mkr_at 10).2.2.2 1 0).mpr (Or.inr ho)
  exact ((mkr_cln h ho 10).sI ho1).sI ho1
theorem i2_at {M : mm_M} : (∀ x y z, (s_i2 M).1 x y z = if x = 12 ∧ y = 0 ∧ z = 4 then -1 else if x = 12 ∧ y = 0 ∧ (z = 2 ∨ z = 3) then 0 else if x = 14 ∧ y < 20 ∧ z = 1 then 500 else if x = 14 ∧ y < 20 ∧ z = 0 then 0 else M.1 x y z) ∧ (s_i2 M).2.1 = M.2.1 ∧
    (∀ x y z, (s_i2 M).2.2.1 x y z = if x = 13 ∧ y = 0 ∧ z < 20 then some (14, z) else if x = 14 ∧ y < 20 ∧ 2 ≤ z ∧ z < 8 then some (z + 13, y) else if x = 12 ∧ y = 0 ∧ z = 1 then some (13, 0) else if x = 12 ∧ y = 0 ∧ z = 0 then some (1, 0) else M.2.2.1 x y z) ∧
    ∀ x y, (s_i2 M).2.2.2 x y ↔ (14 ≤ x ∧ x < 21 ∧ y < 20) ∨ (x = 13 ∧ y = 0) ∨ M.2.2.2 x y := by
  obtain ⟨h1, h2, h3, h4⟩ := lp_at (M := s_i2a M) 20
  refine ⟨fun x y z => ?_, h2, fun x y z => ?_, fun x y => h4 x y⟩
  · show mm_u (mm_u (mm_u (lpI 20 (s_i2a M)).1 12 0 2 (Int32.ofInt 0)) 12 0 3 (Int32.ofInt 0)) 12 0 4 (Int32.ofInt (-1)) x y z = _
    rw [u3, u3, u3, h1, show Int32.ofInt 0 = 0 by decide, show Int32.ofInt (-1) = -1 by decide]
    show (if x = 12 ∧ y = 0 ∧ z = 4 then (-1 : Int32) else if x = 12 ∧ y = 0 ∧ z = 3 then 0 else if x = 12 ∧ y = 0 ∧ z = 2 then 0 else if x = 14 ∧ y < 20 ∧ z = 1 then 500 else if x = 14 ∧ y < 20 ∧ z = 0 then 0 else M.1 x y z) = _
    repeat' split
    all_goals first | rfl | (exfalso; omega)
  · show (lpI 20 (s_i2a M)).2.2.1 x y z = _
    rw [h3]
    have e : (s_i2a M).2.2.1 x y z = if x = 12 ∧ y = 0 ∧ z = 1 then some (13, 0) else if x = 12 ∧ y = 0 ∧ z = 0 then some (1, 0) else M.2.2.1 x y z := by
      show mm_u (mm_u M.2.2.1 12 0 0 (some (1, 0))) 12 0 1 (some (13, 0)) x y z = _
      rw [u3, u3]
    rw [e]
theorem i2_cln {M : mm_M} (h : CLN M) (ho : M.2.2.2 12 0) (h1 : M.2.2.2 1 0) (hn : ¬ M.2.2.2 13 0) : CLN (s_i2 M) := by
  obtain ⟨aC, a12, a13, a1, aR, aD⟩ := i2a_f h ho h1 hn
  have m12 : (lpI 20 (s_i2a M)).2.2.2 12 0 := ((lp_at 20).2.2.2 12 0).mpr (Or.inr a12)
  exact (((lp_cln aC a13 20).sI m12).sI m12).sI m12
theorem i4_at {M : mm_M} : (∀ x y z, (s_i4 M).1 x y z = if x = 21 ∧ y = 0 ∧ (z = 2 ∨ z = 3) then 0 else M.1 x y z) ∧ (s_i4 M).2.1 = M.2.1 ∧ (∀ x y z, (s_i4 M).2.2.1 x y z = if x = 21 ∧ y = 0 ∧ z = 1 then some (13, 0) else if x = 21 ∧ y = 0 ∧ z = 0 then some (1, 0) else M.2.2.1 x y z) ∧ (s_i4 M).2.2.2 = M.2.2.2 := by
  refine ⟨fun x y z => ?_, rfl, fun x y z => ?_, rfl⟩
  · show mm_u (mm_u M.1 21 0 2 (Int32.ofInt 0)) 21 0 3 (Int32.ofInt 0) x y z = _
    rw [u3, u3, show Int32.ofInt 0 = 0 by decide]
    repeat' split
    all_goals first | rfl | (exfalso; omega)
  · show mm_u (mm_u M.2.2.1 21 0 0 (some (1, 0))) 21 0 1 (some (13, 0)) x y z = _
    rw [u3, u3]
def s_i0a (M : mm_M) : mm_M := mm_sR (mm_sR (s_i2 (mm_mkd (s_i1 (mm_mkd M 1 0)) 12 0)) 0 0 0 (some (1, 0))) 0 0 1 (some (12, 0))
def s_i0 (M : mm_M) : mm_M := mm_sR (s_i4 (mm_mkd (s_i0a M) 21 0)) 0 0 2 (some (21, 0))
def k_i0 : mm_Ct := fun As M Post => match As with
  | [.inr (.inr (some (0, 0)))] => CLN M ∧ M.2.2.2 0 0 ∧ (∀ f i, 1 ≤ f → f < 22 → ¬ M.2.2.2 f i) ∧ Post none (s_i0 M)
  | _ => False
theorem e_i0 {M : mm_M} {Post : Option mm_V → mm_M → Prop} : k_i0 [.inr (.inr (some (0, 0)))] M Post = (CLN M ∧ M.2.2.2 0 0 ∧ (∀ f i, 1 ≤ f → f < 22 → ¬ M.2.2.2 f i) ∧ Post none (s_i0 M)) := rfl
set_option maxRecDepth 100000 in
set_option maxHeartbeats 2000000 in
theorem v_i0 : mm_Vd l D dA sz 3 0 k_i0 := by
  intro As M Post h
  match As, h with
  | [.inr (.inr (some (0, 0)))], h =>
    obtain ⟨hM, ho, hf, h⟩ := h
    have g1 : ∀ As M P, mm_gl [(1, k_i1), (2, k_i2), (4, k_i4)] 1 As M P = k_i1 As M P := fun _ _ _ => rfl
    have g2 : ∀ As M P, mm_gl [(1, k_i1), (2, k_i2), (4, k_i4)] 2 As M P = k_i2 As M P := fun _ _ _ => rfl
    have g4 : ∀ As M P, mm_gl [(1, k_i1), (2, k_i2), (4, k_i4)] 4 As M P = k_i4 As M P := fun _ _ _ => rfl
    refine mm_meth 0 (by decide) ⟨rfl, rfl, by decide, by decide⟩ (mm_okC v_i1 (by decide) (by decide) (mm_okC v_i2 (by decide) (by decide) (mm_okC v_i4 (by decide) (by decide) mm_okN))) (Nat.le_of_ble_eq_true rfl) 60 ?_
    show mm_x (0, 3, none, true, 154, 5421, none, true) prog_1_method_1_code (mm_gl [(1, k_i1), (2, k_i2), (4, k_i4)]) (fun _ => none) Post 60 0 [some (.inr (.inr (some (0, 0)))), none, none] [] M 0 0
    refine xs_al d0_0 rfl rfl ?_
    refine xs_oi d0_1 mt_0_1 (by decide) rfl ?_
    refine xs_nw (f := 1) (i := 0) d0_4 rfl cc_0_7 rfl (by decide) hM (hf 1 0 (by decide) (by decide)) ⟨ho, trivial⟩ trivial (by decide) (by decide) rfl ?_
    have c1 : CLN (mm_mkd M 1 0) := hM.new
    refine xs_dup d0_7 rfl ?_
    refine xs_in d0_8 mt_0_9 rfl (by decide) (Or.inl ⟨rfl, rfl⟩) (fun _ => rfl) (by decide) (by decide) (by decide) rfl ⟨Or.inr ho, trivial⟩ ⟨Or.inl ⟨rfl, rfl⟩, trivial⟩ rfl ?_
    rw [g1, e_i1]
    refine ⟨c1, Or.inl ⟨rfl, rfl⟩, fun t ht y => ?_, ?_⟩
    · rcases y with q | q
      · omega
      · exact hf _ _ (by omega) (by omega) q
    obtain ⟨-, -, -, a4⟩ := i1_at (M := mm_mkd M 1 0)
    have c2 : CLN (s_i1 (mm_mkd M 1 0)) := i1_cln c1 (Or.inl ⟨rfl, rfl⟩)
    have ho1 : (s_i1 (mm_mkd M 1 0)).2.2.2 0 0 := (a4 0 0).mpr (Or.inr (Or.inr ho))
    have h11 : (s_i1 (mm_mkd M 1 0)).2.2.2 1 0 := (a4 1 0).mpr (Or.inr (Or.inl ⟨rfl, rfl⟩))
    have hf1 : ∀ f i, 12 ≤ f → f < 22 → ¬ (s_i1 (mm_mkd M 1 0)).2.2.2 f i := fun f i f1 f2 z => by
      rcases (a4 f i).mp z with q | q | q
      · omega
      · omega
      · exact hf f i (by omega) f2 q
    unfold s_i0 s_i0a at h
    generalize s_i1 (mm_mkd M 1 0) = A1 at *
    show mm_x (0, 3, none, true, 154, 5421, none, true) prog_1_method_1_code (mm_gl [(1, k_i1), (2, k_i2), (4, k_i4)]) (fun _ => none) Post 55 11 [some (.inr (.inr (some (0, 0)))), none, none] [.inr (.inr (some (1, 0)))] A1 11 352
    refine xs_as d0_11 (by decide) rfl rfl ?_
    refine xs_nw (f := 12) (i := 0) d0_12 rfl cc_0_10 rfl (by decide) c2 (hf1 12 0 (by decide) (by decide)) ⟨ho1, h11, trivial⟩ trivial (by decide) (by decide) rfl ?_
    have c3 : CLN (mm_mkd A1 12 0) := c2.new
    refine xs_dup d0_15 rfl ?_
    refine xs_al d0_16 rfl rfl ?_
    refine xs_in d0_17 mt_0_12 rfl (by decide) (Or.inl ⟨rfl, rfl⟩) (fun _ => rfl) (by decide) (by decide) (by decide) rfl ⟨Or.inr ho1, Or.inr h11, trivial⟩ ⟨Or.inl ⟨rfl, rfl⟩, trivial⟩ rfl ?_
    rw [g2, e_i2]
    have n13 : ¬ (mm_mkd A1 12 0).2.2.2 13 0 := fun z => by
      rcases z with q | q
      · omega
      · exact hf1 _ _ (by omega) (by omega) q
    refine ⟨c3, Or.inl ⟨rfl, rfl⟩, Or.inr h11, n13, fun f i f1 f2 z => ?_, ?_⟩
    · rcases z with q | q
      · omega
      · exact hf1 _ _ (by omega) (by omega) q
    obtain ⟨-, -, b3, b4⟩ := i2_at (M := mm_mkd A1 12 0)
    have c4 : CLN (s_i2 (mm_mkd A1 12 0)) := i2_cln c3 (Or.inl ⟨rfl, rfl⟩) (Or.inr h11) n13
    have ho2 : (s_i2 (mm_mkd A1 12 0)).2.2.2 0 0 := (b4 0 0).mpr (Or.inr (Or.inr (Or.inr ho1)))
    have h12 : (s_i2 (mm_mkd A1 12 0)).2.2.2 1 0 := (b4 1 0).mpr (Or.inr (Or.inr (Or.inr h11)))
    have h122 : (s_i2 (mm_mkd A1 12 0)).2.2.2 12 0 := (b4 12 0).mpr (Or.inr (Or.inr (Or.inl ⟨rfl, rfl⟩)))
    have h13 : (s_i2 (mm_mkd A1 12 0)).2.2.2 13 0 := (b4 13 0).mpr (Or.inr (Or.inl ⟨rfl, rfl⟩))
    have n21 : ¬ (s_i2 (mm_mkd A1 12 0)).2.2.2 21 0 := fun z => by
      rcases (b4 21 0).mp z with q | q | q | q
      · omega
      · omega
      · omega
      · exact hf1 21 0 (by decide) (by decide) q
    have r121 : (s_i2 (mm_mkd A1 12 0)).2.2.1 12 0 1 = some (13, 0) := by
      rw [b3, if_neg (by omega), if_neg (by omega), if_pos ⟨rfl, rfl, rfl⟩]
    generalize s_i2 (mm_mkd A1 12 0) = A2 at *
    show mm_x (0, 3, none, true, 154, 5421, none, true) prog_1_method_1_code (mm_gl [(1, k_i1), (2, k_i2), (4, k_i4)]) (fun _ => none) Post 50 20 [some (.inr (.inr (some (0, 0)))), some (.inr (.inr (some (1, 0)))), none] [.inr (.inr (some (12, 0)))] A2 153 5417
    refine xs_as d0_20 (by decide) rfl rfl ?_
    refine xs_al d0_21 rfl rfl ?_
    refine xs_al d0_22 rfl rfl ?_
    refine xs_pf d0_23 fl_0_15 rfl (by decide) ho2 (Or.inr ⟨rfl, rfl⟩) rfl rfl ?_
    refine xs_al d0_26 rfl rfl ?_
    refine xs_al d0_27 rfl rfl ?_
    refine xs_pf d0_28 fl_0_21 rfl (by decide) ho2 (Or.inr ⟨rfl, rfl⟩) rfl rfl ?_
    have c5 : CLN (mm_sR (mm_sR A2 0 0 0 (some (1, 0))) 0 0 1 (some (12, 0))) := (c4.sR ho2 h12).sR ho2 h122
    have r5 : (mm_sR (mm_sR A2 0 0 0 (some (1, 0))) 0 0 1 (some (12, 0))).2.2.1 12 0 1 = some (13, 0) := by
      show mm_u (mm_u A2.2.2.1 0 0 0 (some (1, 0))) 0 0 1 (some (12, 0)) 12 0 1 = _
      rw [mm_u_row (by omega), mm_u_row (by omega)]
      exact r121
    have d5 : (mm_sR (mm_sR A2 0 0 0 (some (1, 0))) 0 0 1 (some (12, 0))).2.2.2 = A2.2.2.2 := rfl
    generalize mm_sR (mm_sR A2 0 0 0 (some (1, 0))) 0 0 1 (some (12, 0)) = A3 at *
    rw [← d5] at ho2 h12 h122 h13 n21
    refine xs_al d0_31 rfl rfl ?_
    refine xs_nw (f := 21) (i := 0) d0_32 rfl cc_0_25 rfl (by decide) c5 n21 ⟨ho2, h12, h122, trivial⟩ ⟨ho2, trivial⟩ (by decide) (by decide) rfl ?_
    refine xs_dup d0_35 rfl ?_
    refine xs_al d0_36 rfl rfl ?_
    refine xs_al d0_37 rfl rfl ?_
    refine xs_gf d0_38 fl_0_27 rfl (by decide) (Or.inr h122) (show (Sum.inr (Sum.inr (A3.2.2.1 12 0 1)) : mm_V) = Sum.inr (Sum.inr (some (13, 0))) by rw [r5]) rfl ?_
    refine xs_in d0_41 mt_0_31 rfl (by decide) (Or.inl ⟨rfl, rfl⟩) (fun _ => rfl) (by decide) (by decide) (by decide) rfl ⟨Or.inr ho2, Or.inr h12, Or.inr h122, trivial⟩ ⟨Or.inl ⟨rfl, rfl⟩, Or.inr ho2, trivial⟩ rfl ?_
    rw [g4, e_i4]
    refine ⟨Or.inl ⟨rfl, rfl⟩, ?_⟩
    have ho4 : (s_i4 (mm_mkd A3 21 0)).2.2.2 0 0 := Or.inr ho2
    generalize s_i4 (mm_mkd A3 21 0) = A4 at *
    show mm_x (0, 3, none, true, 154, 5421, none, true) prog_1_method_1_code (mm_gl [(1, k_i1), (2, k_i2), (4, k_i4)]) (fun _ => none) Post 36 44 [some (.inr (.inr (some (0, 0)))), some (.inr (.inr (some (1, 0)))), some (.inr (.inr (some (12, 0))))] [.inr (.inr (some (21, 0))), .inr (.inr (some (0, 0)))] A4 154 5421
    refine xs_pf d0_44 fl_0_34 rfl (by decide) ho4 (Or.inr ⟨rfl, rfl⟩) rfl rfl ?_
    exact xs_rt d0_47 (by decide) (by decide) rfl h
theorem i0_cln {M : mm_M} (hM : CLN M) (ho : M.2.2.2 0 0) (hf : ∀ f i, 1 ≤ f → f < 22 → ¬ M.2.2.2 f i) : CLN (s_i0 M) ∧ (∀ x y, (s_i0 M).2.2.2 x y ↔ (y = 0 ∧ 1 ≤ x ∧ x < 14) ∨ (14 ≤ x ∧ x < 21 ∧ y < 20) ∨ (x = 21 ∧ y = 0) ∨ M.2.2.2 x y) := by
  have c1 : CLN (mm_mkd M 1 0) := hM.new
  obtain ⟨-, -, -, a4⟩ := i1_at (M := mm_mkd M 1 0)
  have c2 : CLN (s_i1 (mm_mkd M 1 0)) := i1_cln c1 (Or.inl ⟨rfl, rfl⟩)
  have a5 : ∀ x y, (s_i1 (mm_mkd M 1 0)).2.2.2 x y ↔ (y = 0 ∧ 1 ≤ x ∧ x < 12) ∨ M.2.2.2 x y := fun x y => by
    rw [a4]
    show (y = 0 ∧ 2 ≤ x ∧ x < 12) ∨ ((x = 1 ∧ y = 0) ∨ M.2.2.2 x y) ↔ _
    constructor
    · rintro (q | q | q)
      · exact Or.inl (by omega)
      · exact Or.inl (by omega)
      · exact Or.inr q
    · rintro (q | q)
      · by_cases e : x = 1
        · exact Or.inr (Or.inl ⟨e, q.1⟩)
        · exact Or.inl (by omega)
      · exact Or.inr (Or.inr q)
  unfold s_i0 s_i0a
  generalize s_i1 (mm_mkd M 1 0) = A1 at *
  have c3 : CLN (mm_mkd A1 12 0) := c2.new
  have h11 : (mm_mkd A1 12 0).2.2.2 1 0 := Or.inr ((a5 1 0).mpr (Or.inl (by omega)))
  have n13 : ¬ (mm_mkd A1 12 0).2.2.2 13 0 := fun z => by
    rcases z with q | q
    · omega
    · rcases (a5 13 0).mp q with q | q
      · omega
      · exact hf 13 0 (by decide) (by decide) q
  obtain ⟨-, -, -, b4⟩ := i2_at (M := mm_mkd A1 12 0)
  have c4 : CLN (s_i2 (mm_mkd A1 12 0)) := i2_cln c3 (Or.inl ⟨rfl, rfl⟩) h11 n13
  have b5 : ∀ x y, (s_i2 (mm_mkd A1 12 0)).2.2.2 x y ↔ (y = 0 ∧ 1 ≤ x ∧ x < 14) ∨ (14 ≤ x ∧ x < 21 ∧ y < 20) ∨ M.2.2.2 x y := fun x y => by
    rw [b4]
    show (14 ≤ x ∧ x < 21 ∧ y < 20) ∨ (x = 13 ∧ y = 0) ∨ ((x = 12 ∧ y = 0) ∨ A1.2.2.2 x y) ↔ _
    rw [a5]
    constructor
    · rintro (q | q | q | q | q)
      · exact Or.inr (Or.inl q)
      · exact Or.inl (by omega)
      · exact Or.inl (by omega)
      · exact Or.inl (by omega)
      · exact Or.inr (Or.inr q)
    · rintro (q | q | q)
      · by_cases e : x = 13
        · exact Or.inr (Or.inl ⟨e, q.1⟩)
        · by_cases e2 : x = 12
          · exact Or.inr (Or.inr (Or.inl ⟨e2, q.1⟩))
          · exact Or.inr (Or.inr (Or.inr (Or.inl (by omega))))
      · exact Or.inl q
      · exact Or.inr (Or.inr (Or.inr (Or.inr q)))
  have ho2 : (s_i2 (mm_mkd A1 12 0)).2.2.2 0 0 := (b5 0 0).mpr (Or.inr (Or.inr ho))
  have h12 : (s_i2 (mm_mkd A1 12 0)).2.2.2 1 0 := (b5 1 0).mpr (Or.inl (by omega))
  have h122 : (s_i2 (mm_mkd A1 12 0)).2.2.2 12 0 := (b5 12 0).mpr (Or.inl (by omega))
  have h13 : (s_i2 (mm_mkd A1 12 0)).2.2.2 13 0 := (b5 13 0).mpr (Or.inl (by omega))
  generalize s_i2 (mm_mkd A1 12 0) = A2 at *
  have c5 : CLN (mm_sR (mm_sR A2 0 0 0 (some (1, 0))) 0 0 1 (some (12, 0))) := (c4.sR ho2 h12).sR ho2 h122
  have d5 : (mm_sR (mm_sR A2 0 0 0 (some (1, 0))) 0 0 1 (some (12, 0))).2.2.2 = A2.2.2.2 := rfl
  generalize mm_sR (mm_sR A2 0 0 0 (some (1, 0))) 0 0 1 (some (12, 0)) = A3 at *
  have c6 : CLN (s_i4 (mm_mkd A3 21 0)) := by
    have m21 : (mm_mkd A3 21 0).2.2.2 21 0 := Or.inl ⟨rfl, rfl⟩
    have m1 : (mm_mkd A3 21 0).2.2.2 1 0 := Or.inr (by rw [d5]; exact h12)
    have m13 : (mm_mkd A3 21 0).2.2.2 13 0 := Or.inr (by rw [d5]; exact h13)
    exact ((((c5.new (f := 21) (i := 0)).sR m21 m1).sR m21 m13).sI m21).sI m21
  have d6 : ∀ x y, (s_i4 (mm_mkd A3 21 0)).2.2.2 x y ↔ (x = 21 ∧ y = 0) ∨ A2.2.2.2 x y := fun x y => by
    show (x = 21 ∧ y = 0) ∨ A3.2.2.2 x y ↔ _
    rw [d5]
  generalize s_i4 (mm_mkd A3 21 0) = A4 at *
  have m0 : A4.2.2.2 0 0 := (d6 0 0).mpr (Or.inr ho2)
  have m21 : A4.2.2.2 21 0 := (d6 21 0).mpr (Or.inl ⟨rfl, rfl⟩)
  refine ⟨c6.sR m0 m21, fun x y => ?_⟩
  show A4.2.2.2 x y ↔ _
  rw [d6, b5]
  constructor
  · rintro (q | q | q | q)
    · exact Or.inr (Or.inr (Or.inl q))
    · exact Or.inl q
    · exact Or.inr (Or.inl q)
    · exact Or.inr (Or.inr (Or.inr q))
  · rintro (q | q | q | q)
    · exact Or.inr (Or.inl q)
    · exact Or.inr (Or.inr (Or.inl q))
    · exact Or.inl q
    · exact Or.inr (Or.inr (Or.inr q))
end MMD
