/-! the inits that make arrays -/
section MMD
variable {l : Launch} {D : va_G} {dA : FieldType → ClassId} {sz : Nat}
theorem at_int : mm_at0 .int := by
  unfold mm_at0
  decide
theorem at_boolean : mm_at0 .boolean := by
  unfold mm_at0
  decide
theorem at_long : mm_at0 .long := by
  unfold mm_at0
  decide
theorem dpJ {g : mm_F} {cc : ByteArray} {Γ : mm_G} {Q : Option mm_V → mm_M → Prop} {pc : Nat} {ls : List (Option mm_V)} {n : Fin 2} (d : decode cc pc = .ok (.lconst n, 1)) (K : mm_K0) (st : List mm_V) (M : mm_M) (u w : Nat) (h : K (pc + 1) ls (.inr (.inl (Int64.ofNat (n : Nat))) :: st) M u w) : mm_s g Γ Q K (decode cc pc) pc ls st M u w := by
  rw [d]
  exact ⟨rfl, h⟩
def s_i1 (M : mm_M) : mm_M := mm_sI (mm_sI (mkr 1 0 2 0 10 M) 1 0 10 (Int32.ofInt 0)) 1 0 11 (Int32.ofInt 0)
def k_i1 : mm_Ct := fun As M Post => match As with
  | [.inr (.inr (some (1, 0)))] => CLN M ∧ M.2.2.2 1 0 ∧ (∀ t, t < 10 → ¬ M.2.2.2 (0 + t + 2) 0) ∧ Post none (s_i1 M)
  | _ => False
theorem e_i1 {M : mm_M} {Post : Option mm_V → mm_M → Prop} : k_i1 [.inr (.inr (some (1, 0)))] M Post = (CLN M ∧ M.2.2.2 1 0 ∧ (∀ t, t < 10 → ¬ M.2.2.2 (0 + t + 2) 0) ∧ Post none (s_i1 M)) := rfl
set_option maxRecDepth 100000 in
set_option maxHeartbeats 2000000 in
theorem v_i1 : mm_Vd l D dA sz 1 1 k_i1 := by
  intro As M Post h
  match As, h with
  | [.inr (.inr (some (1, 0)))], h =>
    obtain ⟨hM, ho, hn, h⟩ := h
    refine mm_meth 1 (by decide) ⟨rfl, rfl, by decide, by decide⟩ mm_okN (Nat.le_of_ble_eq_true rfl) 160 ?_
    show mm_x (1, 1, none, true, 10, 340, none, true) prog_7_method_1_code (mm_gl []) (fun _ => none) Post 160 0 [some (.inr (.inr (some (1, 0))))] [] M 0 0
    refine seg0 d1_0 rfl d1_1 mt_1_3 ?_
    show mm_x (1, 1, none, true, 10, 340, none, true) prog_7_method_1_code (mm_gl []) (fun _ => none) Post _ 4 [some (.inr (.inr (some (1, 0))))] [] (mkr 1 0 2 0 0 (M)) _ _
    refine seg (s := 2) (a := 0) (n := 0) (ln := 60) rfl hM ho (fun t ht => hn t (by omega)) d1_4 (dpB d1_5) d1_7 d1_9 ⟨by decide, by decide, by decide⟩ at_int rfl (by decide) (by decide) (by decide) fl_1_9 rfl (by decide) (Or.inr ⟨rfl, rfl⟩) rfl ?_
    refine seg (s := 2) (a := 0) (n := 1) (ln := 60) rfl hM ho (fun t ht => hn t (by omega)) d1_12 (dpB d1_13) d1_15 d1_17 ⟨by decide, by decide, by decide⟩ at_int rfl (by decide) (by decide) (by decide) fl_1_15 rfl (by decide) (Or.inr ⟨rfl, rfl⟩) rfl ?_
    refine seg (s := 2) (a := 0) (n := 2) (ln := 60) rfl hM ho (fun t ht => hn t (by omega)) d1_20 (dpB d1_21) d1_23 d1_25 ⟨by decide, by decide, by decide⟩ at_int rfl (by decide) (by decide) (by decide) fl_1_18 rfl (by decide) (Or.inr ⟨rfl, rfl⟩) rfl ?_
    refine seg (s := 2) (a := 0) (n := 3) (ln := 60) rfl hM ho (fun t ht => hn t (by omega)) d1_28 (dpB d1_29) d1_31 d1_33 ⟨by decide, by decide, by decide⟩ at_int rfl (by decide) (by decide) (by decide) fl_1_21 rfl (by decide) (Or.inr ⟨rfl, rfl⟩) rfl ?_
    refine seg (s := 2) (a := 0) (n := 4) (ln := 60) rfl hM ho (fun t ht => hn t (by omega)) d1_36 (dpB d1_37) d1_39 d1_41 ⟨by decide, by decide, by decide⟩ at_int rfl (by decide) (by decide) (by decide) fl_1_24 rfl (by decide) (Or.inr ⟨rfl, rfl⟩) rfl ?_
    refine seg (s := 2) (a := 0) (n := 5) (ln := 8) rfl hM ho (fun t ht => hn t (by omega)) d1_44 (dpB d1_45) d1_47 d1_49 ⟨by decide, by decide, by decide⟩ at_boolean rfl (by decide) (by decide) (by decide) fl_1_27 rfl (by decide) (Or.inr ⟨rfl, rfl⟩) rfl ?_
    refine seg (s := 2) (a := 0) (n := 6) (ln := 8) rfl hM ho (fun t ht => hn t (by omega)) d1_52 (dpB d1_53) d1_55 d1_57 ⟨by decide, by decide, by decide⟩ at_int rfl (by decide) (by decide) (by decide) fl_1_31 rfl (by decide) (Or.inr ⟨rfl, rfl⟩) rfl ?_
    refine seg (s := 2) (a := 0) (n := 7) (ln := 8) rfl hM ho (fun t ht => hn t (by omega)) d1_60 (dpB d1_61) d1_63 d1_65 ⟨by decide, by decide, by decide⟩ at_int rfl (by decide) (by decide) (by decide) fl_1_34 rfl (by decide) (Or.inr ⟨rfl, rfl⟩) rfl ?_
    refine seg (s := 2) (a := 0) (n := 8) (ln := 8) rfl hM ho (fun t ht => hn t (by omega)) d1_68 (dpB d1_69) d1_71 d1_73 ⟨by decide, by decide, by decide⟩ at_int rfl (by decide) (by decide) (by decide) fl_1_37 rfl (by decide) (Or.inr ⟨rfl, rfl⟩) rfl ?_
    refine seg (s := 2) (a := 0) (n := 9) (ln := 8) rfl hM ho (fun t ht => hn t (by omega)) d1_76 (dpB d1_77) d1_79 d1_81 ⟨by decide, by decide, by decide⟩ at_int rfl (by decide) (by decide) (by decide) fl_1_40 rfl (by decide) (Or.inr ⟨rfl, rfl⟩) rfl ?_
    have ho1 : (mkr 1 0 2 0 10 M).2.2.2 1 0 := ((mkr_at 10).2.2.2 1 0).mpr (Or.inr ho)
    refine segI (o := 1) (i := 0) ho1 rfl d1_84 (dpI d1_85) d1_86 fl_1_43 rfl (by decide) (Or.inr ⟨rfl, rfl⟩) rfl ?_
    refine segI (o := 1) (i := 0) ho1 rfl d1_89 (dpI d1_90) d1_91 fl_1_47 rfl (by decide) (Or.inr ⟨rfl, rfl⟩) rfl ?_
    exact segR d1_94 (by decide) (by decide) rfl h
def s_i3 (M : mm_M) (i : Nat) : mm_M := mm_sI (mm_sI (mkr 14 i 13 2 6 M) 14 i 0 (Int32.ofInt 0)) 14 i 1 (Int16.ofInt 500).toInt32
def k_i3 : mm_Ct := fun As M Post => match As with
  | [.inr (.inr (some (14, i)))] => CLN M ∧ M.2.2.2 14 i ∧ (∀ t, t < 6 → ¬ M.2.2.2 (2 + t + 13) i) ∧ Post none (s_i3 M i)
  | _ => False
theorem e_i3 {M : mm_M} {Post : Option mm_V → mm_M → Prop} {i : Nat} : k_i3 [.inr (.inr (some (14, i)))] M Post = (CLN M ∧ M.2.2.2 14 i ∧ (∀ t, t < 6 → ¬ M.2.2.2 (2 + t + 13) i) ∧ Post none (s_i3 M i)) := rfl
set_option maxRecDepth 100000 in
set_option maxHeartbeats 2000000 in
theorem v_i3 : mm_Vd l D dA sz 1 3 k_i3 := by
  intro As M Post h
  match As, h with
  | [.inr (.inr (some (14, i)))], h =>
    obtain ⟨hM, ho, hn, h⟩ := h
    refine mm_meth 3 (by decide) ⟨rfl, rfl, by decide, by decide⟩ mm_okN (Nat.le_of_ble_eq_true rfl) 160 ?_
    show mm_x (3, 1, none, true, 6, 244, none, true) prog_4_method_1_code (mm_gl []) (fun _ => none) Post 160 0 [some (.inr (.inr (some (14, i))))] [] M 0 0
    refine seg0 d3_0 rfl d3_1 mt_3_3 ?_
    show mm_x (3, 1, none, true, 6, 244, none, true) prog_4_method_1_code (mm_gl []) (fun _ => none) Post _ 4 [some (.inr (.inr (some (14, i))))] [] (mkr 14 i 13 2 0 (M)) _ _
    refine seg (s := 13) (a := 2) (n := 0) (ln := 2) rfl hM ho (fun t ht => hn t (by omega)) d3_4 (dpI d3_5) d3_6 d3_8 ⟨by decide, by decide, by decide⟩ at_int rfl (by decide) (by decide) (by decide) fl_3_9 rfl (by decide) (Or.inr ⟨rfl, rfl⟩) rfl ?_
    refine seg (s := 13) (a := 2) (n := 1) (ln := 2) rfl hM ho (fun t ht => hn t (by omega)) d3_11 (dpI d3_12) d3_13 d3_15 ⟨by decide, by decide, by decide⟩ at_long rfl (by decide) (by decide) (by decide) fl_3_15 rfl (by decide) (Or.inr ⟨rfl, rfl⟩) rfl ?_
    refine seg (s := 13) (a := 2) (n := 2) (ln := 60) rfl hM ho (fun t ht => hn t (by omega)) d3_18 (dpB d3_19) d3_21 d3_23 ⟨by decide, by decide, by decide⟩ at_int rfl (by decide) (by decide) (by decide) fl_3_19 rfl (by decide) (Or.inr ⟨rfl, rfl⟩) rfl ?_
    refine seg (s := 13) (a := 2) (n := 3) (ln := 60) rfl hM ho (fun t ht => hn t (by omega)) d3_26 (dpB d3_27) d3_29 d3_31 ⟨by decide, by decide, by decide⟩ at_boolean rfl (by decide) (by decide) (by decide) fl_3_22 rfl (by decide) (Or.inr ⟨rfl, rfl⟩) rfl ?_
    refine seg (s := 13) (a := 2) (n := 4) (ln := 60) rfl hM ho (fun t ht => hn t (by omega)) d3_34 (dpB d3_35) d3_37 d3_39 ⟨by decide, by decide, by decide⟩ at_long rfl (by decide) (by decide) (by decide) fl_3_26 rfl (by decide) (Or.inr ⟨rfl, rfl⟩) rfl ?_
    refine seg (s := 13) (a := 2) (n := 5) (ln := 60) rfl hM ho (fun t ht => hn t (by omega)) d3_42 (dpB d3_43) d3_45 d3_47 ⟨by decide, by decide, by decide⟩ at_int rfl (by decide) (by decide) (by decide) fl_3_29 rfl (by decide) (Or.inr ⟨rfl, rfl⟩) rfl ?_
    have ho1 : (mkr 14 i 13 2 6 M).2.2.2 14 i := ((mkr_at 6).2.2.2 14 i).mpr (Or.inr ho)
    refine segI (o := 14) (i := i) ho1 rfl d3_50 (dpI d3_51) d3_52 fl_3_32 rfl (by decide) (Or.inr ⟨rfl, rfl⟩) rfl ?_
    refine segI (o := 14) (i := i) ho1 rfl d3_55 (dpS d3_56) d3_59 fl_3_38 rfl (by decide) (Or.inr ⟨rfl, rfl⟩) rfl ?_
    exact segR d3_62 (by decide) (by decide) rfl h
def s_i5a (M : mm_M) : mm_M := mm_sI (mm_sI (mm_sI (mm_sI (mm_sI M 30 0 0 (Int32.ofInt 0)) 30 0 1 (Int32.ofInt 0)) 30 0 2 (Int32.ofInt (-1))) 30 0 3 (Int32.ofInt 0)) 30 0 4 (Int32.ofInt 0)
def s_i5b (M : mm_M) : mm_M := mm_sL (mm_sL (mm_sI (mm_sI (mm_sI (mkr 30 0 26 5 25 (s_i5a M)) 30 0 30 (Int32.ofInt 0)) 30 0 31 (Int32.ofInt 0)) 30 0 32 (Int32.ofInt 0)) 30 0 33 (Int64.ofNat 0)) 30 0 34 (Int64.ofNat 0)
def s_i5 (M : mm_M) : mm_M := mkr 30 0 21 35 2 (s_i5b M)
def k_i5 : mm_Ct := fun As M Post => match As with
  | [.inr (.inr (some (30, 0)))] => CLN M ∧ M.2.2.2 30 0 ∧ (∀ t, t < 27 → ¬ M.2.2.2 (31 + t) 0) ∧ Post none (s_i5 M)
  | _ => False
theorem e_i5 {M : mm_M} {Post : Option mm_V → mm_M → Prop} : k_i5 [.inr (.inr (some (30, 0)))] M Post = (CLN M ∧ M.2.2.2 30 0 ∧ (∀ t, t < 27 → ¬ M.2.2.2 (31 + t) 0) ∧ Post none (s_i5 M)) := rfl
set_option maxRecDepth 100000 in
set_option maxHeartbeats 2000000 in
theorem v_i5 : mm_Vd l D dA sz 1 5 k_i5 := by
  intro As M Post h
  match As, h with
  | [.inr (.inr (some (30, 0)))], h =>
    obtain ⟨hM, ho, hn, h⟩ := h
    have hM1 : CLN (s_i5a M) := ((((hM.sI ho).sI ho).sI ho).sI ho).sI ho
    have hn1 : ∀ t, t < 25 → ¬ (s_i5a M).2.2.2 (5 + t + 26) 0 := fun t ht => by
      have := hn t (by omega)
      rw [show 31 + t = 5 + t + 26 by omega] at this
      exact this
    have ho1 : (mkr 30 0 26 5 25 (s_i5a M)).2.2.2 30 0 := ((mkr_at 25).2.2.2 30 0).mpr (Or.inr ho)
    have hM3 : CLN (s_i5b M) := (((((mkr_cln hM1 ho 25).sI ho1).sI ho1).sI ho1).sL ho1).sL ho1
    have hn3 : ∀ t, t < 2 → ¬ (s_i5b M).2.2.2 (35 + t + 21) 0 := fun t ht z => by
      have z : (mkr 30 0 26 5 25 (s_i5a M)).2.2.2 (35 + t + 21) 0 := z
      rcases ((mkr_at 25).2.2.2 _ _).mp z with q | q
      · omega
      · have := hn (25 + t) (by omega)
        rw [show 31 + (25 + t) = 35 + t + 21 by omega] at this
        exact this q
    have ho3 : (s_i5b M).2.2.2 30 0 := ho1
    refine mm_meth 5 (by decide) ⟨rfl, rfl, by decide, by decide⟩ mm_okN (Nat.le_of_ble_eq_true rfl) 160 ?_
    show mm_x (5, 1, none, true, 27, 6717, none, true) prog_10_method_1_code (mm_gl []) (fun _ => none) Post 160 0 [some (.inr (.inr (some (30, 0))))] [] M 0 0
    refine seg0 d5_0 rfl d5_1 mt_5_1 ?_
    refine segI (o := 30) (i := 0) ho rfl d5_4 (dpI d5_5) d5_6 fl_5_7 rfl (by decide) (Or.inr ⟨rfl, rfl⟩) rfl ?_
    refine segI (o := 30) (i := 0) ho rfl d5_9 (dpI d5_10) d5_11 fl_5_13 rfl (by decide) (Or.inr ⟨rfl, rfl⟩) rfl ?_
    refine segI (o := 30) (i := 0) ho rfl d5_14 (dpI d5_15) d5_16 fl_5_16 rfl (by decide) (Or.inr ⟨rfl, rfl⟩) rfl ?_
    refine segI (o := 30) (i := 0) ho rfl d5_19 (dpI d5_20) d5_21 fl_5_19 rfl (by decide) (Or.inr ⟨rfl, rfl⟩) rfl ?_
    refine segI (o := 30) (i := 0) ho rfl d5_24 (dpI d5_25) d5_26 fl_5_22 rfl (by decide) (Or.inr ⟨rfl, rfl⟩) rfl ?_
    show mm_x (5, 1, none, true, 27, 6717, none, true) prog_10_method_1_code (mm_gl []) (fun _ => none) Post _ 29 [some (.inr (.inr (some (30, 0))))] [] (mkr 30 0 26 5 0 (s_i5a M)) _ _
    refine seg (s := 26) (a := 5) (n := 0) (ln := 60) rfl hM1 ho (fun t ht => hn1 t (by omega)) d5_29 (dpB d5_30) d5_32 d5_34 ⟨by decide, by decide, by decide⟩ at_int rfl (by decide) (by decide) (by decide) fl_5_25 rfl (by decide) (Or.inr ⟨rfl, rfl⟩) rfl ?_
    refine seg (s := 26) (a := 5) (n := 1) (ln := 60) rfl hM1 ho (fun t ht => hn1 t (by omega)) d5_37 (dpB d5_38) d5_40 d5_42 ⟨by decide, by decide, by decide⟩ at_int rfl (by decide) (by decide) (by decide) fl_5_29 rfl (by decide) (Or.inr ⟨rfl, rfl⟩) rfl ?_
    refine seg (s := 26) (a := 5) (n := 2) (ln := 60) rfl hM1 ho (fun t ht => hn1 t (by omega)) d5_45 (dpB d5_46) d5_48 d5_50 ⟨by decide, by decide, by decide⟩ at_int rfl (by decide) (by decide) (by decide) fl_5_32 rfl (by decide) (Or.inr ⟨rfl, rfl⟩) rfl ?_
    refine seg (s := 26) (a := 5) (n := 3) (ln := 60) rfl hM1 ho (fun t ht => hn1 t (by omega)) d5_53 (dpB d5_54) d5_56 d5_58 ⟨by decide, by decide, by decide⟩ at_int rfl (by decide) (by decide) (by decide) fl_5_35 rfl (by decide) (Or.inr ⟨rfl, rfl⟩) rfl ?_
    refine seg (s := 26) (a := 5) (n := 4) (ln := 60) rfl hM1 ho (fun t ht => hn1 t (by omega)) d5_61 (dpB d5_62) d5_64 d5_66 ⟨by decide, by decide, by decide⟩ at_int rfl (by decide) (by decide) (by decide) fl_5_38 rfl (by decide) (Or.inr ⟨rfl, rfl⟩) rfl ?_
    refine seg (s := 26) (a := 5) (n := 5) (ln := 8) rfl hM1 ho (fun t ht => hn1 t (by omega)) d5_69 (dpB d5_70) d5_72 d5_74 ⟨by decide, by decide, by decide⟩ at_boolean rfl (by decide) (by decide) (by decide) fl_5_41 rfl (by decide) (Or.inr ⟨rfl, rfl⟩) rfl ?_
    refine seg (s := 26) (a := 5) (n := 6) (ln := 8) rfl hM1 ho (fun t ht => hn1 t (by omega)) d5_77 (dpB d5_78) d5_80 d5_82 ⟨by decide, by decide, by decide⟩ at_int rfl (by decide) (by decide) (by decide) fl_5_45 rfl (by decide) (Or.inr ⟨rfl, rfl⟩) rfl ?_
    refine seg (s := 26) (a := 5) (n := 7) (ln := 8) rfl hM1 ho (fun t ht => hn1 t (by omega)) d5_85 (dpB d5_86) d5_88 d5_90 ⟨by decide, by decide, by decide⟩ at_int rfl (by decide) (by decide) (by decide) fl_5_48 rfl (by decide) (Or.inr ⟨rfl, rfl⟩) rfl ?_
    refine seg (s := 26) (a := 5) (n := 8) (ln := 8) rfl hM1 ho (fun t ht => hn1 t (by omega)) d5_93 (dpB d5_94) d5_96 d5_98 ⟨by decide, by decide, by decide⟩ at_int rfl (by decide) (by decide) (by decide) fl_5_51 rfl (by decide) (Or.inr ⟨rfl, rfl⟩) rfl ?_
    refine seg (s := 26) (a := 5) (n := 9) (ln := 8) rfl hM1 ho (fun t ht => hn1 t (by omega)) d5_101 (dpB d5_102) d5_104 d5_106 ⟨by decide, by decide, by decide⟩ at_int rfl (by decide) (by decide) (by decide) fl_5_54 rfl (by decide) (Or.inr ⟨rfl, rfl⟩) rfl ?_
    refine seg (s := 26) (a := 5) (n := 10) (ln := 20) rfl hM1 ho (fun t ht => hn1 t (by omega)) d5_109 (dpB d5_110) d5_112 d5_114 ⟨by decide, by decide, by decide⟩ at_int rfl (by decide) (by decide) (by decide) fl_5_57 rfl (by decide) (Or.inr ⟨rfl, rfl⟩) rfl ?_
    refine seg (s := 26) (a := 5) (n := 11) (ln := 20) rfl hM1 ho (fun t ht => hn1 t (by omega)) d5_117 (dpB d5_118) d5_120 d5_122 ⟨by decide, by decide, by decide⟩ at_int rfl (by decide) (by decide) (by decide) fl_5_60 rfl (by decide) (Or.inr ⟨rfl, rfl⟩) rfl ?_
    refine seg (s := 26) (a := 5) (n := 12) (ln := 20) rfl hM1 ho (fun t ht => hn1 t (by omega)) d5_125 (dpB d5_126) d5_128 d5_130 ⟨by decide, by decide, by decide⟩ at_int rfl (by decide) (by decide) (by decide) fl_5_63 rfl (by decide) (Or.inr ⟨rfl, rfl⟩) rfl ?_
    refine seg (s := 26) (a := 5) (n := 13) (ln := 1200) rfl hM1 ho (fun t ht => hn1 t (by omega)) d5_133 (dpS d5_134) d5_137 d5_139 ⟨by decide, by decide, by decide⟩ at_boolean rfl (by decide) (by decide) (by decide) fl_5_66 rfl (by decide) (Or.inr ⟨rfl, rfl⟩) rfl ?_
    refine seg (s := 26) (a := 5) (n := 14) (ln := 1200) rfl hM1 ho (fun t ht => hn1 t (by omega)) d5_142 (dpS d5_143) d5_146 d5_148 ⟨by decide, by decide, by decide⟩ at_boolean rfl (by decide) (by decide) (by decide) fl_5_69 rfl (by decide) (Or.inr ⟨rfl, rfl⟩) rfl ?_
    refine seg (s := 26) (a := 5) (n := 15) (ln := 1200) rfl hM1 ho (fun t ht => hn1 t (by omega)) d5_151 (dpS d5_152) d5_155 d5_157 ⟨by decide, by decide, by decide⟩ at_int rfl (by decide) (by decide) (by decide) fl_5_72 rfl (by decide) (Or.inr ⟨rfl, rfl⟩) rfl ?_
    refine seg (s := 26) (a := 5) (n := 16) (ln := 1200) rfl hM1 ho (fun t ht => hn1 t (by omega)) d5_160 (dpS d5_161) d5_164 d5_166 ⟨by decide, by decide, by decide⟩ at_int rfl (by decide) (by decide) (by decide) fl_5_75 rfl (by decide) (Or.inr ⟨rfl, rfl⟩) rfl ?_
    refine seg (s := 26) (a := 5) (n := 17) (ln := 1200) rfl hM1 ho (fun t ht => hn1 t (by omega)) d5_169 (dpS d5_170) d5_173 d5_175 ⟨by decide, by decide, by decide⟩ at_long rfl (by decide) (by decide) (by decide) fl_5_78 rfl (by decide) (Or.inr ⟨rfl, rfl⟩) rfl ?_
    refine seg (s := 26) (a := 5) (n := 18) (ln := 7) rfl hM1 ho (fun t ht => hn1 t (by omega)) d5_178 (dpB d5_179) d5_181 d5_183 ⟨by decide, by decide, by decide⟩ at_int rfl (by decide) (by decide) (by decide) fl_5_82 rfl (by decide) (Or.inr ⟨rfl, rfl⟩) rfl ?_
    refine seg (s := 26) (a := 5) (n := 19) (ln := 64) rfl hM1 ho (fun t ht => hn1 t (by omega)) d5_186 (dpB d5_187) d5_189 d5_191 ⟨by decide, by decide, by decide⟩ at_int rfl (by decide) (by decide) (by decide) fl_5_85 rfl (by decide) (Or.inr ⟨rfl, rfl⟩) rfl ?_
    refine seg (s := 26) (a := 5) (n := 20) (ln := 64) rfl hM1 ho (fun t ht => hn1 t (by omega)) d5_194 (dpB d5_195) d5_197 d5_199 ⟨by decide, by decide, by decide⟩ at_int rfl (by decide) (by decide) (by decide) fl_5_88 rfl (by decide) (Or.inr ⟨rfl, rfl⟩) rfl ?_
    refine seg (s := 26) (a := 5) (n := 21) (ln := 7) rfl hM1 ho (fun t ht => hn1 t (by omega)) d5_202 (dpB d5_203) d5_205 d5_207 ⟨by decide, by decide, by decide⟩ at_long rfl (by decide) (by decide) (by decide) fl_5_91 rfl (by decide) (Or.inr ⟨rfl, rfl⟩) rfl ?_
    refine seg (s := 26) (a := 5) (n := 22) (ln := 7) rfl hM1 ho (fun t ht => hn1 t (by omega)) d5_210 (dpB d5_211) d5_213 d5_215 ⟨by decide, by decide, by decide⟩ at_long rfl (by decide) (by decide) (by decide) fl_5_94 rfl (by decide) (Or.inr ⟨rfl, rfl⟩) rfl ?_
    refine seg (s := 26) (a := 5) (n := 23) (ln := 64) rfl hM1 ho (fun t ht => hn1 t (by omega)) d5_218 (dpB d5_219) d5_221 d5_223 ⟨by decide, by decide, by decide⟩ at_long rfl (by decide) (by decide) (by decide) fl_5_97 rfl (by decide) (Or.inr ⟨rfl, rfl⟩) rfl ?_
    refine seg (s := 26) (a := 5) (n := 24) (ln := 64) rfl hM1 ho (fun t ht => hn1 t (by omega)) d5_226 (dpB d5_227) d5_229 d5_231 ⟨by decide, by decide, by decide⟩ at_long rfl (by decide) (by decide) (by decide) fl_5_100 rfl (by decide) (Or.inr ⟨rfl, rfl⟩) rfl ?_
    refine segI (o := 30) (i := 0) ho1 rfl d5_234 (dpI d5_235) d5_236 fl_5_103 rfl (by decide) (Or.inr ⟨rfl, rfl⟩) rfl ?_
    refine segI (o := 30) (i := 0) ho1 rfl d5_239 (dpI d5_240) d5_241 fl_5_106 rfl (by decide) (Or.inr ⟨rfl, rfl⟩) rfl ?_
    refine segI (o := 30) (i := 0) ho1 rfl d5_244 (dpI d5_245) d5_246 fl_5_109 rfl (by decide) (Or.inr ⟨rfl, rfl⟩) rfl ?_
    refine segL (o := 30) (i := 0) ho1 rfl d5_249 (dpJ d5_250) d5_251 fl_5_112 rfl (by decide) (Or.inr ⟨rfl, rfl⟩) rfl ?_
    refine segL (o := 30) (i := 0) ho1 rfl d5_254 (dpJ d5_255) d5_256 fl_5_116 rfl (by decide) (Or.inr ⟨rfl, rfl⟩) rfl ?_
    show mm_x (5, 1, none, true, 27, 6717, none, true) prog_10_method_1_code (mm_gl []) (fun _ => none) Post _ 259 [some (.inr (.inr (some (30, 0))))] [] (mkr 30 0 21 35 0 (s_i5b M)) _ _
    refine seg (s := 21) (a := 35) (n := 0) (ln := 20) rfl hM3 ho3 (fun t ht => hn3 t (by omega)) d5_259 (dpB d5_260) d5_262 d5_264 ⟨by decide, by decide, by decide⟩ at_long rfl (by decide) (by decide) (by decide) fl_5_119 rfl (by decide) (Or.inr ⟨rfl, rfl⟩) rfl ?_
    refine seg (s := 21) (a := 35) (n := 1) (ln := 20) rfl hM3 ho3 (fun t ht => hn3 t (by omega)) d5_267 (dpB d5_268) d5_270 d5_272 ⟨by decide, by decide, by decide⟩ at_long rfl (by decide) (by decide) (by decide) fl_5_122 rfl (by decide) (Or.inr ⟨rfl, rfl⟩) rfl ?_
    exact segR d5_275 (by decide) (by decide) rfl h
end MMD
