/-! the reference, look -/
section MMD
variable {l : Launch} {D : va_G} {dA : FieldType → ClassId} {sz : Nat}
/-- the reference's instances are of functions that are defined -/
def IR (M : mm_M) : Prop := ∃ c, c ≤ 20 ∧ M.1 30 0 3 = nI c ∧ ∀ j, j < c → s_hasFun M (M.1 41 0 j) = true
theorem KO.ir {M M' : mm_M} (h : KO M M') (q : IR M) : IR M' := by
  obtain ⟨c, h1, h2, h3⟩ := q
  exact ⟨c, h1, h.2.2.trans h2, fun j hj => by rw [kp_hasFun h.1.kp, h.2.1]; exact h3 j hj⟩
theorem IR.wantW {M : mm_M} {f : Int32} {v w : Int64} {v0 v1 : Int32} {c : Nat} (q : IR M) (ec : M.1 30 0 3 = nI c) (hc : c ≤ 20) : IR (t_wantW M f v w v0 v1 c) := by
  obtain ⟨c', h1, h2, h3⟩ := q
  have e : c' = c := nI_inj (by omega) (by omega) (h2.symm.trans ec)
  subst e
  refine ⟨c', h1, ?_, fun j hj => ?_⟩
  · show mm_u (mm_u (mm_u M.1 41 0 c' f) 42 0 c' v0) 43 0 c' v1 30 0 3 = _
    rw [mm_u_row' (by decide), mm_u_row' (by decide), mm_u_row' (by decide)]
    exact ec
  · rw [kp_hasFun (KW.wantW (f := f) (M := M) (v := v) (w := w) (v0 := v0) (v1 := v1) (c := c')).1.kp]
    show s_hasFun M (mm_u (mm_u (mm_u M.1 41 0 c' f) 42 0 c' v0) 43 0 c' v1 41 0 j) = true
    rw [mm_u_row' (by decide), mm_u_row' (by decide), mm_u_own, if_neg (by omega)]
    exact h3 j hj
theorem IR.want {M : mm_M} {i n f : Int32} {v w : Int64} (q : IR M) (hf : s_hasFun M f = true) : IR (t_want M i n f v w).2 := by
  obtain ⟨c, h1, h2, h3⟩ := q
  have q : IR M := ⟨c, h1, h2, h3⟩
  unfold t_want
  rw [h2, nI_clamp (by omega)]
  generalize t_cut M 8 f v = v0
  generalize t_cut M 9 f w = v1
  have key : ∀ r, IR (t_wantL M i n f v w v0 v1 c r).2 := by
    intro r
    induction r with
    | zero =>
      unfold t_wantL t_wantN
      split
      · exact KO.rf.fail.ir q
      · have qW := q.wantW (f := f) (v := v) (w := w) (v0 := v0) (v1 := v1) h2 h1
        have hlt : c < 20 := by omega
        have kW := KW.wantW (f := f) (M := M) (v := v) (w := w) (v0 := v0) (v1 := v1) (c := c)
        have e3 : (t_wantW M f v w v0 v1 c).1 30 0 3 = nI c := by
          show mm_u (mm_u (mm_u M.1 41 0 c f) 42 0 c v0) 43 0 c v1 30 0 3 = _
          rw [mm_u_row' (by decide), mm_u_row' (by decide), mm_u_row' (by decide)]
          exact h2
        have e41 : ∀ j, j ≤ c → s_hasFun M ((t_wantW M f v w v0 v1 c).1 41 0 j) = true := fun j hj => by
          show s_hasFun M (mm_u (mm_u (mm_u M.1 41 0 c f) 42 0 c v0) 43 0 c v1 41 0 j) = true
          rw [mm_u_row' (by decide), mm_u_row' (by decide), mm_u_own]
          split
          · exact hf
          · exact h3 j (by omega)
        generalize t_wantW M f v w v0 v1 c = M1 at *
        unfold t_wantB
        repeat' split
        all_goals first | exact KO.rf.fail.ir qW | skip
        have kc : KO M1 (t_clr c 60 M1) := KO.rf.clr
        refine ⟨c + 1, by omega, ?_, fun j hj => ?_⟩
        · show mm_u (t_clr c 60 M1).1 30 0 3 (nI c + 1) 30 0 3 = _
          rw [mm_u_own, if_pos rfl, nI_1]
        · have kE : KP M1 (t_wantE c (t_clr c 60 M1)) := (kc.1.tr (KR.rf.sI (f := 30) (k := 3) (Or.inr ⟨rfl, by decide⟩))).kp
          rw [kp_hasFun kE, kp_hasFun kW.1.kp]
          show s_hasFun M (mm_u (t_clr c 60 M1).1 30 0 3 (nI c + 1) 41 0 j) = true
          rw [mm_u_row' (by decide), kc.2.1]
          exact e41 j (by omega)
    | succ r ih =>
      unfold t_wantL
      split
      · exact q
      · exact ih
  exact key c
theorem IR.lookCall {M : mm_M} {i n f x y : Int32} (q : IR M) (hf : s_hasFun M f = true) : IR (t_lookCall M i n f x y) := by
  unfold t_lookCall
  repeat' split
  · exact KO.rf.fail.ir q
  · exact KO.rf.fail.ir q
  · unfold t_lc1
    split
    · exact KO.lc2.ir (q.want hf)
    · exact q.want hf
def t_lookPar (M : mm_M) (i n a code : Int32) : mm_M := if code = 400 then t_fail M (-2) i n else t_found M i n (t_typeIn M i code) (if code = 300 then 1 else 0) (if a = 0 then M.2.1 56 0 i.toNatClampNeg else M.2.1 57 0 i.toNatClampNeg)
def t_lookWidth (M : mm_M) (i n t : Int32) : mm_M := if t_isI t = true then t_found M i n 300 1 (if 0 ≤ t then t.toInt64 else (-t).toInt64) else t_fail M (-2) i n
def t_lookK (M : mm_M) (i n k a b c : Int32) : mm_M := if k = 0 then t_found M i n 300 1 a.toInt64 else if k = 1 then t_lookPar M i n a (t_codeOf M (M.1 41 0 i.toNatClampNeg) a) else if k = 13 then t_lookIf M i n a b c else if k = 14 then t_lookCast M i n a b else if k = 15 then t_lookCall M i n a b c else if k = 16 then t_lookWidth M i n (t_at M 46 i a) else t_lookTwo M i n k a b
def t_look (M : mm_M) (i n : Int32) : mm_M := t_lookK M i n (M.1 2 0 n.toNatClampNeg) (M.1 3 0 n.toNatClampNeg) (M.1 4 0 n.toNatClampNeg) (M.1 5 0 n.toNatClampNeg)
theorem k_rest2 {k : Int32} (h : s_isOne k = true) (h3 : ¬ k = 13) (h4 : ¬ k = 14) (h5 : ¬ k = 15) (h6 : ¬ k = 16) : ¬ 13 ≤ k := by
  simp only [s_isOne, Bool.and_eq_true, Bool.not_eq_true', decide_eq_false_iff_not] at h
  intro q
  have a := h.2
  rw [Int32.lt_iff_toInt_lt] at a
  rw [Int32.le_iff_toInt_le] at q
  rw [← Int32.toInt_inj] at h3 h4 h5 h6
  have e0 : (13 : Int32).toInt = 13 := by decide
  have e1 : (14 : Int32).toInt = 14 := by decide
  have e2 : (15 : Int32).toInt = 15 := by decide
  have e3 : (16 : Int32).toInt = 16 := by decide
  omega
theorem args_fun {M : mm_M} {n : Int32} (h8 : vp_in (M.1 3 0 n.toNatClampNeg) 8) (h : t_argsWrong M n = false) : s_hasFun M (M.1 3 0 n.toNatClampNeg) = true := by
  rw [vp_in_iff] at h8
  have h7 : ¬ M.1 7 0 (M.1 3 0 n.toNatClampNeg).toNatClampNeg = 0 := fun q => by
    unfold t_argsWrong at h
    rw [if_pos q] at h
    exact absurd h (by decide)
  simp only [s_hasFun, Bool.and_eq_true, Bool.not_eq_true', decide_eq_false_iff_not]
  refine ⟨⟨fun q => ?_, fun q => ?_⟩, h7⟩
  · rw [Int32.lt_iff_toInt_lt, Int32.toInt_zero] at q
    omega
  · rw [Int32.le_iff_toInt_le, show (8 : Int32).toInt = 8 by decide] at q
    omega
/-- what look wants at node n -/
def LQ (M : mm_M) (i n : Int32) : Prop := (¬ M.1 2 0 n.toNatClampNeg = 0 ∧ ¬ M.1 2 0 n.toNatClampNeg = 1 ∧ ¬ M.1 2 0 n.toNatClampNeg = 13 ∧ ¬ M.1 2 0 n.toNatClampNeg = 14 ∧ ¬ M.1 2 0 n.toNatClampNeg = 15 ∧ ¬ M.1 2 0 n.toNatClampNeg = 16 → ¬ t_sz (t_at M 46 i (M.1 3 0 n.toNatClampNeg)) = 0 ∧ ¬ t_sz (t_at M 46 i (M.1 4 0 n.toNatClampNeg)) = 0) ∧ (M.1 2 0 n.toNatClampNeg = 15 → t_argsWrong M n = false)
theorem look_keep {M : mm_M} {i n : Int32} (xN : NR M i n) (hL : LQ M i n) : KR M (t_look M i n) ∧ (IR M → IR (t_look M i n)) := by
  have ko : ∀ {M' : mm_M}, KO M M' → KR M M' ∧ (IR M → IR M') := fun h => ⟨h.1, h.ir⟩
  unfold t_look t_lookK
  split
  · exact ko KO.rf.found
  · split
    · unfold t_lookPar
      split
      · exact ko KO.rf.fail
      · exact ko KO.rf.found
    · split
      · exact ko KO.lookIf
      · split
        · exact ko KO.lookCast
        · split
          · rename_i q
            have f8 := ((xN.2.1.2.2.1 n xN.2.2.2.2.2).2.2.2.2.2.2.1 q).1
            exact ⟨KW.lookCall.1, fun z => z.lookCall (args_fun f8 (hL.2 q))⟩
          · split
            · unfold t_lookWidth
              split
              · exact ko KO.rf.found
              · exact ko KO.rf.fail
            · exact ko KO.lookTwo
def k_qlook : mm_Ct := fun As M Post => match As with
  | [.inr (.inr (some (30, 0))), .inl i, .inl n] => (NR M i n) ∧ (M.1 30 0 1 = 0) ∧ (LQ M i n) ∧ (∃ c, c ≤ 20 ∧ M.1 30 0 3 = nI c) ∧ Post none (t_look M i n)
  | _ => False
theorem e_qlook {M : mm_M} {Post : Option mm_V → mm_M → Prop} {i : Int32} {n : Int32} : k_qlook [.inr (.inr (some (30, 0))), .inl i, .inl n] M Post = ((NR M i n) ∧ (M.1 30 0 1 = 0) ∧ (LQ M i n) ∧ (∃ c, c ≤ 20 ∧ M.1 30 0 3 = nI c) ∧ Post none (t_look M i n)) := rfl
set_option maxRecDepth 100000 in
set_option maxHeartbeats 4000000 in
theorem v_qlook : mm_Vd l D dA sz 5 89 k_qlook := by
  intro As M Post h
  match As, h with
  | [.inr (.inr (some (30, 0))), .inl i, .inl n], h =>
    obtain ⟨xN, xE, xL, hc, h⟩ := h
    have hG := xN.1
    obtain ⟨s0, s1, s2, s3, s4, s5, s6, s7, s8, s9, s10⟩ := xN.2.2.1
    have hi := xN.2.2.2.1
    have ho := xN.2.2.2.2.1
    have hn6 := xN.2.1.in60 xN.2.2.2.2.2
    have hnd := xN.2.1.2.2.1 n xN.2.2.2.2.2
    have s36 := s6
    have xS := xN.2.2.1
    have nn6 := in12 hi hn6
    obtain ⟨a, ea⟩ : ∃ a, M.1 3 0 n.toNatClampNeg = a := ⟨_, rfl⟩
    obtain ⟨b, eb⟩ : ∃ b, M.1 4 0 n.toNatClampNeg = b := ⟨_, rfl⟩
    obtain ⟨c, ec⟩ : ∃ c, M.1 5 0 n.toNatClampNeg = c := ⟨_, rfl⟩
    obtain ⟨kk, ek⟩ : ∃ kk, M.1 2 0 n.toNatClampNeg = kk := ⟨_, rfl⟩
    rw [ea, eb, ec, ek] at hnd
    have g79 : ∀ As M P, mm_gl [(79, k_qfound), (76, k_qcodeOf), (75, k_qfail), (70, k_qtypeIn), (82, k_qlookTwo), (83, k_qlookIf), (84, k_qlookCast), (88, k_qlookCall), (71, k_qisI)] 79 As M P = k_qfound As M P := fun _ _ _ => rfl
    have g76 : ∀ As M P, mm_gl [(79, k_qfound), (76, k_qcodeOf), (75, k_qfail), (70, k_qtypeIn), (82, k_qlookTwo), (83, k_qlookIf), (84, k_qlookCast), (88, k_qlookCall), (71, k_qisI)] 76 As M P = k_qcodeOf As M P := fun _ _ _ => rfl
    have g75 : ∀ As M P, mm_gl [(79, k_qfound), (76, k_qcodeOf), (75, k_qfail), (70, k_qtypeIn), (82, k_qlookTwo), (83, k_qlookIf), (84, k_qlookCast), (88, k_qlookCall), (71, k_qisI)] 75 As M P = k_qfail As M P := fun _ _ _ => rfl
    have g70 : ∀ As M P, mm_gl [(79, k_qfound), (76, k_qcodeOf), (75, k_qfail), (70, k_qtypeIn), (82, k_qlookTwo), (83, k_qlookIf), (84, k_qlookCast), (88, k_qlookCall), (71, k_qisI)] 70 As M P = k_qtypeIn As M P := fun _ _ _ => rfl
    have g82 : ∀ As M P, mm_gl [(79, k_qfound), (76, k_qcodeOf), (75, k_qfail), (70, k_qtypeIn), (82, k_qlookTwo), (83, k_qlookIf), (84, k_qlookCast), (88, k_qlookCall), (71, k_qisI)] 82 As M P = k_qlookTwo As M P := fun _ _ _ => rfl
    have g83 : ∀ As M P, mm_gl [(79, k_qfound), (76, k_qcodeOf), (75, k_qfail), (70, k_qtypeIn), (82, k_qlookTwo), (83, k_qlookIf), (84, k_qlookCast), (88, k_qlookCall), (71, k_qisI)] 83 As M P = k_qlookIf As M P := fun _ _ _ => rfl
    have g84 : ∀ As M P, mm_gl [(79, k_qfound), (76, k_qcodeOf), (75, k_qfail), (70, k_qtypeIn), (82, k_qlookTwo), (83, k_qlookIf), (84, k_qlookCast), (88, k_qlookCall), (71, k_qisI)] 84 As M P = k_qlookCast As M P := fun _ _ _ => rfl
    have g88 : ∀ As M P, mm_gl [(79, k_qfound), (76, k_qcodeOf), (75, k_qfail), (70, k_qtypeIn), (82, k_qlookTwo), (83, k_qlookIf), (84, k_qlookCast), (88, k_qlookCall), (71, k_qisI)] 88 As M P = k_qlookCall As M P := fun _ _ _ => rfl
    have g71 : ∀ As M P, mm_gl [(79, k_qfound), (76, k_qcodeOf), (75, k_qfail), (70, k_qtypeIn), (82, k_qlookTwo), (83, k_qlookIf), (84, k_qlookCast), (88, k_qlookCall), (71, k_qisI)] 71 As M P = k_qisI As M P := fun _ _ _ => rfl
    refine mm_meth 89 (by decide) ⟨rfl, rfl, by decide, by decide⟩ (mm_okC v_qfound (by decide) (by decide) (mm_okC v_qcodeOf (by decide) (by decide) (mm_okC v_qfail (by decide) (by decide) (mm_okC v_qtypeIn (by decide) (by decide) (mm_okC v_qlookTwo (by decide) (by decide) (mm_okC v_qlookIf (by decide) (by decide) (mm_okC v_qlookCast (by decide) (by decide) (mm_okC v_qlookCall (by decide) (by decide) (mm_okC v_qisI (by decide) (by decide) mm_okN))))))))) (Nat.le_of_ble_eq_true rfl) 120 ?_
    show mm_x (5, 6, none, false, 0, 0, none, false) prog_10_method_29_code (mm_gl [(79, k_qfound), (76, k_qcodeOf), (75, k_qfail), (70, k_qtypeIn), (82, k_qlookTwo), (83, k_qlookIf), (84, k_qlookCast), (88, k_qlookCall), (71, k_qisI)]) (fun _ => none) Post 120 0 [some (.inr (.inr (some (30, 0)))), some (.inl i), some (.inl n), none, none, none] [] M 0 0
    unfold t_look at h
    rw [ea, eb, ec, ek] at h
    by_cases z0 : kk = 0
    · skip
      rw [z0] at ek
      have l1 : ((0 : Int32) = 1) = False := by decide
      have l13 : ((0 : Int32) = 13) = False := by decide
      have l14 : ((0 : Int32) = 14) = False := by decide
      have l15 : ((0 : Int32) = 15) = False := by decide
      have l16 : ((0 : Int32) = 16) = False := by decide
      have l3 : ((13 : Int32) ≤ 0) = False := by decide
      simp only [t_lookK, if_true, if_false, z0, l1, l3, l13, l14, l15, l16] at h
      simp (config := { maxSteps := 2000000 }) only [hG, hi, ho, hn6, nn6, xS, ea, eb, ec, ek, s0, s1, s2, s3, s4, s5, s6, s7, s8, s9, s10, l1, l3, l13, l14, l15, l16, ↓g79, ↓e_qfound, mk_79, l_10, ↓pr_f, ↓xs_cT, ↓xs_cF, ↓lf_0, ↓lf_1, ↓lf_2, ↓lf_3, Bool.not_eq_false, Bool.not_eq_true, kn_0, kn_1, Classical.not_not, bn_0, bn_1, bi_n, bi_0, bi_f, ↓xs_x, ↓xs_kk, xs_s, ↓xs_c, xs_o, ↓xs_p1, ↓xs_pI, ↓xs_pL, ↓xs_pR, ↓xs_vI, ↓xs_vL, ↓xs_vQ, ↓xs_lV0, ↓xs_lVs, ↓xs_pN0, ↓xs_pNs, xs_k0, xs_0eq, xs_0ne, xs_0lt, xs_0ge, xs_0gt, xs_0le, xs_2eq, xs_2ne, xs_2lt, xs_2ge, xs_2gt, xs_2le, xs_catI, xs_catL, xs_catR, xs_sm0, xs_sm1, xs_tl1, xs_tl0, xs_nI, xs_fI, ↓xs_putI, ↓xs_putL, ↓xs_putR, fv_0, fv_1, fv_2, fv_3, st1_0, st1_1I, st2_1I, st1_1L, st2_1L, st1_1R, st2_1R, st1_1N, st2_1N, st2_0, st1_s, st2_s, xi_iconst, xi_bipush, xi_sipush, xi_iload_n, xi_iload, xi_aload_n, xi_istore_n, xi_istore, xi_iadd, xi_imul, xi_ineg, xi_i2l, xi_pop, xi_ifCond, xi_if_icmp, xi_goto, xi_iaload, xi_laload, xi_return_, xs_ivS, xs_ivN, xs_call, k_ic_0, k_ic_1, k_bi_m2, k_bi_13, k_bi_14, k_bi_15, k_bi_60, k_si_300, k_si_400, gy_30, gm_30, gy_31, gl_31, gm_31, gy_32, gl_32, gm_32, gy_33, gl_33, gm_33, gy_34, gl_34, gm_34, gy_35, gl_35, gm_35, gy_36, gl_36, gm_36, gy_37, gl_37, gm_37, gy_38, gl_38, gm_38, gy_39, gl_39, gm_39, gy_40, gl_40, gm_40, gy_41, gl_41, gm_41, gy_42, gl_42, gm_42, gy_43, gl_43, gm_43, gy_44, gl_44, gm_44, gy_45, gl_45, gm_45, gy_46, gl_46, gm_46, gy_47, gl_47, gm_47, gy_48, gl_48, gm_48, gy_49, gl_49, gm_49, gy_50, gl_50, gm_50, gy_51, gl_51, gm_51, gy_52, gl_52, gm_52, gy_53, gl_53, gm_53, gy_54, gl_54, gm_54, gy_55, gl_55, gm_55, gy_56, gl_56, gm_56, gy_57, gl_57, gm_57, gm_999, gr_30_5, gr_30_6, gr_30_15, gr_30_20, gr_30_35, gr_30_36, gf_5_5, gf_5_6, gf_5_15, gf_5_20, gf_5_35, gf_5_36, gs_1, gs_2, gs_3, gg_i, gg_z, gg_l, gg_o, gg_a, gi_s, gi_a, List.toList_toArray, Nat.reduceAdd, Int.reduceAdd, Nat.reduceLeDiff, Nat.reduceLT, Nat.reduceEqDiff, ↓reduceIte, ne_eq, not_false_eq_true, true_imp_iff, false_imp_iff, not_true_eq_false, implies_true, Jvm.ClassFile.FieldType.object.injEq, exists_eq_left', exists_eq_left, decide_eq_true_eq, true_and, and_true, true_or, or_true, false_or, or_false, Nat.le_refl, forall_const, Fin.isValue, Fin.val_zero, Fin.val_one, reduceCtorEq, Nat.zero_add, Int.zero_add, Int.add_zero, Option.some.injEq, Sum.inl.injEq, Sum.inr.injEq, Prod.mk.injEq, and_self, eq_self, xg_f fl_5_119, xg_f fl_5_122, xg_f fl_5_25, xg_f fl_5_29, xg_f fl_5_57, xg_f fl_5_72, xv_f mt_5_162, xv_f mt_5_165, xv_f mt_5_184, xv_f mt_5_188, xv_f mt_5_204, xv_f mt_5_207, xv_f mt_5_211, xv_f mt_5_214, xv_f mt_5_217, d89_0, d89_1, d89_4, d89_5, d89_6, d89_7, d89_8, d89_11, d89_12, d89_13, d89_15, d89_16, d89_19, d89_20, d89_21, d89_23, d89_24, d89_27, d89_28, d89_29, d89_30, d89_33, d89_34, d89_36, d89_37, d89_40, d89_43, d89_44, d89_45, d89_48, d89_49, d89_51, d89_53, d89_56, d89_59, d89_62, d89_63, d89_65, d89_66, d89_67, d89_70, d89_71, d89_74, d89_75, d89_76, d89_79, d89_80, d89_81, d89_82, d89_83, d89_84, d89_85, d89_87, d89_89, d89_92, d89_95, d89_96, d89_98, d89_100, d89_103, d89_106, d89_109, d89_110, d89_113, d89_114, d89_116, d89_119, d89_120, d89_123, d89_124, d89_125, d89_128, d89_129, d89_132, d89_133, d89_134, d89_137, d89_140, d89_141, d89_143, d89_146, d89_147, d89_148, d89_149, d89_152, d89_155, d89_156, d89_158, d89_161, d89_162, d89_163, d89_164, d89_167, d89_170, d89_171, d89_173, d89_176, d89_177, d89_178, d89_179, d89_182, d89_185, d89_186, d89_188, d89_191, d89_192, d89_193, d89_194, d89_197, d89_200, d89_201, d89_202, d89_205, d89_206, d89_208, d89_209, d89_211, d89_212, d89_213, d89_216, d89_219, d89_220, d89_222, d89_223, d89_224, d89_227, d89_228, d89_231, d89_232, d89_233, d89_234, d89_237, d89_238, d89_239, d89_242, d89_243, d89_245, d89_246, d89_248, d89_249, d89_250, d89_253, d89_254, d89_257, d89_258, d89_260, d89_261, d89_263, d89_264, d89_265, d89_266, d89_267, d89_270, d89_271, d89_274, d89_275, d89_277, d89_278, d89_280, d89_281, d89_282, d89_283, d89_286, fl_5_119, fl_5_122, fl_5_25, fl_5_29, fl_5_57, fl_5_72, mt_5_162, mt_5_165, mt_5_184, mt_5_188, mt_5_204, mt_5_207, mt_5_211, mt_5_214, mt_5_217, jt_106_7, jt_110_4, jt_116_12, jt_125_9, jt_137_149, jt_143_12, jt_152_134, jt_158_12, jt_167_119, jt_173_12, jt_182_104, jt_188_12, jt_197_89, jt_216_15, jt_228_58, jt_24_19, jt_250_20, jt_267_16, jt_40_246, jt_45_29, jt_59_15, jt_71_215, jt_76_64, jp_106_7, jp_110_4, jp_116_12, jp_125_9, jp_137_149, jp_143_12, jp_152_134, jp_158_12, jp_167_119, jp_173_12, jp_182_104, jp_188_12, jp_197_89, jp_216_15, jp_228_58, jp_24_19, jp_250_20, jp_267_16, jp_40_246, jp_45_29, jp_59_15, jp_71_215, jp_76_64]
      first | exact h
    by_cases z1 : kk = 1
    · obtain ⟨cd, ecd⟩ : ∃ cd, t_codeOf M (M.1 41 0 i.toNatClampNeg) a = cd := ⟨_, rfl⟩
      rw [z1] at ek
      have l0 : ((1 : Int32) = 0) = False := by decide
      have l13 : ((1 : Int32) = 13) = False := by decide
      have l14 : ((1 : Int32) = 14) = False := by decide
      have l15 : ((1 : Int32) = 15) = False := by decide
      have l16 : ((1 : Int32) = 16) = False := by decide
      have l3 : ((13 : Int32) ≤ 1) = False := by decide
      simp only [t_lookK, if_true, if_false, z1, l0, l3, l13, l14, l15, l16] at h
      rw [ecd] at h
      simp (config := { maxSteps := 2000000 }) only [hG, hi, ho, hn6, nn6, xS, ea, eb, ec, ek, s0, s1, s2, s3, s4, s5, s6, s7, s8, s9, s10, l0, l3, l13, l14, l15, l16, ecd, ↓g75, ↓g76, ↓g70, ↓g79, ↓e_qfail, ↓e_qcodeOf, ↓e_qtypeIn, ↓e_qfound, mk_75, mk_76, mk_70, mk_79, l_10, ↓pr_f, ↓xs_cT, ↓xs_cF, ↓lf_0, ↓lf_1, ↓lf_2, ↓lf_3, Bool.not_eq_false, Bool.not_eq_true, kn_0, kn_1, Classical.not_not, bn_0, bn_1, bi_n, bi_0, bi_f, ↓xs_x, ↓xs_kk, xs_s, ↓xs_c, xs_o, ↓xs_p1, ↓xs_pI, ↓xs_pL, ↓xs_pR, ↓xs_vI, ↓xs_vL, ↓xs_vQ, ↓xs_lV0, ↓xs_lVs, ↓xs_pN0, ↓xs_pNs, xs_k0, xs_0eq, xs_0ne, xs_0lt, xs_0ge, xs_0gt, xs_0le, xs_2eq, xs_2ne, xs_2lt, xs_2ge, xs_2gt, xs_2le, xs_catI, xs_catL, xs_catR, xs_sm0, xs_sm1, xs_tl1, xs_tl0, xs_nI, xs_fI, ↓xs_putI, ↓xs_putL, ↓xs_putR, fv_0, fv_1, fv_2, fv_3, st1_0, st1_1I, st2_1I, st1_1L, st2_1L, st1_1R, st2_1R, st1_1N, st2_1N, st2_0, st1_s, st2_s, xi_iconst, xi_bipush, xi_sipush, xi_iload_n, xi_iload, xi_aload_n, xi_istore_n, xi_istore, xi_iadd, xi_imul, xi_ineg, xi_i2l, xi_pop, xi_ifCond, xi_if_icmp, xi_goto, xi_iaload, xi_laload, xi_return_, xs_ivS, xs_ivN, xs_call, k_ic_0, k_ic_1, k_bi_m2, k_bi_13, k_bi_14, k_bi_15, k_bi_60, k_si_300, k_si_400, gy_30, gm_30, gy_31, gl_31, gm_31, gy_32, gl_32, gm_32, gy_33, gl_33, gm_33, gy_34, gl_34, gm_34, gy_35, gl_35, gm_35, gy_36, gl_36, gm_36, gy_37, gl_37, gm_37, gy_38, gl_38, gm_38, gy_39, gl_39, gm_39, gy_40, gl_40, gm_40, gy_41, gl_41, gm_41, gy_42, gl_42, gm_42, gy_43, gl_43, gm_43, gy_44, gl_44, gm_44, gy_45, gl_45, gm_45, gy_46, gl_46, gm_46, gy_47, gl_47, gm_47, gy_48, gl_48, gm_48, gy_49, gl_49, gm_49, gy_50, gl_50, gm_50, gy_51, gl_51, gm_51, gy_52, gl_52, gm_52, gy_53, gl_53, gm_53, gy_54, gl_54, gm_54, gy_55, gl_55, gm_55, gy_56, gl_56, gm_56, gy_57, gl_57, gm_57, gm_999, gr_30_5, gr_30_6, gr_30_15, gr_30_20, gr_30_35, gr_30_36, gf_5_5, gf_5_6, gf_5_15, gf_5_20, gf_5_35, gf_5_36, gs_1, gs_2, gs_3, gg_i, gg_z, gg_l, gg_o, gg_a, gi_s, gi_a, List.toList_toArray, Nat.reduceAdd, Int.reduceAdd, Nat.reduceLeDiff, Nat.reduceLT, Nat.reduceEqDiff, ↓reduceIte, ne_eq, not_false_eq_true, true_imp_iff, false_imp_iff, not_true_eq_false, implies_true, Jvm.ClassFile.FieldType.object.injEq, exists_eq_left', exists_eq_left, decide_eq_true_eq, true_and, and_true, true_or, or_true, false_or, or_false, Nat.le_refl, forall_const, Fin.isValue, Fin.val_zero, Fin.val_one, reduceCtorEq, Nat.zero_add, Int.zero_add, Int.add_zero, Option.some.injEq, Sum.inl.injEq, Sum.inr.injEq, Prod.mk.injEq, and_self, eq_self, xg_f fl_5_119, xg_f fl_5_122, xg_f fl_5_25, xg_f fl_5_29, xg_f fl_5_57, xg_f fl_5_72, xv_f mt_5_162, xv_f mt_5_165, xv_f mt_5_184, xv_f mt_5_188, xv_f mt_5_204, xv_f mt_5_207, xv_f mt_5_211, xv_f mt_5_214, xv_f mt_5_217, d89_0, d89_1, d89_4, d89_5, d89_6, d89_7, d89_8, d89_11, d89_12, d89_13, d89_15, d89_16, d89_19, d89_20, d89_21, d89_23, d89_24, d89_27, d89_28, d89_29, d89_30, d89_33, d89_34, d89_36, d89_37, d89_40, d89_43, d89_44, d89_45, d89_48, d89_49, d89_51, d89_53, d89_56, d89_59, d89_62, d89_63, d89_65, d89_66, d89_67, d89_70, d89_71, d89_74, d89_75, d89_76, d89_79, d89_80, d89_81, d89_82, d89_83, d89_84, d89_85, d89_87, d89_89, d89_92, d89_95, d89_96, d89_98, d89_100, d89_103, d89_106, d89_109, d89_110, d89_113, d89_114, d89_116, d89_119, d89_120, d89_123, d89_124, d89_125, d89_128, d89_129, d89_132, d89_133, d89_134, d89_137, d89_140, d89_141, d89_143, d89_146, d89_147, d89_148, d89_149, d89_152, d89_155, d89_156, d89_158, d89_161, d89_162, d89_163, d89_164, d89_167, d89_170, d89_171, d89_173, d89_176, d89_177, d89_178, d89_179, d89_182, d89_185, d89_186, d89_188, d89_191, d89_192, d89_193, d89_194, d89_197, d89_200, d89_201, d89_202, d89_205, d89_206, d89_208, d89_209, d89_211, d89_212, d89_213, d89_216, d89_219, d89_220, d89_222, d89_223, d89_224, d89_227, d89_228, d89_231, d89_232, d89_233, d89_234, d89_237, d89_238, d89_239, d89_242, d89_243, d89_245, d89_246, d89_248, d89_249, d89_250, d89_253, d89_254, d89_257, d89_258, d89_260, d89_261, d89_263, d89_264, d89_265, d89_266, d89_267, d89_270, d89_271, d89_274, d89_275, d89_277, d89_278, d89_280, d89_281, d89_282, d89_283, d89_286, fl_5_119, fl_5_122, fl_5_25, fl_5_29, fl_5_57, fl_5_72, mt_5_162, mt_5_165, mt_5_184, mt_5_188, mt_5_204, mt_5_207, mt_5_211, mt_5_214, mt_5_217, jt_106_7, jt_110_4, jt_116_12, jt_125_9, jt_137_149, jt_143_12, jt_152_134, jt_158_12, jt_167_119, jt_173_12, jt_182_104, jt_188_12, jt_197_89, jt_216_15, jt_228_58, jt_24_19, jt_250_20, jt_267_16, jt_40_246, jt_45_29, jt_59_15, jt_71_215, jt_76_64, jp_106_7, jp_110_4, jp_116_12, jp_125_9, jp_137_149, jp_143_12, jp_152_134, jp_158_12, jp_167_119, jp_173_12, jp_182_104, jp_188_12, jp_197_89, jp_216_15, jp_228_58, jp_24_19, jp_250_20, jp_267_16, jp_40_246, jp_45_29, jp_59_15, jp_71_215, jp_76_64]
      repeat' (first | apply And.intro | with_reducible intro _)
      all_goals first | (with_reducible contradiction) | (with_reducible assumption) | (refine mm_pm h ?_ ?_ <;> (simp [t_lookPar, t_at, *]; done))
    by_cases z13 : kk = 13
    · skip
      rw [z13] at ek
      have l0 : ((13 : Int32) = 0) = False := by decide
      have l1 : ((13 : Int32) = 1) = False := by decide
      have l14 : ((13 : Int32) = 14) = False := by decide
      have l15 : ((13 : Int32) = 15) = False := by decide
      have l16 : ((13 : Int32) = 16) = False := by decide
      have l3 : ((13 : Int32) ≤ 13) = True := by decide
      simp only [t_lookK, if_true, if_false, z13, l0, l1, l3, l14, l15, l16] at h
      simp (config := { maxSteps := 2000000 }) only [hG, hi, ho, hn6, nn6, xS, ea, eb, ec, ek, s0, s1, s2, s3, s4, s5, s6, s7, s8, s9, s10, l0, l1, l3, l14, l15, l16, xN, xE, ↓g83, ↓e_qlookIf, mk_83, ↓pr_f, ↓xs_cT, ↓xs_cF, ↓lf_0, ↓lf_1, ↓lf_2, ↓lf_3, Bool.not_eq_false, Bool.not_eq_true, kn_0, kn_1, Classical.not_not, bn_0, bn_1, bi_n, bi_0, bi_f, ↓xs_x, ↓xs_kk, xs_s, ↓xs_c, xs_o, ↓xs_p1, ↓xs_pI, ↓xs_pL, ↓xs_pR, ↓xs_vI, ↓xs_vL, ↓xs_vQ, ↓xs_lV0, ↓xs_lVs, ↓xs_pN0, ↓xs_pNs, xs_k0, xs_0eq, xs_0ne, xs_0lt, xs_0ge, xs_0gt, xs_0le, xs_2eq, xs_2ne, xs_2lt, xs_2ge, xs_2gt, xs_2le, xs_catI, xs_catL, xs_catR, xs_sm0, xs_sm1, xs_tl1, xs_tl0, xs_nI, xs_fI, ↓xs_putI, ↓xs_putL, ↓xs_putR, fv_0, fv_1, fv_2, fv_3, st1_0, st1_1I, st2_1I, st1_1L, st2_1L, st1_1R, st2_1R, st1_1N, st2_1N, st2_0, st1_s, st2_s, xi_iconst, xi_bipush, xi_sipush, xi_iload_n, xi_iload, xi_aload_n, xi_istore_n, xi_istore, xi_iadd, xi_imul, xi_ineg, xi_i2l, xi_pop, xi_ifCond, xi_if_icmp, xi_goto, xi_iaload, xi_laload, xi_return_, xs_ivS, xs_ivN, xs_call, k_ic_0, k_ic_1, k_bi_m2, k_bi_13, k_bi_14, k_bi_15, k_bi_60, k_si_300, k_si_400, gy_30, gm_30, gy_31, gl_31, gm_31, gy_32, gl_32, gm_32, gy_33, gl_33, gm_33, gy_34, gl_34, gm_34, gy_35, gl_35, gm_35, gy_36, gl_36, gm_36, gy_37, gl_37, gm_37, gy_38, gl_38, gm_38, gy_39, gl_39, gm_39, gy_40, gl_40, gm_40, gy_41, gl_41, gm_41, gy_42, gl_42, gm_42, gy_43, gl_43, gm_43, gy_44, gl_44, gm_44, gy_45, gl_45, gm_45, gy_46, gl_46, gm_46, gy_47, gl_47, gm_47, gy_48, gl_48, gm_48, gy_49, gl_49, gm_49, gy_50, gl_50, gm_50, gy_51, gl_51, gm_51, gy_52, gl_52, gm_52, gy_53, gl_53, gm_53, gy_54, gl_54, gm_54, gy_55, gl_55, gm_55, gy_56, gl_56, gm_56, gy_57, gl_57, gm_57, gm_999, gr_30_5, gr_30_6, gr_30_15, gr_30_20, gr_30_35, gr_30_36, gf_5_5, gf_5_6, gf_5_15, gf_5_20, gf_5_35, gf_5_36, gs_1, gs_2, gs_3, gg_i, gg_z, gg_l, gg_o, gg_a, gi_s, gi_a, List.toList_toArray, Nat.reduceAdd, Int.reduceAdd, Nat.reduceLeDiff, Nat.reduceLT, Nat.reduceEqDiff, ↓reduceIte, ne_eq, not_false_eq_true, true_imp_iff, false_imp_iff, not_true_eq_false, implies_true, Jvm.ClassFile.FieldType.object.injEq, exists_eq_left', exists_eq_left, decide_eq_true_eq, true_and, and_true, true_or, or_true, false_or, or_false, Nat.le_refl, forall_const, Fin.isValue, Fin.val_zero, Fin.val_one, reduceCtorEq, Nat.zero_add, Int.zero_add, Int.add_zero, Option.some.injEq, Sum.inl.injEq, Sum.inr.injEq, Prod.mk.injEq, and_self, eq_self, xg_f fl_5_119, xg_f fl_5_122, xg_f fl_5_25, xg_f fl_5_29, xg_f fl_5_57, xg_f fl_5_72, xv_f mt_5_162, xv_f mt_5_165, xv_f mt_5_184, xv_f mt_5_188, xv_f mt_5_204, xv_f mt_5_207, xv_f mt_5_211, xv_f mt_5_214, xv_f mt_5_217, d89_0, d89_1, d89_4, d89_5, d89_6, d89_7, d89_8, d89_11, d89_12, d89_13, d89_15, d89_16, d89_19, d89_20, d89_21, d89_23, d89_24, d89_27, d89_28, d89_29, d89_30, d89_33, d89_34, d89_36, d89_37, d89_40, d89_43, d89_44, d89_45, d89_48, d89_49, d89_51, d89_53, d89_56, d89_59, d89_62, d89_63, d89_65, d89_66, d89_67, d89_70, d89_71, d89_74, d89_75, d89_76, d89_79, d89_80, d89_81, d89_82, d89_83, d89_84, d89_85, d89_87, d89_89, d89_92, d89_95, d89_96, d89_98, d89_100, d89_103, d89_106, d89_109, d89_110, d89_113, d89_114, d89_116, d89_119, d89_120, d89_123, d89_124, d89_125, d89_128, d89_129, d89_132, d89_133, d89_134, d89_137, d89_140, d89_141, d89_143, d89_146, d89_147, d89_148, d89_149, d89_152, d89_155, d89_156, d89_158, d89_161, d89_162, d89_163, d89_164, d89_167, d89_170, d89_171, d89_173, d89_176, d89_177, d89_178, d89_179, d89_182, d89_185, d89_186, d89_188, d89_191, d89_192, d89_193, d89_194, d89_197, d89_200, d89_201, d89_202, d89_205, d89_206, d89_208, d89_209, d89_211, d89_212, d89_213, d89_216, d89_219, d89_220, d89_222, d89_223, d89_224, d89_227, d89_228, d89_231, d89_232, d89_233, d89_234, d89_237, d89_238, d89_239, d89_242, d89_243, d89_245, d89_246, d89_248, d89_249, d89_250, d89_253, d89_254, d89_257, d89_258, d89_260, d89_261, d89_263, d89_264, d89_265, d89_266, d89_267, d89_270, d89_271, d89_274, d89_275, d89_277, d89_278, d89_280, d89_281, d89_282, d89_283, d89_286, fl_5_119, fl_5_122, fl_5_25, fl_5_29, fl_5_57, fl_5_72, mt_5_162, mt_5_165, mt_5_184, mt_5_188, mt_5_204, mt_5_207, mt_5_211, mt_5_214, mt_5_217, jt_106_7, jt_110_4, jt_116_12, jt_125_9, jt_137_149, jt_143_12, jt_152_134, jt_158_12, jt_167_119, jt_173_12, jt_182_104, jt_188_12, jt_197_89, jt_216_15, jt_228_58, jt_24_19, jt_250_20, jt_267_16, jt_40_246, jt_45_29, jt_59_15, jt_71_215, jt_76_64, jp_106_7, jp_110_4, jp_116_12, jp_125_9, jp_137_149, jp_143_12, jp_152_134, jp_158_12, jp_167_119, jp_173_12, jp_182_104, jp_188_12, jp_197_89, jp_216_15, jp_228_58, jp_24_19, jp_250_20, jp_267_16, jp_40_246, jp_45_29, jp_59_15, jp_71_215, jp_76_64]
      first | exact h
    by_cases z14 : kk = 14
    · skip
      rw [z14] at ek
      have l0 : ((14 : Int32) = 0) = False := by decide
      have l1 : ((14 : Int32) = 1) = False := by decide
      have l13 : ((14 : Int32) = 13) = False := by decide
      have l15 : ((14 : Int32) = 15) = False := by decide
      have l16 : ((14 : Int32) = 16) = False := by decide
      have l3 : ((13 : Int32) ≤ 14) = True := by decide
      simp only [t_lookK, if_true, if_false, z14, l0, l1, l3, l13, l15, l16] at h
      simp (config := { maxSteps := 2000000 }) only [hG, hi, ho, hn6, nn6, xS, ea, eb, ec, ek, s0, s1, s2, s3, s4, s5, s6, s7, s8, s9, s10, l0, l1, l3, l13, l15, l16, xN, xE, ↓g84, ↓e_qlookCast, mk_84, ↓pr_f, ↓xs_cT, ↓xs_cF, ↓lf_0, ↓lf_1, ↓lf_2, ↓lf_3, Bool.not_eq_false, Bool.not_eq_true, kn_0, kn_1, Classical.not_not, bn_0, bn_1, bi_n, bi_0, bi_f, ↓xs_x, ↓xs_kk, xs_s, ↓xs_c, xs_o, ↓xs_p1, ↓xs_pI, ↓xs_pL, ↓xs_pR, ↓xs_vI, ↓xs_vL, ↓xs_vQ, ↓xs_lV0, ↓xs_lVs, ↓xs_pN0, ↓xs_pNs, xs_k0, xs_0eq, xs_0ne, xs_0lt, xs_0ge, xs_0gt, xs_0le, xs_2eq, xs_2ne, xs_2lt, xs_2ge, xs_2gt, xs_2le, xs_catI, xs_catL, xs_catR, xs_sm0, xs_sm1, xs_tl1, xs_tl0, xs_nI, xs_fI, ↓xs_putI, ↓xs_putL, ↓xs_putR, fv_0, fv_1, fv_2, fv_3, st1_0, st1_1I, st2_1I, st1_1L, st2_1L, st1_1R, st2_1R, st1_1N, st2_1N, st2_0, st1_s, st2_s, xi_iconst, xi_bipush, xi_sipush, xi_iload_n, xi_iload, xi_aload_n, xi_istore_n, xi_istore, xi_iadd, xi_imul, xi_ineg, xi_i2l, xi_pop, xi_ifCond, xi_if_icmp, xi_goto, xi_iaload, xi_laload, xi_return_, xs_ivS, xs_ivN, xs_call, k_ic_0, k_ic_1, k_bi_m2, k_bi_13, k_bi_14, k_bi_15, k_bi_60, k_si_300, k_si_400, gy_30, gm_30, gy_31, gl_31, gm_31, gy_32, gl_32, gm_32, gy_33, gl_33, gm_33, gy_34, gl_34, gm_34, gy_35, gl_35, gm_35, gy_36, gl_36, gm_36, gy_37, gl_37, gm_37, gy_38, gl_38, gm_38, gy_39, gl_39, gm_39, gy_40, gl_40, gm_40, gy_41, gl_41, gm_41, gy_42, gl_42, gm_42, gy_43, gl_43, gm_43, gy_44, gl_44, gm_44, gy_45, gl_45, gm_45, gy_46, gl_46, gm_46, gy_47, gl_47, gm_47, gy_48, gl_48, gm_48, gy_49, gl_49, gm_49, gy_50, gl_50, gm_50, gy_51, gl_51, gm_51, gy_52, gl_52, gm_52, gy_53, gl_53, gm_53, gy_54, gl_54, gm_54, gy_55, gl_55, gm_55, gy_56, gl_56, gm_56, gy_57, gl_57, gm_57, gm_999, gr_30_5, gr_30_6, gr_30_15, gr_30_20, gr_30_35, gr_30_36, gf_5_5, gf_5_6, gf_5_15, gf_5_20, gf_5_35, gf_5_36, gs_1, gs_2, gs_3, gg_i, gg_z, gg_l, gg_o, gg_a, gi_s, gi_a, List.toList_toArray, Nat.reduceAdd, Int.reduceAdd, Nat.reduceLeDiff, Nat.reduceLT, Nat.reduceEqDiff, ↓reduceIte, ne_eq, not_false_eq_true, true_imp_iff, false_imp_iff, not_true_eq_false, implies_true, Jvm.ClassFile.FieldType.object.injEq, exists_eq_left', exists_eq_left, decide_eq_true_eq, true_and, and_true, true_or, or_true, false_or, or_false, Nat.le_refl, forall_const, Fin.isValue, Fin.val_zero, Fin.val_one, reduceCtorEq, Nat.zero_add, Int.zero_add, Int.add_zero, Option.some.injEq, Sum.inl.injEq, Sum.inr.injEq, Prod.mk.injEq, and_self, eq_self, xg_f fl_5_119, xg_f fl_5_122, xg_f fl_5_25, xg_f fl_5_29, xg_f fl_5_57, xg_f fl_5_72, xv_f mt_5_162, xv_f mt_5_165, xv_f mt_5_184, xv_f mt_5_188, xv_f mt_5_204, xv_f mt_5_207, xv_f mt_5_211, xv_f mt_5_214, xv_f mt_5_217, d89_0, d89_1, d89_4, d89_5, d89_6, d89_7, d89_8, d89_11, d89_12, d89_13, d89_15, d89_16, d89_19, d89_20, d89_21, d89_23, d89_24, d89_27, d89_28, d89_29, d89_30, d89_33, d89_34, d89_36, d89_37, d89_40, d89_43, d89_44, d89_45, d89_48, d89_49, d89_51, d89_53, d89_56, d89_59, d89_62, d89_63, d89_65, d89_66, d89_67, d89_70, d89_71, d89_74, d89_75, d89_76, d89_79, d89_80, d89_81, d89_82, d89_83, d89_84, d89_85, d89_87, d89_89, d89_92, d89_95, d89_96, d89_98, d89_100, d89_103, d89_106, d89_109, d89_110, d89_113, d89_114, d89_116, d89_119, d89_120, d89_123, d89_124, d89_125, d89_128, d89_129, d89_132, d89_133, d89_134, d89_137, d89_140, d89_141, d89_143, d89_146, d89_147, d89_148, d89_149, d89_152, d89_155, d89_156, d89_158, d89_161, d89_162, d89_163, d89_164, d89_167, d89_170, d89_171, d89_173, d89_176, d89_177, d89_178, d89_179, d89_182, d89_185, d89_186, d89_188, d89_191, d89_192, d89_193, d89_194, d89_197, d89_200, d89_201, d89_202, d89_205, d89_206, d89_208, d89_209, d89_211, d89_212, d89_213, d89_216, d89_219, d89_220, d89_222, d89_223, d89_224, d89_227, d89_228, d89_231, d89_232, d89_233, d89_234, d89_237, d89_238, d89_239, d89_242, d89_243, d89_245, d89_246, d89_248, d89_249, d89_250, d89_253, d89_254, d89_257, d89_258, d89_260, d89_261, d89_263, d89_264, d89_265, d89_266, d89_267, d89_270, d89_271, d89_274, d89_275, d89_277, d89_278, d89_280, d89_281, d89_282, d89_283, d89_286, fl_5_119, fl_5_122, fl_5_25, fl_5_29, fl_5_57, fl_5_72, mt_5_162, mt_5_165, mt_5_184, mt_5_188, mt_5_204, mt_5_207, mt_5_211, mt_5_214, mt_5_217, jt_106_7, jt_110_4, jt_116_12, jt_125_9, jt_137_149, jt_143_12, jt_152_134, jt_158_12, jt_167_119, jt_173_12, jt_182_104, jt_188_12, jt_197_89, jt_216_15, jt_228_58, jt_24_19, jt_250_20, jt_267_16, jt_40_246, jt_45_29, jt_59_15, jt_71_215, jt_76_64, jp_106_7, jp_110_4, jp_116_12, jp_125_9, jp_137_149, jp_143_12, jp_152_134, jp_158_12, jp_167_119, jp_173_12, jp_182_104, jp_188_12, jp_197_89, jp_216_15, jp_228_58, jp_24_19, jp_250_20, jp_267_16, jp_40_246, jp_45_29, jp_59_15, jp_71_215, jp_76_64]
      first | exact h
    by_cases z15 : kk = 15
    · have xA := xL.2 (ek.trans z15)
      rw [z15] at ek
      have l0 : ((15 : Int32) = 0) = False := by decide
      have l1 : ((15 : Int32) = 1) = False := by decide
      have l13 : ((15 : Int32) = 13) = False := by decide
      have l14 : ((15 : Int32) = 14) = False := by decide
      have l16 : ((15 : Int32) = 16) = False := by decide
      have l3 : ((13 : Int32) ≤ 15) = True := by decide
      simp only [t_lookK, if_true, if_false, z15, l0, l1, l3, l13, l14, l16] at h
      simp (config := { maxSteps := 2000000 }) only [hG, hi, ho, hn6, nn6, xS, ea, eb, ec, ek, s0, s1, s2, s3, s4, s5, s6, s7, s8, s9, s10, l0, l1, l3, l13, l14, l16, xN, xE, xA, hc, ↓g88, ↓e_qlookCall, mk_88, ↓pr_f, ↓xs_cT, ↓xs_cF, ↓lf_0, ↓lf_1, ↓lf_2, ↓lf_3, Bool.not_eq_false, Bool.not_eq_true, kn_0, kn_1, Classical.not_not, bn_0, bn_1, bi_n, bi_0, bi_f, ↓xs_x, ↓xs_kk, xs_s, ↓xs_c, xs_o, ↓xs_p1, ↓xs_pI, ↓xs_pL, ↓xs_pR, ↓xs_vI, ↓xs_vL, ↓xs_vQ, ↓xs_lV0, ↓xs_lVs, ↓xs_pN0, ↓xs_pNs, xs_k0, xs_0eq, xs_0ne, xs_0lt, xs_0ge, xs_0gt, xs_0le, xs_2eq, xs_2ne, xs_2lt, xs_2ge, xs_2gt, xs_2le, xs_catI, xs_catL, xs_catR, xs_sm0, xs_sm1, xs_tl1, xs_tl0, xs_nI, xs_fI, ↓xs_putI, ↓xs_putL, ↓xs_putR, fv_0, fv_1, fv_2, fv_3, st1_0, st1_1I, st2_1I, st1_1L, st2_1L, st1_1R, st2_1R, st1_1N, st2_1N, st2_0, st1_s, st2_s, xi_iconst, xi_bipush, xi_sipush, xi_iload_n, xi_iload, xi_aload_n, xi_istore_n, xi_istore, xi_iadd, xi_imul, xi_ineg, xi_i2l, xi_pop, xi_ifCond, xi_if_icmp, xi_goto, xi_iaload, xi_laload, xi_return_, xs_ivS, xs_ivN, xs_call, k_ic_0, k_ic_1, k_bi_m2, k_bi_13, k_bi_14, k_bi_15, k_bi_60, k_si_300, k_si_400, gy_30, gm_30, gy_31, gl_31, gm_31, gy_32, gl_32, gm_32, gy_33, gl_33, gm_33, gy_34, gl_34, gm_34, gy_35, gl_35, gm_35, gy_36, gl_36, gm_36, gy_37, gl_37, gm_37, gy_38, gl_38, gm_38, gy_39, gl_39, gm_39, gy_40, gl_40, gm_40, gy_41, gl_41, gm_41, gy_42, gl_42, gm_42, gy_43, gl_43, gm_43, gy_44, gl_44, gm_44, gy_45, gl_45, gm_45, gy_46, gl_46, gm_46, gy_47, gl_47, gm_47, gy_48, gl_48, gm_48, gy_49, gl_49, gm_49, gy_50, gl_50, gm_50, gy_51, gl_51, gm_51, gy_52, gl_52, gm_52, gy_53, gl_53, gm_53, gy_54, gl_54, gm_54, gy_55, gl_55, gm_55, gy_56, gl_56, gm_56, gy_57, gl_57, gm_57, gm_999, gr_30_5, gr_30_6, gr_30_15, gr_30_20, gr_30_35, gr_30_36, gf_5_5, gf_5_6, gf_5_15, gf_5_20, gf_5_35, gf_5_36, gs_1, gs_2, gs_3, gg_i, gg_z, gg_l, gg_o, gg_a, gi_s, gi_a, List.toList_toArray, Nat.reduceAdd, Int.reduceAdd, Nat.reduceLeDiff, Nat.reduceLT, Nat.reduceEqDiff, ↓reduceIte, ne_eq, not_false_eq_true, true_imp_iff, false_imp_iff, not_true_eq_false, implies_true, Jvm.ClassFile.FieldType.object.injEq, exists_eq_left', exists_eq_left, decide_eq_true_eq, true_and, and_true, true_or, or_true, false_or, or_false, Nat.le_refl, forall_const, Fin.isValue, Fin.val_zero, Fin.val_one, reduceCtorEq, Nat.zero_add, Int.zero_add, Int.add_zero, Option.some.injEq, Sum.inl.injEq, Sum.inr.injEq, Prod.mk.injEq, and_self, eq_self, xg_f fl_5_119, xg_f fl_5_122, xg_f fl_5_25, xg_f fl_5_29, xg_f fl_5_57, xg_f fl_5_72, xv_f mt_5_162, xv_f mt_5_165, xv_f mt_5_184, xv_f mt_5_188, xv_f mt_5_204, xv_f mt_5_207, xv_f mt_5_211, xv_f mt_5_214, xv_f mt_5_217, d89_0, d89_1, d89_4, d89_5, d89_6, d89_7, d89_8, d89_11, d89_12, d89_13, d89_15, d89_16, d89_19, d89_20, d89_21, d89_23, d89_24, d89_27, d89_28, d89_29, d89_30, d89_33, d89_34, d89_36, d89_37, d89_40, d89_43, d89_44, d89_45, d89_48, d89_49, d89_51, d89_53, d89_56, d89_59, d89_62, d89_63, d89_65, d89_66, d89_67, d89_70, d89_71, d89_74, d89_75, d89_76, d89_79, d89_80, d89_81, d89_82, d89_83, d89_84, d89_85, d89_87, d89_89, d89_92, d89_95, d89_96, d89_98, d89_100, d89_103, d89_106, d89_109, d89_110, d89_113, d89_114, d89_116, d89_119, d89_120, d89_123, d89_124, d89_125, d89_128, d89_129, d89_132, d89_133, d89_134, d89_137, d89_140, d89_141, d89_143, d89_146, d89_147, d89_148, d89_149, d89_152, d89_155, d89_156, d89_158, d89_161, d89_162, d89_163, d89_164, d89_167, d89_170, d89_171, d89_173, d89_176, d89_177, d89_178, d89_179, d89_182, d89_185, d89_186, d89_188, d89_191, d89_192, d89_193, d89_194, d89_197, d89_200, d89_201, d89_202, d89_205, d89_206, d89_208, d89_209, d89_211, d89_212, d89_213, d89_216, d89_219, d89_220, d89_222, d89_223, d89_224, d89_227, d89_228, d89_231, d89_232, d89_233, d89_234, d89_237, d89_238, d89_239, d89_242, d89_243, d89_245, d89_246, d89_248, d89_249, d89_250, d89_253, d89_254, d89_257, d89_258, d89_260, d89_261, d89_263, d89_264, d89_265, d89_266, d89_267, d89_270, d89_271, d89_274, d89_275, d89_277, d89_278, d89_280, d89_281, d89_282, d89_283, d89_286, fl_5_119, fl_5_122, fl_5_25, fl_5_29, fl_5_57, fl_5_72, mt_5_162, mt_5_165, mt_5_184, mt_5_188, mt_5_204, mt_5_207, mt_5_211, mt_5_214, mt_5_217, jt_106_7, jt_110_4, jt_116_12, jt_125_9, jt_137_149, jt_143_12, jt_152_134, jt_158_12, jt_167_119, jt_173_12, jt_182_104, jt_188_12, jt_197_89, jt_216_15, jt_228_58, jt_24_19, jt_250_20, jt_267_16, jt_40_246, jt_45_29, jt_59_15, jt_71_215, jt_76_64, jp_106_7, jp_110_4, jp_116_12, jp_125_9, jp_137_149, jp_143_12, jp_152_134, jp_158_12, jp_167_119, jp_173_12, jp_182_104, jp_188_12, jp_197_89, jp_216_15, jp_228_58, jp_24_19, jp_250_20, jp_267_16, jp_40_246, jp_45_29, jp_59_15, jp_71_215, jp_76_64]
      first | exact h
    by_cases z16 : kk = 16
    · have oa := hnd.2.2.2.2.2.2.2.1 z16
      have a6 := in12 hi (xN.2.1.in60 oa.1)
      rw [z16] at ek
      have l0 : ((16 : Int32) = 0) = False := by decide
      have l1 : ((16 : Int32) = 1) = False := by decide
      have l13 : ((16 : Int32) = 13) = False := by decide
      have l14 : ((16 : Int32) = 14) = False := by decide
      have l15 : ((16 : Int32) = 15) = False := by decide
      have l3 : ((13 : Int32) ≤ 16) = True := by decide
      simp only [t_lookK, if_true, if_false, z16, l0, l1, l3, l13, l14, l15] at h
      simp (config := { maxSteps := 2000000 }) only [hG, hi, ho, hn6, nn6, xS, ea, eb, ec, ek, s0, s1, s2, s3, s4, s5, s6, s7, s8, s9, s10, l0, l1, l3, l13, l14, l15, a6, ↓g71, ↓g75, ↓g79, ↓e_qisI, ↓e_qfail, ↓e_qfound, mk_71, mk_75, mk_79, ↓pr_f, ↓xs_cT, ↓xs_cF, ↓lf_0, ↓lf_1, ↓lf_2, ↓lf_3, Bool.not_eq_false, Bool.not_eq_true, kn_0, kn_1, Classical.not_not, bn_0, bn_1, bi_n, bi_0, bi_f, ↓xs_x, ↓xs_kk, xs_s, ↓xs_c, xs_o, ↓xs_p1, ↓xs_pI, ↓xs_pL, ↓xs_pR, ↓xs_vI, ↓xs_vL, ↓xs_vQ, ↓xs_lV0, ↓xs_lVs, ↓xs_pN0, ↓xs_pNs, xs_k0, xs_0eq, xs_0ne, xs_0lt, xs_0ge, xs_0gt, xs_0le, xs_2eq, xs_2ne, xs_2lt, xs_2ge, xs_2gt, xs_2le, xs_catI, xs_catL, xs_catR, xs_sm0, xs_sm1, xs_tl1, xs_tl0, xs_nI, xs_fI, ↓xs_putI, ↓xs_putL, ↓xs_putR, fv_0, fv_1, fv_2, fv_3, st1_0, st1_1I, st2_1I, st1_1L, st2_1L, st1_1R, st2_1R, st1_1N, st2_1N, st2_0, st1_s, st2_s, xi_iconst, xi_bipush, xi_sipush, xi_iload_n, xi_iload, xi_aload_n, xi_istore_n, xi_istore, xi_iadd, xi_imul, xi_ineg, xi_i2l, xi_pop, xi_ifCond, xi_if_icmp, xi_goto, xi_iaload, xi_laload, xi_return_, xs_ivS, xs_ivN, xs_call, k_ic_0, k_ic_1, k_bi_m2, k_bi_13, k_bi_14, k_bi_15, k_bi_60, k_si_300, k_si_400, gy_30, gm_30, gy_31, gl_31, gm_31, gy_32, gl_32, gm_32, gy_33, gl_33, gm_33, gy_34, gl_34, gm_34, gy_35, gl_35, gm_35, gy_36, gl_36, gm_36, gy_37, gl_37, gm_37, gy_38, gl_38, gm_38, gy_39, gl_39, gm_39, gy_40, gl_40, gm_40, gy_41, gl_41, gm_41, gy_42, gl_42, gm_42, gy_43, gl_43, gm_43, gy_44, gl_44, gm_44, gy_45, gl_45, gm_45, gy_46, gl_46, gm_46, gy_47, gl_47, gm_47, gy_48, gl_48, gm_48, gy_49, gl_49, gm_49, gy_50, gl_50, gm_50, gy_51, gl_51, gm_51, gy_52, gl_52, gm_52, gy_53, gl_53, gm_53, gy_54, gl_54, gm_54, gy_55, gl_55, gm_55, gy_56, gl_56, gm_56, gy_57, gl_57, gm_57, gm_999, gr_30_5, gr_30_6, gr_30_15, gr_30_20, gr_30_35, gr_30_36, gf_5_5, gf_5_6, gf_5_15, gf_5_20, gf_5_35, gf_5_36, gs_1, gs_2, gs_3, gg_i, gg_z, gg_l, gg_o, gg_a, gi_s, gi_a, List.toList_toArray, Nat.reduceAdd, Int.reduceAdd, Nat.reduceLeDiff, Nat.reduceLT, Nat.reduceEqDiff, ↓reduceIte, ne_eq, not_false_eq_true, true_imp_iff, false_imp_iff, not_true_eq_false, implies_true, Jvm.ClassFile.FieldType.object.injEq, exists_eq_left', exists_eq_left, decide_eq_true_eq, true_and, and_true, true_or, or_true, false_or, or_false, Nat.le_refl, forall_const, Fin.isValue, Fin.val_zero, Fin.val_one, reduceCtorEq, Nat.zero_add, Int.zero_add, Int.add_zero, Option.some.injEq, Sum.inl.injEq, Sum.inr.injEq, Prod.mk.injEq, and_self, eq_self, xg_f fl_5_119, xg_f fl_5_122, xg_f fl_5_25, xg_f fl_5_29, xg_f fl_5_57, xg_f fl_5_72, xv_f mt_5_162, xv_f mt_5_165, xv_f mt_5_184, xv_f mt_5_188, xv_f mt_5_204, xv_f mt_5_207, xv_f mt_5_211, xv_f mt_5_214, xv_f mt_5_217, d89_0, d89_1, d89_4, d89_5, d89_6, d89_7, d89_8, d89_11, d89_12, d89_13, d89_15, d89_16, d89_19, d89_20, d89_21, d89_23, d89_24, d89_27, d89_28, d89_29, d89_30, d89_33, d89_34, d89_36, d89_37, d89_40, d89_43, d89_44, d89_45, d89_48, d89_49, d89_51, d89_53, d89_56, d89_59, d89_62, d89_63, d89_65, d89_66, d89_67, d89_70, d89_71, d89_74, d89_75, d89_76, d89_79, d89_80, d89_81, d89_82, d89_83, d89_84, d89_85, d89_87, d89_89, d89_92, d89_95, d89_96, d89_98, d89_100, d89_103, d89_106, d89_109, d89_110, d89_113, d89_114, d89_116, d89_119, d89_120, d89_123, d89_124, d89_125, d89_128, d89_129, d89_132, d89_133, d89_134, d89_137, d89_140, d89_141, d89_143, d89_146, d89_147, d89_148, d89_149, d89_152, d89_155, d89_156, d89_158, d89_161, d89_162, d89_163, d89_164, d89_167, d89_170, d89_171, d89_173, d89_176, d89_177, d89_178, d89_179, d89_182, d89_185, d89_186, d89_188, d89_191, d89_192, d89_193, d89_194, d89_197, d89_200, d89_201, d89_202, d89_205, d89_206, d89_208, d89_209, d89_211, d89_212, d89_213, d89_216, d89_219, d89_220, d89_222, d89_223, d89_224, d89_227, d89_228, d89_231, d89_232, d89_233, d89_234, d89_237, d89_238, d89_239, d89_242, d89_243, d89_245, d89_246, d89_248, d89_249, d89_250, d89_253, d89_254, d89_257, d89_258, d89_260, d89_261, d89_263, d89_264, d89_265, d89_266, d89_267, d89_270, d89_271, d89_274, d89_275, d89_277, d89_278, d89_280, d89_281, d89_282, d89_283, d89_286, fl_5_119, fl_5_122, fl_5_25, fl_5_29, fl_5_57, fl_5_72, mt_5_162, mt_5_165, mt_5_184, mt_5_188, mt_5_204, mt_5_207, mt_5_211, mt_5_214, mt_5_217, jt_106_7, jt_110_4, jt_116_12, jt_125_9, jt_137_149, jt_143_12, jt_152_134, jt_158_12, jt_167_119, jt_173_12, jt_182_104, jt_188_12, jt_197_89, jt_216_15, jt_228_58, jt_24_19, jt_250_20, jt_267_16, jt_40_246, jt_45_29, jt_59_15, jt_71_215, jt_76_64, jp_106_7, jp_110_4, jp_116_12, jp_125_9, jp_137_149, jp_143_12, jp_152_134, jp_158_12, jp_167_119, jp_173_12, jp_182_104, jp_188_12, jp_197_89, jp_216_15, jp_228_58, jp_24_19, jp_250_20, jp_267_16, jp_40_246, jp_45_29, jp_59_15, jp_71_215, jp_76_64]
      repeat' (first | apply And.intro | with_reducible intro _)
      all_goals first | (with_reducible contradiction) | (with_reducible assumption) | (refine mm_pm h ?_ ?_ <;> (simp [t_lookWidth, t_at, *]; done))
    have z3 := k_rest2 hnd.2.2.1 z13 z14 z15 z16
    have xZ := xL.1 ⟨by rw [ek]; exact z0, by rw [ek]; exact z1, by rw [ek]; exact z13, by rw [ek]; exact z14, by rw [ek]; exact z15, by rw [ek]; exact z16⟩
    rw [ea, eb] at xZ
    simp only [t_lookK, z0, z1, z13, z14, z15, z16, if_false] at h
    simp (config := { maxSteps := 2000000 }) only [hG, hi, ho, hn6, nn6, xN, xE, xZ, ea, eb, ec, ek, z0, z1, z3, z13, z14, z15, z16, s0, s1, s2, s3, s4, s5, s6, s7, s8, s9, s10, ↓g82, ↓e_qlookTwo, mk_82, ↓pr_f, ↓xs_cT, ↓xs_cF, ↓lf_0, ↓lf_1, ↓lf_2, ↓lf_3, Bool.not_eq_false, Bool.not_eq_true, kn_0, kn_1, Classical.not_not, bn_0, bn_1, bi_n, bi_0, bi_f, ↓xs_x, ↓xs_kk, xs_s, ↓xs_c, xs_o, ↓xs_p1, ↓xs_pI, ↓xs_pL, ↓xs_pR, ↓xs_vI, ↓xs_vL, ↓xs_vQ, ↓xs_lV0, ↓xs_lVs, ↓xs_pN0, ↓xs_pNs, xs_k0, xs_0eq, xs_0ne, xs_0lt, xs_0ge, xs_0gt, xs_0le, xs_2eq, xs_2ne, xs_2lt, xs_2ge, xs_2gt, xs_2le, xs_catI, xs_catL, xs_catR, xs_sm0, xs_sm1, xs_tl1, xs_tl0, xs_nI, xs_fI, ↓xs_putI, ↓xs_putL, ↓xs_putR, fv_0, fv_1, fv_2, fv_3, st1_0, st1_1I, st2_1I, st1_1L, st2_1L, st1_1R, st2_1R, st1_1N, st2_1N, st2_0, st1_s, st2_s, xi_iconst, xi_bipush, xi_sipush, xi_iload_n, xi_iload, xi_aload_n, xi_istore_n, xi_istore, xi_iadd, xi_imul, xi_ineg, xi_i2l, xi_pop, xi_ifCond, xi_if_icmp, xi_goto, xi_iaload, xi_laload, xi_return_, xs_ivS, xs_ivN, xs_call, k_ic_0, k_ic_1, k_bi_m2, k_bi_13, k_bi_14, k_bi_15, k_bi_60, k_si_300, k_si_400, gy_30, gm_30, gy_31, gl_31, gm_31, gy_32, gl_32, gm_32, gy_33, gl_33, gm_33, gy_34, gl_34, gm_34, gy_35, gl_35, gm_35, gy_36, gl_36, gm_36, gy_37, gl_37, gm_37, gy_38, gl_38, gm_38, gy_39, gl_39, gm_39, gy_40, gl_40, gm_40, gy_41, gl_41, gm_41, gy_42, gl_42, gm_42, gy_43, gl_43, gm_43, gy_44, gl_44, gm_44, gy_45, gl_45, gm_45, gy_46, gl_46, gm_46, gy_47, gl_47, gm_47, gy_48, gl_48, gm_48, gy_49, gl_49, gm_49, gy_50, gl_50, gm_50, gy_51, gl_51, gm_51, gy_52, gl_52, gm_52, gy_53, gl_53, gm_53, gy_54, gl_54, gm_54, gy_55, gl_55, gm_55, gy_56, gl_56, gm_56, gy_57, gl_57, gm_57, gm_999, gr_30_5, gr_30_6, gr_30_15, gr_30_20, gr_30_35, gr_30_36, gf_5_5, gf_5_6, gf_5_15, gf_5_20, gf_5_35, gf_5_36, gs_1, gs_2, gs_3, gg_i, gg_z, gg_l, gg_o, gg_a, gi_s, gi_a, List.toList_toArray, Nat.reduceAdd, Int.reduceAdd, Nat.reduceLeDiff, Nat.reduceLT, Nat.reduceEqDiff, ↓reduceIte, ne_eq, not_false_eq_true, true_imp_iff, false_imp_iff, not_true_eq_false, implies_true, Jvm.ClassFile.FieldType.object.injEq, exists_eq_left', exists_eq_left, decide_eq_true_eq, true_and, and_true, true_or, or_true, false_or, or_false, Nat.le_refl, forall_const, Fin.isValue, Fin.val_zero, Fin.val_one, reduceCtorEq, Nat.zero_add, Int.zero_add, Int.add_zero, Option.some.injEq, Sum.inl.injEq, Sum.inr.injEq, Prod.mk.injEq, and_self, eq_self, xg_f fl_5_119, xg_f fl_5_122, xg_f fl_5_25, xg_f fl_5_29, xg_f fl_5_57, xg_f fl_5_72, xv_f mt_5_162, xv_f mt_5_165, xv_f mt_5_184, xv_f mt_5_188, xv_f mt_5_204, xv_f mt_5_207, xv_f mt_5_211, xv_f mt_5_214, xv_f mt_5_217, d89_0, d89_1, d89_4, d89_5, d89_6, d89_7, d89_8, d89_11, d89_12, d89_13, d89_15, d89_16, d89_19, d89_20, d89_21, d89_23, d89_24, d89_27, d89_28, d89_29, d89_30, d89_33, d89_34, d89_36, d89_37, d89_40, d89_43, d89_44, d89_45, d89_48, d89_49, d89_51, d89_53, d89_56, d89_59, d89_62, d89_63, d89_65, d89_66, d89_67, d89_70, d89_71, d89_74, d89_75, d89_76, d89_79, d89_80, d89_81, d89_82, d89_83, d89_84, d89_85, d89_87, d89_89, d89_92, d89_95, d89_96, d89_98, d89_100, d89_103, d89_106, d89_109, d89_110, d89_113, d89_114, d89_116, d89_119, d89_120, d89_123, d89_124, d89_125, d89_128, d89_129, d89_132, d89_133, d89_134, d89_137, d89_140, d89_141, d89_143, d89_146, d89_147, d89_148, d89_149, d89_152, d89_155, d89_156, d89_158, d89_161, d89_162, d89_163, d89_164, d89_167, d89_170, d89_171, d89_173, d89_176, d89_177, d89_178, d89_179, d89_182, d89_185, d89_186, d89_188, d89_191, d89_192, d89_193, d89_194, d89_197, d89_200, d89_201, d89_202, d89_205, d89_206, d89_208, d89_209, d89_211, d89_212, d89_213, d89_216, d89_219, d89_220, d89_222, d89_223, d89_224, d89_227, d89_228, d89_231, d89_232, d89_233, d89_234, d89_237, d89_238, d89_239, d89_242, d89_243, d89_245, d89_246, d89_248, d89_249, d89_250, d89_253, d89_254, d89_257, d89_258, d89_260, d89_261, d89_263, d89_264, d89_265, d89_266, d89_267, d89_270, d89_271, d89_274, d89_275, d89_277, d89_278, d89_280, d89_281, d89_282, d89_283, d89_286, fl_5_119, fl_5_122, fl_5_25, fl_5_29, fl_5_57, fl_5_72, mt_5_162, mt_5_165, mt_5_184, mt_5_188, mt_5_204, mt_5_207, mt_5_211, mt_5_214, mt_5_217, jt_106_7, jt_110_4, jt_116_12, jt_125_9, jt_137_149, jt_143_12, jt_152_134, jt_158_12, jt_167_119, jt_173_12, jt_182_104, jt_188_12, jt_197_89, jt_216_15, jt_228_58, jt_24_19, jt_250_20, jt_267_16, jt_40_246, jt_45_29, jt_59_15, jt_71_215, jt_76_64, jp_106_7, jp_110_4, jp_116_12, jp_125_9, jp_137_149, jp_143_12, jp_152_134, jp_158_12, jp_167_119, jp_173_12, jp_182_104, jp_188_12, jp_197_89, jp_216_15, jp_228_58, jp_24_19, jp_250_20, jp_267_16, jp_40_246, jp_45_29, jp_59_15, jp_71_215, jp_76_64]
    first | exact h
end MMD
