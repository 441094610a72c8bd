/-! running -/
section MMD
variable {l : Launch} {D : va_G} {dA : FieldType → ClassId} {sz : Nat}
def s_rBody (M : mm_M) (j : Nat) (x y : Int64) : Int64 × mm_M := s_rn 53 (mm_sI (mm_sI M 21 0 2 0) 21 0 3 0) j (M.1 11 0 (M.1 14 j 0).toNatClampNeg) x y 0
theorem RJ.body {M : mm_M} {j : Nat} (hJ : JJ M) (hR : RM M) (hj : j < 20) (hc : nI j < M.1 12 0 2) : RJ 53 M j (M.1 11 0 (M.1 14 j 0).toNatClampNeg) 0 := by
  have hb := (hR j hj hc).1
  have l2 := (hJ.2.1.2.2.1 _ hb.1).2.1
  refine ⟨hJ, hR, hj, hc, hb, by decide, by decide, ?_⟩
  have e : (0 : Int32).toInt = 0 := by decide
  rw [e]
  have : ((53 : Nat) : Int) = 53 := rfl
  omega
theorem s_hasInst_nI {M : mm_M} {i : Int32} (h : s_hasInst M i = true) : nI i.toNatClampNeg < M.1 12 0 2 := by
  simp only [s_hasInst, Bool.and_eq_true, Bool.not_eq_true', decide_eq_false_iff_not] at h
  have e : nI i.toNatClampNeg = i := by
    apply Int32.toInt_inj.mp
    have := Int32.not_lt.mp h.1
    rw [Int32.le_iff_toInt_le, Int32.toInt_zero] at this
    have h2 := i.toInt_lt
    have e2 : (i.toNatClampNeg : Int) = i.toInt := by
      unfold Int32.toNatClampNeg
      omega
    unfold nI
    rw [Int32.toInt_ofNat_of_lt (by omega)]
    exact e2
  rw [e]
  exact Int32.not_le.mp h.2
def k_rBody : mm_Ct := fun As M Post => match As with
  | [.inr (.inr (some (21, 0))), .inr (.inr (some (14, j))), .inr (.inl x), .inr (.inl y)] => (JJ M) ∧ (RM M) ∧ (j < 20) ∧ (nI j < M.1 12 0 2) ∧ Post (some (.inr (.inl (s_rBody M j x y).1))) (s_rBody M j x y).2
  | _ => False
theorem e_rBody {j : Nat} {x y : Int64} {M : mm_M} {Post : Option mm_V → mm_M → Prop} : k_rBody [.inr (.inr (some (21, 0))), .inr (.inr (some (14, j))), .inr (.inl x), .inr (.inl y)] M Post = ((JJ M) ∧ (RM M) ∧ (j < 20) ∧ (nI j < M.1 12 0 2) ∧ Post (some (.inr (.inl (s_rBody M j x y).1))) (s_rBody M j x y).2) := rfl
set_option maxRecDepth 100000 in
set_option maxHeartbeats 2000000 in
theorem v_rBody : mm_Vd l D dA sz 117 56 k_rBody := by
  intro As M Post h
  match As, h with
  | [.inr (.inr (some (21, 0))), .inr (.inr (some (14, j))), .inr (.inl x), .inr (.inl y)], h =>
    obtain ⟨hJ, hR, hj, hc, h⟩ := h
    have hG := hJ.1
    have km : KM M (mm_sI (mm_sI M 21 0 2 0) 21 0 3 0) := KM.s.tr KM.s
    have pb := km.xRJ (RJ.body hJ hR hj hc)
    have f8 := s_hasFun_in (hJ.fn hc (Nat.le_of_lt hj))
    refine mm_meth 56 (by decide) ⟨rfl, rfl, by decide, by decide⟩ (mm_okC (v_rn 53) (by decide) (by decide) mm_okN) (Nat.le_of_ble_eq_true rfl) 30 ?_
    have g57 : ∀ As M P, mm_gl [(57, (k_rn 53))] 57 As M P = k_rn 53 As M P := fun _ _ _ => rfl
    show mm_x (4, 6, some .long, false, 0, 0, none, false) prog_6_method_2_code (mm_gl [(57, (k_rn 53))]) (fun _ => none) Post 30 0 [some (.inr (.inr (some (21, 0)))), some (.inr (.inr (some (14, j)))), some (.inr (.inl x)), none, some (.inr (.inl y)), none] [] M 0 0
    unfold s_rBody at h
    simp (config := { maxSteps := 2000000 }) only [hG, hj, pb, f8, gs_4, mm_u, false_and, and_false, if_false, ↓g57, ↓e_rn, mk_57, gm_14 hj, gm_15 hj, gm_16 hj, gm_17 hj, gm_18 hj, gm_19 hj, gm_20 hj, gr_14_2 hj, gr_14_3 hj, gr_14_4 hj, gr_14_5 hj, gr_14_6 hj, gr_14_7 hj, Bool.not_eq_false, Bool.not_eq_true, kn_0, kn_1, Classical.not_not, bn_0, bn_1, bi_n, bi_0, bi_f, xs_x, xs_kk, xs_s, xs_cutI, xs_c, xs_d, xs_o, xs_p1, xs_pI, xs_pL, xs_pR, xs_vI, xs_vL, xs_vQ, xs_lV0, xs_lVs, xs_pN0, xs_pNs, xs_k0, xs_0eq, xs_0ne, xs_0lt, xs_0ge, xs_0gt, xs_0le, xs_2eq, xs_2ne, xs_2lt, xs_2ge, xs_2gt, xs_2le, xs_catI, xs_catL, xs_catR, xs_sm0, xs_sm1, xs_tl1, xs_tl0, xs_nI, xs_fI, xs_putI, xs_putL, xs_putR, fv_0, fv_1, fv_2, fv_3, st1_0, st1_1I, st2_1I, st1_1L, st2_1L, st1_1R, st2_1R, st1_1N, st2_1N, st2_0, st1_s, st2_s, xi_iconst, xi_lload_n, xi_lload, xi_aload_n, xi_getfield, xi_putfield, xi_iaload, xi_invokevirtual, xi_lreturn, xs_ivS, xs_ivN, xs_call, k_ic_0, gy_0, gm_0, gy_1, gm_1, gy_2, gl_2, gm_2, gy_3, gl_3, gm_3, gy_4, gl_4, gm_4, gy_5, gl_5, gm_5, gy_6, gl_6, gm_6, gy_7, gl_7, gm_7, gy_8, gl_8, gm_8, gy_9, gl_9, gm_9, gy_10, gl_10, gm_10, gy_11, gl_11, gm_11, gy_12, gm_12, gy_13, gl_13, gm_13, gy_14, gy_15, gl_15, gy_16, gl_16, gy_17, gl_17, gy_18, gl_18, gy_19, gl_19, gy_20, gl_20, gy_21, gm_21, gr_1_9, gr_21_0, gf_1_9, gn_1_9, gq_1_9, gf_3_0, gn_3_0, gq_3_0, gf_4_0, gn_4_0, gq_4_0, gf_4_2, gn_4_2, gq_4_2, gf_4_3, gn_4_3, gq_4_3, gs_1, gs_2, gs_3, gg_i, gg_z, gg_l, gg_o, gg_a, gi_s, gi_a, List.toList_toArray, Nat.reduceAdd, Int.reduceAdd, Nat.reduceLeDiff, Nat.reduceLT, Nat.reduceEqDiff, reduceIte, ne_eq, not_false_eq_true, true_imp_iff, false_imp_iff, not_true_eq_false, implies_true, Jvm.ClassFile.FieldType.object.injEq, exists_eq_left', exists_eq_left, decide_eq_true_eq, true_and, and_true, true_or, or_true, false_or, or_false, Nat.le_refl, forall_const, Fin.isValue, Fin.val_zero, Fin.val_one, reduceCtorEq, Nat.zero_add, Int.zero_add, Int.add_zero, Option.some.injEq, Sum.inl.injEq, Sum.inr.injEq, Prod.mk.injEq, and_self, eq_self, d56_0, d56_1, d56_2, d56_5, d56_6, d56_7, d56_10, d56_11, d56_12, d56_13, d56_16, d56_19, d56_20, d56_23, d56_24, d56_25, d56_27, d56_28, d56_31, fl_4_19, fl_4_23, fl_4_26, fl_4_32, fl_4_9, mt_4_37]
    exact h
def s_run (M : mm_M) (i a b : Int32) : Int64 × mm_M := if s_hasInst M i = true then (if s_takes M i.toNatClampNeg 0 a.toInt64 = true then (if s_takes M i.toNatClampNeg 1 b.toInt64 = true then s_rBody M i.toNatClampNeg a.toInt64 b.toInt64 else (1000000000000000, M)) else (1000000000000000, M)) else (1000000000000000, M)
def k_frun : mm_Ct := fun As M Post => match As with
  | [.inr (.inr (some (0, 0))), .inl i, .inl a, .inl b] => (JJ M) ∧ (RM M) ∧ Post (some (.inr (.inl (s_run M i a b).1))) (s_run M i a b).2
  | _ => False
theorem e_frun {i a b : Int32} {M : mm_M} {Post : Option mm_V → mm_M → Prop} : k_frun [.inr (.inr (some (0, 0))), .inl i, .inl a, .inl b] M Post = ((JJ M) ∧ (RM M) ∧ Post (some (.inr (.inl (s_run M i a b).1))) (s_run M i a b).2) := rfl
theorem IQ.x20 {M : mm_M} (h : IQ M) : ¬ 20 < M.1 12 0 2 := by
  obtain ⟨c, h1, h2, -⟩ := h
  rw [h2]
  intro q
  rw [Int32.lt_iff_toInt_lt] at q
  unfold nI at q
  rw [Int32.toInt_ofNat_of_lt (by omega), show (20 : Int32).toInt = 20 by decide] at q
  omega
set_option maxRecDepth 100000 in
set_option maxHeartbeats 2000000 in
theorem v_frun : mm_Vd l D dA sz 118 17 k_frun := by
  intro As M Post h
  match As, h with
  | [.inr (.inr (some (0, 0))), .inl i, .inl a, .inl b], h =>
    obtain ⟨hJ, hR, h⟩ := h
    have hG := hJ.1
    have x20 := hJ.2.2.x20
    refine mm_meth 17 (by decide) ⟨rfl, rfl, by decide, by decide⟩ (mm_okC v_hasInst (by decide) (by decide) (mm_okC v_takes (by decide) (by decide) (mm_okC v_rBody (by decide) (by decide) mm_okN))) (Nat.le_of_ble_eq_true rfl) 60 ?_
    have g28 : ∀ As M P, mm_gl [(28, k_hasInst), (51, k_takes), (56, k_rBody)] 28 As M P = k_hasInst As M P := fun _ _ _ => rfl
    have g51 : ∀ As M P, mm_gl [(28, k_hasInst), (51, k_takes), (56, k_rBody)] 51 As M P = k_takes As M P := fun _ _ _ => rfl
    have g56 : ∀ As M P, mm_gl [(28, k_hasInst), (51, k_takes), (56, k_rBody)] 56 As M P = k_rBody As M P := fun _ _ _ => rfl
    show mm_x (0, 5, some .long, false, 0, 0, none, false) prog_1_method_11_code (mm_gl [(28, k_hasInst), (51, k_takes), (56, k_rBody)]) (fun _ => none) Post 60 0 [some (.inr (.inr (some (0, 0)))), some (.inl i), some (.inl a), some (.inl b), none] [] M 0 0
    unfold s_run at h
    by_cases q : s_hasInst M i = true
    · have hw := s_hasInst_in q x20
      have h20 : i.toNatClampNeg < 20 := Nat.not_le.mp fun z => hw (Or.inr z)
      have hc := s_hasInst_nI q
      simp (config := { maxSteps := 2000000 }) only [q, hw, h20, hG, hJ, hR, hc, in20, in21, ↓g28, ↓g51, ↓g56, ↓e_hasInst, ↓e_takes, ↓e_rBody, mk_28, mk_51, mk_56, gr_13 h20, gm_14 h20, gm_15 h20, gr_14_2 h20, Bool.not_eq_false, Bool.not_eq_true, kn_0, kn_1, Classical.not_not, bn_0, bn_1, bi_n, bi_0, bi_f, xs_x, xs_kk, xs_s, xs_cutI, xs_c, xs_d, xs_o, xs_p1, xs_pI, xs_pL, xs_pR, xs_vI, xs_vL, xs_vQ, xs_lV0, xs_lVs, xs_pN0, xs_pNs, xs_k0, xs_0eq, xs_0ne, xs_0lt, xs_0ge, xs_0gt, xs_0le, xs_2eq, xs_2ne, xs_2lt, xs_2ge, xs_2gt, xs_2le, xs_catI, xs_catL, xs_catR, xs_sm0, xs_sm1, xs_tl1, xs_tl0, xs_nI, xs_fI, xs_putI, xs_putL, xs_putR, fv_0, fv_1, fv_2, fv_3, st1_0, st1_1I, st2_1I, st1_1L, st2_1L, st1_1R, st2_1R, st1_1N, st2_1N, st2_0, st1_s, st2_s, xi_iconst, xi_ldc2_w, xi_iload_n, xi_aload_n, xi_aload, xi_astore, xi_i2l, xi_ifCond, xi_getfield, xi_aaload, xi_invokevirtual, xi_lreturn, xs_ivS, xs_ivN, xs_call, k_ic_0, k_ic_1, gy_0, gm_0, gy_1, gm_1, gy_2, gl_2, gm_2, gy_3, gl_3, gm_3, gy_4, gl_4, gm_4, gy_5, gl_5, gm_5, gy_6, gl_6, gm_6, gy_7, gl_7, gm_7, gy_8, gl_8, gm_8, gy_9, gl_9, gm_9, gy_10, gl_10, gm_10, gy_11, gl_11, gm_11, gy_12, gm_12, gy_13, gl_13, gm_13, gy_14, gy_15, gl_15, gy_16, gl_16, gy_17, gl_17, gy_18, gl_18, gy_19, gl_19, gy_20, gl_20, gy_21, gm_21, gr_0_1, gr_0_2, gr_12_1, gf_0_1, gf_0_2, gf_2_1, gs_1, gs_2, gs_3, gg_i, gg_z, gg_l, gg_o, gg_a, gi_s, gi_a, List.toList_toArray, Nat.reduceAdd, Int.reduceAdd, Nat.reduceLeDiff, Nat.reduceLT, Nat.reduceEqDiff, reduceIte, ne_eq, not_false_eq_true, true_imp_iff, false_imp_iff, not_true_eq_false, implies_true, Jvm.ClassFile.FieldType.object.injEq, exists_eq_left', exists_eq_left, decide_eq_true_eq, true_and, and_true, true_or, or_true, false_or, or_false, Nat.le_refl, forall_const, Fin.isValue, Fin.val_zero, Fin.val_one, reduceCtorEq, Nat.zero_add, Int.zero_add, Int.add_zero, Option.some.injEq, Sum.inl.injEq, Sum.inr.injEq, Prod.mk.injEq, and_self, eq_self, d17_0, d17_1, d17_4, d17_5, d17_8, d17_11, d17_14, d17_15, d17_16, d17_19, d17_22, d17_23, d17_24, d17_26, d17_28, d17_29, d17_30, d17_31, d17_34, d17_37, d17_39, d17_40, d17_41, d17_42, d17_45, d17_48, d17_51, d17_52, d17_53, d17_56, d17_58, d17_59, d17_60, d17_61, d17_62, d17_65, cn_0_66, fl_0_21, fl_0_27, fl_0_34, mt_0_58, mt_0_95, mt_0_99, jt_34_14, jt_45_7, jt_8_7, jp_34_14, jp_45_7, jp_8_7]
      repeat' (first | apply And.intro | with_reducible intro _)
      all_goals first | (with_reducible contradiction) | (with_reducible assumption) | (refine mm_pm h ?_ ?_ <;> (simp [*]; done))
    · have q : s_hasInst M i = false := by simpa using q
      simp (config := { maxSteps := 2000000 }) only [q, hG, ↓g28, ↓e_hasInst, mk_28, Bool.not_eq_false, Bool.not_eq_true, kn_0, kn_1, Classical.not_not, bn_0, bn_1, bi_n, bi_0, bi_f, xs_x, xs_kk, xs_s, xs_cutI, xs_c, xs_d, xs_o, xs_p1, xs_pI, xs_pL, xs_pR, xs_vI, xs_vL, xs_vQ, xs_lV0, xs_lVs, xs_pN0, xs_pNs, xs_k0, xs_0eq, xs_0ne, xs_0lt, xs_0ge, xs_0gt, xs_0le, xs_2eq, xs_2ne, xs_2lt, xs_2ge, xs_2gt, xs_2le, xs_catI, xs_catL, xs_catR, xs_sm0, xs_sm1, xs_tl1, xs_tl0, xs_nI, xs_fI, xs_putI, xs_putL, xs_putR, fv_0, fv_1, fv_2, fv_3, st1_0, st1_1I, st2_1I, st1_1L, st2_1L, st1_1R, st2_1R, st1_1N, st2_1N, st2_0, st1_s, st2_s, xi_iconst, xi_ldc2_w, xi_iload_n, xi_aload_n, xi_aload, xi_astore, xi_i2l, xi_ifCond, xi_getfield, xi_aaload, xi_invokevirtual, xi_lreturn, xs_ivS, xs_ivN, xs_call, k_ic_0, k_ic_1, gy_0, gm_0, gy_1, gm_1, gy_2, gl_2, gm_2, gy_3, gl_3, gm_3, gy_4, gl_4, gm_4, gy_5, gl_5, gm_5, gy_6, gl_6, gm_6, gy_7, gl_7, gm_7, gy_8, gl_8, gm_8, gy_9, gl_9, gm_9, gy_10, gl_10, gm_10, gy_11, gl_11, gm_11, gy_12, gm_12, gy_13, gl_13, gm_13, gy_14, gy_15, gl_15, gy_16, gl_16, gy_17, gl_17, gy_18, gl_18, gy_19, gl_19, gy_20, gl_20, gy_21, gm_21, gr_0_1, gr_0_2, gr_12_1, gf_0_1, gf_0_2, gf_2_1, gs_1, gs_2, gs_3, gg_i, gg_z, gg_l, gg_o, gg_a, gi_s, gi_a, List.toList_toArray, Nat.reduceAdd, Int.reduceAdd, Nat.reduceLeDiff, Nat.reduceLT, Nat.reduceEqDiff, reduceIte, ne_eq, not_false_eq_true, true_imp_iff, false_imp_iff, not_true_eq_false, implies_true, Jvm.ClassFile.FieldType.object.injEq, exists_eq_left', exists_eq_left, decide_eq_true_eq, true_and, and_true, true_or, or_true, false_or, or_false, Nat.le_refl, forall_const, Fin.isValue, Fin.val_zero, Fin.val_one, reduceCtorEq, Nat.zero_add, Int.zero_add, Int.add_zero, Option.some.injEq, Sum.inl.injEq, Sum.inr.injEq, Prod.mk.injEq, and_self, eq_self, d17_0, d17_1, d17_4, d17_5, d17_8, d17_11, d17_14, d17_15, d17_16, d17_19, d17_22, d17_23, d17_24, d17_26, d17_28, d17_29, d17_30, d17_31, d17_34, d17_37, d17_39, d17_40, d17_41, d17_42, d17_45, d17_48, d17_51, d17_52, d17_53, d17_56, d17_58, d17_59, d17_60, d17_61, d17_62, d17_65, cn_0_66, fl_0_21, fl_0_27, fl_0_34, mt_0_58, mt_0_95, mt_0_99, jt_34_14, jt_45_7, jt_8_7, jp_34_14, jp_45_7, jp_8_7]
      repeat' (first | apply And.intro | with_reducible intro _)
      all_goals first | (with_reducible contradiction) | (with_reducible assumption) | (refine mm_pm h ?_ ?_ <;> (simp [*]; done))
end MMD
