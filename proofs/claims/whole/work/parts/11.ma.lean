/-! Kind, Types, Arithmetic -/
section MMD
variable {l : Launch} {D : va_G} {dA : FieldType → ClassId} {sz : Nat}
theorem mm_pm {Post : Option mm_V → mm_M → Prop} {v v' : Option mm_V} {M M' : mm_M} (h : Post v M) (e1 : v = v') (e2 : M = M') : Post v' M' := by
  rw [← e1, ← e2]
  exact h
def s_isOne (k : Int32) : Bool := !decide (k < 0) && !decide (16 < k)
def k_isOne : mm_Ct := fun As M Post => match As with
  | [.inl k] => Post (some (.inl (bi (s_isOne k)))) (M)
  | _ => False
theorem e_isOne {M : mm_M} {Post : Option mm_V → mm_M → Prop} {k : Int32} : k_isOne [.inl k] M Post = (Post (some (.inl (bi (s_isOne k)))) (M)) := rfl
set_option maxRecDepth 100000 in
set_option maxHeartbeats 1000000 in
theorem v_isOne : mm_Vd l D dA sz 1 108 k_isOne := by
  intro As M Post h
  match As, h with
  | [.inl k], h =>
    replace h : Post (some (.inl (bi (s_isOne k)))) (M) := h
    refine mm_meth 108 (by decide) ⟨rfl, rfl, by decide, by decide⟩ mm_okN (Nat.le_of_ble_eq_true rfl) 14 ?_
    show mm_x (6, 1, some .boolean, false, 0, 0, none, false) prog_5_method_2_code (mm_gl []) (fun _ => none) Post 14 0 [some (.inl k)] [] M 0 0
    simp (config := { maxSteps := 2000000 }) only [Bool.not_eq_false, Bool.not_eq_true, kn_0, kn_1, Classical.not_not, bn_0, bn_1, bi_n, bi_0, bi_f, xs_x, xs_kk, xs_s, xs_cutI, xs_c, xs_d, xs_o, xs_p1, xs_pI, xs_pL, xs_pR, xs_vI, xs_vL, xs_vQ, xs_lV0, xs_lVs, xs_pN0, xs_pNs, xs_k0, xs_0eq, xs_0ne, xs_0lt, xs_0ge, xs_0gt, xs_0le, xs_2eq, xs_2ne, xs_2lt, xs_2ge, xs_2gt, xs_2le, xs_catI, xs_catL, xs_catR, xs_sm0, xs_sm1, xs_tl1, xs_tl0, xs_nI, xs_fI, xs_putI, xs_putL, xs_putR, fv_0, fv_1, fv_2, fv_3, st1_0, st1_1I, st2_1I, st1_1L, st2_1L, st1_1R, st2_1R, st1_1N, st2_1N, st2_0, st1_s, st2_s, xi_iconst, xi_bipush, xi_iload_n, xi_ifCond, xi_if_icmp, xi_goto, xi_ireturn, xs_ivS, xs_ivN, xs_call, k_ic_0, k_ic_1, k_bi_16, gy_0, gm_0, gy_1, gm_1, gy_2, gl_2, gm_2, gy_3, gl_3, gm_3, gy_4, gl_4, gm_4, gy_5, gl_5, gm_5, gy_6, gl_6, gm_6, gy_7, gl_7, gm_7, gy_8, gl_8, gm_8, gy_9, gl_9, gm_9, gy_10, gl_10, gm_10, gy_11, gl_11, gm_11, gy_12, gm_12, gy_13, gl_13, gm_13, gy_14, gy_15, gl_15, gy_16, gl_16, gy_17, gl_17, gy_18, gl_18, gy_19, gl_19, gy_20, gl_20, gy_21, gm_21, gs_1, gs_2, gs_3, gg_i, gg_z, gg_l, gg_o, gg_a, gi_s, gi_a, List.toList_toArray, Nat.reduceAdd, Int.reduceAdd, Nat.reduceLeDiff, Nat.reduceLT, Nat.reduceEqDiff, reduceIte, ne_eq, not_false_eq_true, true_imp_iff, false_imp_iff, not_true_eq_false, implies_true, Jvm.ClassFile.FieldType.object.injEq, exists_eq_left', exists_eq_left, decide_eq_true_eq, true_and, and_true, true_or, or_true, false_or, or_false, Nat.le_refl, forall_const, Fin.isValue, Fin.val_zero, Fin.val_one, reduceCtorEq, Nat.zero_add, Int.zero_add, Int.add_zero, Option.some.injEq, Sum.inl.injEq, Sum.inr.injEq, Prod.mk.injEq, and_self, eq_self, d108_0, d108_1, d108_4, d108_5, d108_7, d108_10, d108_11, d108_14, d108_15, jt_11_4, jt_1_13, jt_7_7, jp_11_4, jp_1_13, jp_7_7]
    repeat' (first | apply And.intro | with_reducible intro _)
    all_goals first | with_reducible exact h | (with_reducible contradiction) | (with_reducible assumption) | exact vin_c (by with_reducible assumption) (by with_reducible assumption) (by decide) | (simp only [s_isOne, bi, *, reduceIte] at h; with_reducible exact h) | exact mm_pi h (by simp [s_isOne, bi, *]) | exact mm_pl h (by simp [s_isOne, bi, *]) | exact mm_pm h (by simp [s_isOne, bi, *]) (by simp [s_isOne, bi, *])
def s_isWrap (k : Int32) : Bool := !decide (k < 6) && !decide (10 < k)
def k_isWrap : mm_Ct := fun As M Post => match As with
  | [.inl k] => Post (some (.inl (bi (s_isWrap k)))) (M)
  | _ => False
theorem e_isWrap {M : mm_M} {Post : Option mm_V → mm_M → Prop} {k : Int32} : k_isWrap [.inl k] M Post = (Post (some (.inl (bi (s_isWrap k)))) (M)) := rfl
set_option maxRecDepth 100000 in
set_option maxHeartbeats 1000000 in
theorem v_isWrap : mm_Vd l D dA sz 1 109 k_isWrap := by
  intro As M Post h
  match As, h with
  | [.inl k], h =>
    replace h : Post (some (.inl (bi (s_isWrap k)))) (M) := h
    refine mm_meth 109 (by decide) ⟨rfl, rfl, by decide, by decide⟩ mm_okN (Nat.le_of_ble_eq_true rfl) 15 ?_
    show mm_x (6, 1, some .boolean, false, 0, 0, none, false) prog_5_method_3_code (mm_gl []) (fun _ => none) Post 15 0 [some (.inl k)] [] M 0 0
    simp (config := { maxSteps := 2000000 }) only [Bool.not_eq_false, Bool.not_eq_true, kn_0, kn_1, Classical.not_not, bn_0, bn_1, bi_n, bi_0, bi_f, xs_x, xs_kk, xs_s, xs_cutI, xs_c, xs_d, xs_o, xs_p1, xs_pI, xs_pL, xs_pR, xs_vI, xs_vL, xs_vQ, xs_lV0, xs_lVs, xs_pN0, xs_pNs, xs_k0, xs_0eq, xs_0ne, xs_0lt, xs_0ge, xs_0gt, xs_0le, xs_2eq, xs_2ne, xs_2lt, xs_2ge, xs_2gt, xs_2le, xs_catI, xs_catL, xs_catR, xs_sm0, xs_sm1, xs_tl1, xs_tl0, xs_nI, xs_fI, xs_putI, xs_putL, xs_putR, fv_0, fv_1, fv_2, fv_3, st1_0, st1_1I, st2_1I, st1_1L, st2_1L, st1_1R, st2_1R, st1_1N, st2_1N, st2_0, st1_s, st2_s, xi_iconst, xi_bipush, xi_iload_n, xi_if_icmp, xi_goto, xi_ireturn, xs_ivS, xs_ivN, xs_call, k_ic_0, k_ic_1, k_bi_6, k_bi_10, gy_0, gm_0, gy_1, gm_1, gy_2, gl_2, gm_2, gy_3, gl_3, gm_3, gy_4, gl_4, gm_4, gy_5, gl_5, gm_5, gy_6, gl_6, gm_6, gy_7, gl_7, gm_7, gy_8, gl_8, gm_8, gy_9, gl_9, gm_9, gy_10, gl_10, gm_10, gy_11, gl_11, gm_11, gy_12, gm_12, gy_13, gl_13, gm_13, gy_14, gy_15, gl_15, gy_16, gl_16, gy_17, gl_17, gy_18, gl_18, gy_19, gl_19, gy_20, gl_20, gy_21, gm_21, gs_1, gs_2, gs_3, gg_i, gg_z, gg_l, gg_o, gg_a, gi_s, gi_a, List.toList_toArray, Nat.reduceAdd, Int.reduceAdd, Nat.reduceLeDiff, Nat.reduceLT, Nat.reduceEqDiff, reduceIte, ne_eq, not_false_eq_true, true_imp_iff, false_imp_iff, not_true_eq_false, implies_true, Jvm.ClassFile.FieldType.object.injEq, exists_eq_left', exists_eq_left, decide_eq_true_eq, true_and, and_true, true_or, or_true, false_or, or_false, Nat.le_refl, forall_const, Fin.isValue, Fin.val_zero, Fin.val_one, reduceCtorEq, Nat.zero_add, Int.zero_add, Int.add_zero, Option.some.injEq, Sum.inl.injEq, Sum.inr.injEq, Prod.mk.injEq, and_self, eq_self, d109_0, d109_1, d109_3, d109_6, d109_7, d109_9, d109_12, d109_13, d109_16, d109_17, jt_13_4, jt_3_13, jt_9_7, jp_13_4, jp_3_13, jp_9_7]
    repeat' (first | apply And.intro | with_reducible intro _)
    all_goals first | with_reducible exact h | (with_reducible contradiction) | (with_reducible assumption) | exact vin_c (by with_reducible assumption) (by with_reducible assumption) (by decide) | (simp only [s_isWrap, bi, *, reduceIte] at h; with_reducible exact h) | exact mm_pi h (by simp [s_isWrap, bi, *]) | exact mm_pl h (by simp [s_isWrap, bi, *]) | exact mm_pm h (by simp [s_isWrap, bi, *]) (by simp [s_isWrap, bi, *])
def s_isComp (k : Int32) : Bool := decide (k = 11) || decide (k = 12)
def k_isComp : mm_Ct := fun As M Post => match As with
  | [.inl k] => Post (some (.inl (bi (s_isComp k)))) (M)
  | _ => False
theorem e_isComp {M : mm_M} {Post : Option mm_V → mm_M → Prop} {k : Int32} : k_isComp [.inl k] M Post = (Post (some (.inl (bi (s_isComp k)))) (M)) := rfl
set_option maxRecDepth 100000 in
set_option maxHeartbeats 1000000 in
theorem v_isComp : mm_Vd l D dA sz 1 110 k_isComp := by
  intro As M Post h
  match As, h with
  | [.inl k], h =>
    replace h : Post (some (.inl (bi (s_isComp k)))) (M) := h
    refine mm_meth 110 (by decide) ⟨rfl, rfl, by decide, by decide⟩ mm_okN (Nat.le_of_ble_eq_true rfl) 15 ?_
    show mm_x (6, 1, some .boolean, false, 0, 0, none, false) prog_5_method_4_code (mm_gl []) (fun _ => none) Post 15 0 [some (.inl k)] [] M 0 0
    simp (config := { maxSteps := 2000000 }) only [Bool.not_eq_false, Bool.not_eq_true, kn_0, kn_1, Classical.not_not, bn_0, bn_1, bi_n, bi_0, bi_f, xs_x, xs_kk, xs_s, xs_cutI, xs_c, xs_d, xs_o, xs_p1, xs_pI, xs_pL, xs_pR, xs_vI, xs_vL, xs_vQ, xs_lV0, xs_lVs, xs_pN0, xs_pNs, xs_k0, xs_0eq, xs_0ne, xs_0lt, xs_0ge, xs_0gt, xs_0le, xs_2eq, xs_2ne, xs_2lt, xs_2ge, xs_2gt, xs_2le, xs_catI, xs_catL, xs_catR, xs_sm0, xs_sm1, xs_tl1, xs_tl0, xs_nI, xs_fI, xs_putI, xs_putL, xs_putR, fv_0, fv_1, fv_2, fv_3, st1_0, st1_1I, st2_1I, st1_1L, st2_1L, st1_1R, st2_1R, st1_1N, st2_1N, st2_0, st1_s, st2_s, xi_iconst, xi_bipush, xi_iload_n, xi_if_icmp, xi_goto, xi_ireturn, xs_ivS, xs_ivN, xs_call, k_ic_0, k_ic_1, k_bi_11, k_bi_12, gy_0, gm_0, gy_1, gm_1, gy_2, gl_2, gm_2, gy_3, gl_3, gm_3, gy_4, gl_4, gm_4, gy_5, gl_5, gm_5, gy_6, gl_6, gm_6, gy_7, gl_7, gm_7, gy_8, gl_8, gm_8, gy_9, gl_9, gm_9, gy_10, gl_10, gm_10, gy_11, gl_11, gm_11, gy_12, gm_12, gy_13, gl_13, gm_13, gy_14, gy_15, gl_15, gy_16, gl_16, gy_17, gl_17, gy_18, gl_18, gy_19, gl_19, gy_20, gl_20, gy_21, gm_21, gs_1, gs_2, gs_3, gg_i, gg_z, gg_l, gg_o, gg_a, gi_s, gi_a, List.toList_toArray, Nat.reduceAdd, Int.reduceAdd, Nat.reduceLeDiff, Nat.reduceLT, Nat.reduceEqDiff, reduceIte, ne_eq, not_false_eq_true, true_imp_iff, false_imp_iff, not_true_eq_false, implies_true, Jvm.ClassFile.FieldType.object.injEq, exists_eq_left', exists_eq_left, decide_eq_true_eq, true_and, and_true, true_or, or_true, false_or, or_false, Nat.le_refl, forall_const, Fin.isValue, Fin.val_zero, Fin.val_one, reduceCtorEq, Nat.zero_add, Int.zero_add, Int.add_zero, Option.some.injEq, Sum.inl.injEq, Sum.inr.injEq, Prod.mk.injEq, and_self, eq_self, d110_0, d110_1, d110_3, d110_6, d110_7, d110_9, d110_12, d110_13, d110_16, d110_17, jt_13_4, jt_3_9, jt_9_7, jp_13_4, jp_3_9, jp_9_7]
    repeat' (first | apply And.intro | with_reducible intro _)
    all_goals first | with_reducible exact h | (with_reducible contradiction) | (with_reducible assumption) | exact vin_c (by with_reducible assumption) (by with_reducible assumption) (by decide) | (simp only [s_isComp, bi, *, reduceIte] at h; with_reducible exact h) | exact mm_pi h (by simp [s_isComp, bi, *]) | exact mm_pl h (by simp [s_isComp, bi, *]) | exact mm_pm h (by simp [s_isComp, bi, *]) (by simp [s_isComp, bi, *])
def s_cntSize (k : Int32) : Bool := !decide (k < 2) && !decide (15 < k)
def k_cntSize : mm_Ct := fun As M Post => match As with
  | [.inl k] => Post (some (.inl (bi (s_cntSize k)))) (M)
  | _ => False
theorem e_cntSize {M : mm_M} {Post : Option mm_V → mm_M → Prop} {k : Int32} : k_cntSize [.inl k] M Post = (Post (some (.inl (bi (s_cntSize k)))) (M)) := rfl
set_option maxRecDepth 100000 in
set_option maxHeartbeats 1000000 in
theorem v_cntSize : mm_Vd l D dA sz 1 111 k_cntSize := by
  intro As M Post h
  match As, h with
  | [.inl k], h =>
    replace h : Post (some (.inl (bi (s_cntSize k)))) (M) := h
    refine mm_meth 111 (by decide) ⟨rfl, rfl, by decide, by decide⟩ mm_okN (Nat.le_of_ble_eq_true rfl) 15 ?_
    show mm_x (6, 1, some .boolean, false, 0, 0, none, false) prog_5_method_5_code (mm_gl []) (fun _ => none) Post 15 0 [some (.inl k)] [] M 0 0
    simp (config := { maxSteps := 2000000 }) only [Bool.not_eq_false, Bool.not_eq_true, kn_0, kn_1, Classical.not_not, bn_0, bn_1, bi_n, bi_0, bi_f, xs_x, xs_kk, xs_s, xs_cutI, xs_c, xs_d, xs_o, xs_p1, xs_pI, xs_pL, xs_pR, xs_vI, xs_vL, xs_vQ, xs_lV0, xs_lVs, xs_pN0, xs_pNs, xs_k0, xs_0eq, xs_0ne, xs_0lt, xs_0ge, xs_0gt, xs_0le, xs_2eq, xs_2ne, xs_2lt, xs_2ge, xs_2gt, xs_2le, xs_catI, xs_catL, xs_catR, xs_sm0, xs_sm1, xs_tl1, xs_tl0, xs_nI, xs_fI, xs_putI, xs_putL, xs_putR, fv_0, fv_1, fv_2, fv_3, st1_0, st1_1I, st2_1I, st1_1L, st2_1L, st1_1R, st2_1R, st1_1N, st2_1N, st2_0, st1_s, st2_s, xi_iconst, xi_bipush, xi_iload_n, xi_if_icmp, xi_goto, xi_ireturn, xs_ivS, xs_ivN, xs_call, k_ic_0, k_ic_1, k_ic_2, k_bi_15, gy_0, gm_0, gy_1, gm_1, gy_2, gl_2, gm_2, gy_3, gl_3, gm_3, gy_4, gl_4, gm_4, gy_5, gl_5, gm_5, gy_6, gl_6, gm_6, gy_7, gl_7, gm_7, gy_8, gl_8, gm_8, gy_9, gl_9, gm_9, gy_10, gl_10, gm_10, gy_11, gl_11, gm_11, gy_12, gm_12, gy_13, gl_13, gm_13, gy_14, gy_15, gl_15, gy_16, gl_16, gy_17, gl_17, gy_18, gl_18, gy_19, gl_19, gy_20, gl_20, gy_21, gm_21, gs_1, gs_2, gs_3, gg_i, gg_z, gg_l, gg_o, gg_a, gi_s, gi_a, List.toList_toArray, Nat.reduceAdd, Int.reduceAdd, Nat.reduceLeDiff, Nat.reduceLT, Nat.reduceEqDiff, reduceIte, ne_eq, not_false_eq_true, true_imp_iff, false_imp_iff, not_true_eq_false, implies_true, Jvm.ClassFile.FieldType.object.injEq, exists_eq_left', exists_eq_left, decide_eq_true_eq, true_and, and_true, true_or, or_true, false_or, or_false, Nat.le_refl, forall_const, Fin.isValue, Fin.val_zero, Fin.val_one, reduceCtorEq, Nat.zero_add, Int.zero_add, Int.add_zero, Option.some.injEq, Sum.inl.injEq, Sum.inr.injEq, Prod.mk.injEq, and_self, eq_self, d111_0, d111_1, d111_2, d111_5, d111_6, d111_8, d111_11, d111_12, d111_15, d111_16, jt_12_4, jt_2_13, jt_8_7, jp_12_4, jp_2_13, jp_8_7]
    repeat' (first | apply And.intro | with_reducible intro _)
    all_goals first | with_reducible exact h | (with_reducible contradiction) | (with_reducible assumption) | exact vin_c (by with_reducible assumption) (by with_reducible assumption) (by decide) | (simp only [s_cntSize, bi, *, reduceIte] at h; with_reducible exact h) | exact mm_pi h (by simp [s_cntSize, bi, *]) | exact mm_pl h (by simp [s_cntSize, bi, *]) | exact mm_pm h (by simp [s_cntSize, bi, *]) (by simp [s_cntSize, bi, *])
def s_isInt (k : Int32) : Bool := !decide (k = 0) && !decide (k < -31) && !decide (31 < k)
def k_isInt : mm_Ct := fun As M Post => match As with
  | [.inl k] => Post (some (.inl (bi (s_isInt k)))) (M)
  | _ => False
theorem e_isInt {M : mm_M} {Post : Option mm_V → mm_M → Prop} {k : Int32} : k_isInt [.inl k] M Post = (Post (some (.inl (bi (s_isInt k)))) (M)) := rfl
set_option maxRecDepth 100000 in
set_option maxHeartbeats 1000000 in
theorem v_isInt : mm_Vd l D dA sz 1 112 k_isInt := by
  intro As M Post h
  match As, h with
  | [.inl k], h =>
    replace h : Post (some (.inl (bi (s_isInt k)))) (M) := h
    refine mm_meth 112 (by decide) ⟨rfl, rfl, by decide, by decide⟩ mm_okN (Nat.le_of_ble_eq_true rfl) 17 ?_
    show mm_x (7, 1, some .boolean, false, 0, 0, none, false) prog_8_method_2_code (mm_gl []) (fun _ => none) Post 17 0 [some (.inl k)] [] M 0 0
    simp (config := { maxSteps := 2000000 }) only [Bool.not_eq_false, Bool.not_eq_true, kn_0, kn_1, Classical.not_not, bn_0, bn_1, bi_n, bi_0, bi_f, xs_x, xs_kk, xs_s, xs_cutI, xs_c, xs_d, xs_o, xs_p1, xs_pI, xs_pL, xs_pR, xs_vI, xs_vL, xs_vQ, xs_lV0, xs_lVs, xs_pN0, xs_pNs, xs_k0, xs_0eq, xs_0ne, xs_0lt, xs_0ge, xs_0gt, xs_0le, xs_2eq, xs_2ne, xs_2lt, xs_2ge, xs_2gt, xs_2le, xs_catI, xs_catL, xs_catR, xs_sm0, xs_sm1, xs_tl1, xs_tl0, xs_nI, xs_fI, xs_putI, xs_putL, xs_putR, fv_0, fv_1, fv_2, fv_3, st1_0, st1_1I, st2_1I, st1_1L, st2_1L, st1_1R, st2_1R, st1_1N, st2_1N, st2_0, st1_s, st2_s, xi_iconst, xi_bipush, xi_iload_n, xi_ifCond, xi_if_icmp, xi_goto, xi_ireturn, xs_ivS, xs_ivN, xs_call, k_ic_0, k_ic_1, k_bi_m31, k_bi_31, gy_0, gm_0, gy_1, gm_1, gy_2, gl_2, gm_2, gy_3, gl_3, gm_3, gy_4, gl_4, gm_4, gy_5, gl_5, gm_5, gy_6, gl_6, gm_6, gy_7, gl_7, gm_7, gy_8, gl_8, gm_8, gy_9, gl_9, gm_9, gy_10, gl_10, gm_10, gy_11, gl_11, gm_11, gy_12, gm_12, gy_13, gl_13, gm_13, gy_14, gy_15, gl_15, gy_16, gl_16, gy_17, gl_17, gy_18, gl_18, gy_19, gl_19, gy_20, gl_20, gy_21, gm_21, gs_1, gs_2, gs_3, gg_i, gg_z, gg_l, gg_o, gg_a, gi_s, gi_a, List.toList_toArray, Nat.reduceAdd, Int.reduceAdd, Nat.reduceLeDiff, Nat.reduceLT, Nat.reduceEqDiff, reduceIte, ne_eq, not_false_eq_true, true_imp_iff, false_imp_iff, not_true_eq_false, implies_true, Jvm.ClassFile.FieldType.object.injEq, exists_eq_left', exists_eq_left, decide_eq_true_eq, true_and, and_true, true_or, or_true, false_or, or_false, Nat.le_refl, forall_const, Fin.isValue, Fin.val_zero, Fin.val_one, reduceCtorEq, Nat.zero_add, Int.zero_add, Int.add_zero, Option.some.injEq, Sum.inl.injEq, Sum.inr.injEq, Prod.mk.injEq, and_self, eq_self, d112_0, d112_1, d112_4, d112_5, d112_7, d112_10, d112_11, d112_13, d112_16, d112_17, d112_20, d112_21, jt_13_7, jt_17_4, jt_1_19, jt_7_13, jp_13_7, jp_17_4, jp_1_19, jp_7_13]
    repeat' (first | apply And.intro | with_reducible intro _)
    all_goals first | with_reducible exact h | (with_reducible contradiction) | (with_reducible assumption) | exact vin_c (by with_reducible assumption) (by with_reducible assumption) (by decide) | (simp only [s_isInt, bi, *, reduceIte] at h; with_reducible exact h) | exact mm_pi h (by simp [s_isInt, bi, *]) | exact mm_pl h (by simp [s_isInt, bi, *]) | exact mm_pm h (by simp [s_isInt, bi, *]) (by simp [s_isInt, bi, *])
def s_isByP (k : Int32) : Bool := decide (k = 100) || decide (k = 101) || decide (k = 200) || decide (k = 201)
def k_isByP : mm_Ct := fun As M Post => match As with
  | [.inl k] => Post (some (.inl (bi (s_isByP k)))) (M)
  | _ => False
theorem e_isByP {M : mm_M} {Post : Option mm_V → mm_M → Prop} {k : Int32} : k_isByP [.inl k] M Post = (Post (some (.inl (bi (s_isByP k)))) (M)) := rfl
set_option maxRecDepth 100000 in
set_option maxHeartbeats 1000000 in
theorem v_isByP : mm_Vd l D dA sz 1 113 k_isByP := by
  intro As M Post h
  match As, h with
  | [.inl k], h =>
    replace h : Post (some (.inl (bi (s_isByP k)))) (M) := h
    refine mm_meth 113 (by decide) ⟨rfl, rfl, by decide, by decide⟩ mm_okN (Nat.le_of_ble_eq_true rfl) 21 ?_
    show mm_x (7, 1, some .boolean, false, 0, 0, none, false) prog_8_method_3_code (mm_gl []) (fun _ => none) Post 21 0 [some (.inl k)] [] M 0 0
    simp (config := { maxSteps := 2000000 }) only [Bool.not_eq_false, Bool.not_eq_true, kn_0, kn_1, Classical.not_not, bn_0, bn_1, bi_n, bi_0, bi_f, xs_x, xs_kk, xs_s, xs_cutI, xs_c, xs_d, xs_o, xs_p1, xs_pI, xs_pL, xs_pR, xs_vI, xs_vL, xs_vQ, xs_lV0, xs_lVs, xs_pN0, xs_pNs, xs_k0, xs_0eq, xs_0ne, xs_0lt, xs_0ge, xs_0gt, xs_0le, xs_2eq, xs_2ne, xs_2lt, xs_2ge, xs_2gt, xs_2le, xs_catI, xs_catL, xs_catR, xs_sm0, xs_sm1, xs_tl1, xs_tl0, xs_nI, xs_fI, xs_putI, xs_putL, xs_putR, fv_0, fv_1, fv_2, fv_3, st1_0, st1_1I, st2_1I, st1_1L, st2_1L, st1_1R, st2_1R, st1_1N, st2_1N, st2_0, st1_s, st2_s, xi_iconst, xi_bipush, xi_sipush, xi_iload_n, xi_if_icmp, xi_goto, xi_ireturn, xs_ivS, xs_ivN, xs_call, k_ic_0, k_ic_1, k_bi_100, k_bi_101, k_si_200, k_si_201, gy_0, gm_0, gy_1, gm_1, gy_2, gl_2, gm_2, gy_3, gl_3, gm_3, gy_4, gl_4, gm_4, gy_5, gl_5, gm_5, gy_6, gl_6, gm_6, gy_7, gl_7, gm_7, gy_8, gl_8, gm_8, gy_9, gl_9, gm_9, gy_10, gl_10, gm_10, gy_11, gl_11, gm_11, gy_12, gm_12, gy_13, gl_13, gm_13, gy_14, gy_15, gl_15, gy_16, gl_16, gy_17, gl_17, gy_18, gl_18, gy_19, gl_19, gy_20, gl_20, gy_21, gm_21, gs_1, gs_2, gs_3, gg_i, gg_z, gg_l, gg_o, gg_a, gi_s, gi_a, List.toList_toArray, Nat.reduceAdd, Int.reduceAdd, Nat.reduceLeDiff, Nat.reduceLT, Nat.reduceEqDiff, reduceIte, ne_eq, not_false_eq_true, true_imp_iff, false_imp_iff, not_true_eq_false, implies_true, Jvm.ClassFile.FieldType.object.injEq, exists_eq_left', exists_eq_left, decide_eq_true_eq, true_and, and_true, true_or, or_true, false_or, or_false, Nat.le_refl, forall_const, Fin.isValue, Fin.val_zero, Fin.val_one, reduceCtorEq, Nat.zero_add, Int.zero_add, Int.add_zero, Option.some.injEq, Sum.inl.injEq, Sum.inr.injEq, Prod.mk.injEq, and_self, eq_self, d113_0, d113_1, d113_3, d113_6, d113_7, d113_9, d113_12, d113_13, d113_16, d113_19, d113_20, d113_23, d113_26, d113_27, d113_30, d113_31, jt_16_10, jt_23_7, jt_27_4, jt_3_23, jt_9_17, jp_16_10, jp_23_7, jp_27_4, jp_3_23, jp_9_17]
    repeat' (first | apply And.intro | with_reducible intro _)
    all_goals first | with_reducible exact h | (with_reducible contradiction) | (with_reducible assumption) | exact vin_c (by with_reducible assumption) (by with_reducible assumption) (by decide) | (simp only [s_isByP, bi, *, reduceIte] at h; with_reducible exact h) | exact mm_pi h (by simp [s_isByP, bi, *]) | exact mm_pl h (by simp [s_isByP, bi, *]) | exact mm_pm h (by simp [s_isByP, bi, *]) (by simp [s_isByP, bi, *])
def s_isCast (k : Int32) : Bool := s_isInt k || s_isByP k
def k_isCast : mm_Ct := fun As M Post => match As with
  | [.inl k] => Post (some (.inl (bi (s_isCast k)))) (M)
  | _ => False
theorem e_isCast {M : mm_M} {Post : Option mm_V → mm_M → Prop} {k : Int32} : k_isCast [.inl k] M Post = (Post (some (.inl (bi (s_isCast k)))) (M)) := rfl
set_option maxRecDepth 100000 in
set_option maxHeartbeats 1000000 in
theorem v_isCast : mm_Vd l D dA sz 2 114 k_isCast := by
  intro As M Post h
  match As, h with
  | [.inl k], h =>
    replace h : Post (some (.inl (bi (s_isCast k)))) (M) := h
    refine mm_meth 114 (by decide) ⟨rfl, rfl, by decide, by decide⟩ (mm_okC v_isInt (by decide) (by decide) (mm_okC v_isByP (by decide) (by decide) mm_okN)) (Nat.le_of_ble_eq_true rfl) 15 ?_
    have g112 : ∀ As M P, mm_gl [(112, k_isInt), (113, k_isByP)] 112 As M P = k_isInt As M P := fun _ _ _ => rfl
    have g113 : ∀ As M P, mm_gl [(112, k_isInt), (113, k_isByP)] 113 As M P = k_isByP As M P := fun _ _ _ => rfl
    show mm_x (7, 1, some .boolean, false, 0, 0, none, false) prog_8_method_4_code (mm_gl [(112, k_isInt), (113, k_isByP)]) (fun _ => none) Post 15 0 [some (.inl k)] [] M 0 0
    simp (config := { maxSteps := 2000000 }) only [↓g112, ↓g113, ↓e_isInt, ↓e_isByP, mk_112, mk_113, Bool.not_eq_false, Bool.not_eq_true, kn_0, kn_1, Classical.not_not, bn_0, bn_1, bi_n, bi_0, bi_f, xs_x, xs_kk, xs_s, xs_cutI, xs_c, xs_d, xs_o, xs_p1, xs_pI, xs_pL, xs_pR, xs_vI, xs_vL, xs_vQ, xs_lV0, xs_lVs, xs_pN0, xs_pNs, xs_k0, xs_0eq, xs_0ne, xs_0lt, xs_0ge, xs_0gt, xs_0le, xs_2eq, xs_2ne, xs_2lt, xs_2ge, xs_2gt, xs_2le, xs_catI, xs_catL, xs_catR, xs_sm0, xs_sm1, xs_tl1, xs_tl0, xs_nI, xs_fI, xs_putI, xs_putL, xs_putR, fv_0, fv_1, fv_2, fv_3, st1_0, st1_1I, st2_1I, st1_1L, st2_1L, st1_1R, st2_1R, st1_1N, st2_1N, st2_0, st1_s, st2_s, xi_iconst, xi_iload_n, xi_ifCond, xi_goto, xi_invokestatic, xi_ireturn, xs_ivS, xs_ivN, xs_call, k_ic_0, k_ic_1, gy_0, gm_0, gy_1, gm_1, gy_2, gl_2, gm_2, gy_3, gl_3, gm_3, gy_4, gl_4, gm_4, gy_5, gl_5, gm_5, gy_6, gl_6, gm_6, gy_7, gl_7, gm_7, gy_8, gl_8, gm_8, gy_9, gl_9, gm_9, gy_10, gl_10, gm_10, gy_11, gl_11, gm_11, gy_12, gm_12, gy_13, gl_13, gm_13, gy_14, gy_15, gl_15, gy_16, gl_16, gy_17, gl_17, gy_18, gl_18, gy_19, gl_19, gy_20, gl_20, gy_21, gm_21, gs_1, gs_2, gs_3, gg_i, gg_z, gg_l, gg_o, gg_a, gi_s, gi_a, List.toList_toArray, Nat.reduceAdd, Int.reduceAdd, Nat.reduceLeDiff, Nat.reduceLT, Nat.reduceEqDiff, reduceIte, ne_eq, not_false_eq_true, true_imp_iff, false_imp_iff, not_true_eq_false, implies_true, Jvm.ClassFile.FieldType.object.injEq, exists_eq_left', exists_eq_left, decide_eq_true_eq, true_and, and_true, true_or, or_true, false_or, or_false, Nat.le_refl, forall_const, Fin.isValue, Fin.val_zero, Fin.val_one, reduceCtorEq, Nat.zero_add, Int.zero_add, Int.add_zero, Option.some.injEq, Sum.inl.injEq, Sum.inr.injEq, Prod.mk.injEq, and_self, eq_self, d114_0, d114_1, d114_4, d114_7, d114_8, d114_11, d114_14, d114_15, d114_18, d114_19, jn_7_13, jn_7_9, mt_7_13, mt_7_9, jt_11_7, jt_15_4, jt_4_10, jp_11_7, jp_15_4, jp_4_10]
    repeat' (first | apply And.intro | with_reducible intro _)
    all_goals first | with_reducible exact h | (with_reducible contradiction) | (with_reducible assumption) | exact vin_c (by with_reducible assumption) (by with_reducible assumption) (by decide) | (simp only [s_isCast, bi, *, reduceIte] at h; with_reducible exact h) | exact mm_pi h (by simp [s_isCast, bi, *]) | exact mm_pl h (by simp [s_isCast, bi, *]) | exact mm_pm h (by simp [s_isCast, bi, *]) (by simp [s_isCast, bi, *])
def s_isRes (k : Int32) : Bool := decide (k = 0) || s_isCast k
def k_isRes : mm_Ct := fun As M Post => match As with
  | [.inl k] => Post (some (.inl (bi (s_isRes k)))) (M)
  | _ => False
theorem e_isRes {M : mm_M} {Post : Option mm_V → mm_M → Prop} {k : Int32} : k_isRes [.inl k] M Post = (Post (some (.inl (bi (s_isRes k)))) (M)) := rfl
set_option maxRecDepth 100000 in
set_option maxHeartbeats 1000000 in
theorem v_isRes : mm_Vd l D dA sz 3 115 k_isRes := by
  intro As M Post h
  match As, h with
  | [.inl k], h =>
    replace h : Post (some (.inl (bi (s_isRes k)))) (M) := h
    refine mm_meth 115 (by decide) ⟨rfl, rfl, by decide, by decide⟩ (mm_okC v_isCast (by decide) (by decide) mm_okN) (Nat.le_of_ble_eq_true rfl) 14 ?_
    have g114 : ∀ As M P, mm_gl [(114, k_isCast)] 114 As M P = k_isCast As M P := fun _ _ _ => rfl
    show mm_x (7, 1, some .boolean, false, 0, 0, none, false) prog_8_method_5_code (mm_gl [(114, k_isCast)]) (fun _ => none) Post 14 0 [some (.inl k)] [] M 0 0
    simp (config := { maxSteps := 2000000 }) only [↓g114, ↓e_isCast, mk_114, Bool.not_eq_false, Bool.not_eq_true, kn_0, kn_1, Classical.not_not, bn_0, bn_1, bi_n, bi_0, bi_f, xs_x, xs_kk, xs_s, xs_cutI, xs_c, xs_d, xs_o, xs_p1, xs_pI, xs_pL, xs_pR, xs_vI, xs_vL, xs_vQ, xs_lV0, xs_lVs, xs_pN0, xs_pNs, xs_k0, xs_0eq, xs_0ne, xs_0lt, xs_0ge, xs_0gt, xs_0le, xs_2eq, xs_2ne, xs_2lt, xs_2ge, xs_2gt, xs_2le, xs_catI, xs_catL, xs_catR, xs_sm0, xs_sm1, xs_tl1, xs_tl0, xs_nI, xs_fI, xs_putI, xs_putL, xs_putR, fv_0, fv_1, fv_2, fv_3, st1_0, st1_1I, st2_1I, st1_1L, st2_1L, st1_1R, st2_1R, st1_1N, st2_1N, st2_0, st1_s, st2_s, xi_iconst, xi_iload_n, xi_ifCond, xi_goto, xi_invokestatic, xi_ireturn, xs_ivS, xs_ivN, xs_call, k_ic_0, k_ic_1, gy_0, gm_0, gy_1, gm_1, gy_2, gl_2, gm_2, gy_3, gl_3, gm_3, gy_4, gl_4, gm_4, gy_5, gl_5, gm_5, gy_6, gl_6, gm_6, gy_7, gl_7, gm_7, gy_8, gl_8, gm_8, gy_9, gl_9, gm_9, gy_10, gl_10, gm_10, gy_11, gl_11, gm_11, gy_12, gm_12, gy_13, gl_13, gm_13, gy_14, gy_15, gl_15, gy_16, gl_16, gy_17, gl_17, gy_18, gl_18, gy_19, gl_19, gy_20, gl_20, gy_21, gm_21, gs_1, gs_2, gs_3, gg_i, gg_z, gg_l, gg_o, gg_a, gi_s, gi_a, List.toList_toArray, Nat.reduceAdd, Int.reduceAdd, Nat.reduceLeDiff, Nat.reduceLT, Nat.reduceEqDiff, reduceIte, ne_eq, not_false_eq_true, true_imp_iff, false_imp_iff, not_true_eq_false, implies_true, Jvm.ClassFile.FieldType.object.injEq, exists_eq_left', exists_eq_left, decide_eq_true_eq, true_and, and_true, true_or, or_true, false_or, or_false, Nat.le_refl, forall_const, Fin.isValue, Fin.val_zero, Fin.val_one, reduceCtorEq, Nat.zero_add, Int.zero_add, Int.add_zero, Option.some.injEq, Sum.inl.injEq, Sum.inr.injEq, Prod.mk.injEq, and_self, eq_self, d115_0, d115_1, d115_4, d115_5, d115_8, d115_11, d115_12, d115_15, d115_16, jn_7_16, mt_7_16, jt_12_4, jt_1_10, jt_8_7, jp_12_4, jp_1_10, jp_8_7]
    repeat' (first | apply And.intro | with_reducible intro _)
    all_goals first | with_reducible exact h | (with_reducible contradiction) | (with_reducible assumption) | exact vin_c (by with_reducible assumption) (by with_reducible assumption) (by decide) | (simp only [s_isRes, bi, *, reduceIte] at h; with_reducible exact h) | exact mm_pi h (by simp [s_isRes, bi, *]) | exact mm_pl h (by simp [s_isRes, bi, *]) | exact mm_pm h (by simp [s_isRes, bi, *]) (by simp [s_isRes, bi, *])
def s_isPar (k : Int32) : Bool := s_isRes k || decide (k = 300) || decide (k = 400)
def k_isPar : mm_Ct := fun As M Post => match As with
  | [.inl k] => Post (some (.inl (bi (s_isPar k)))) (M)
  | _ => False
theorem e_isPar {M : mm_M} {Post : Option mm_V → mm_M → Prop} {k : Int32} : k_isPar [.inl k] M Post = (Post (some (.inl (bi (s_isPar k)))) (M)) := rfl
set_option maxRecDepth 100000 in
set_option maxHeartbeats 1000000 in
theorem v_isPar : mm_Vd l D dA sz 4 116 k_isPar := by
  intro As M Post h
  match As, h with
  | [.inl k], h =>
    replace h : Post (some (.inl (bi (s_isPar k)))) (M) := h
    refine mm_meth 116 (by decide) ⟨rfl, rfl, by decide, by decide⟩ (mm_okC v_isRes (by decide) (by decide) mm_okN) (Nat.le_of_ble_eq_true rfl) 18 ?_
    have g115 : ∀ As M P, mm_gl [(115, k_isRes)] 115 As M P = k_isRes As M P := fun _ _ _ => rfl
    show mm_x (7, 1, some .boolean, false, 0, 0, none, false) prog_8_method_6_code (mm_gl [(115, k_isRes)]) (fun _ => none) Post 18 0 [some (.inl k)] [] M 0 0
    simp (config := { maxSteps := 2000000 }) only [↓g115, ↓e_isRes, mk_115, Bool.not_eq_false, Bool.not_eq_true, kn_0, kn_1, Classical.not_not, bn_0, bn_1, bi_n, bi_0, bi_f, xs_x, xs_kk, xs_s, xs_cutI, xs_c, xs_d, xs_o, xs_p1, xs_pI, xs_pL, xs_pR, xs_vI, xs_vL, xs_vQ, xs_lV0, xs_lVs, xs_pN0, xs_pNs, xs_k0, xs_0eq, xs_0ne, xs_0lt, xs_0ge, xs_0gt, xs_0le, xs_2eq, xs_2ne, xs_2lt, xs_2ge, xs_2gt, xs_2le, xs_catI, xs_catL, xs_catR, xs_sm0, xs_sm1, xs_tl1, xs_tl0, xs_nI, xs_fI, xs_putI, xs_putL, xs_putR, fv_0, fv_1, fv_2, fv_3, st1_0, st1_1I, st2_1I, st1_1L, st2_1L, st1_1R, st2_1R, st1_1N, st2_1N, st2_0, st1_s, st2_s, xi_iconst, xi_sipush, xi_iload_n, xi_ifCond, xi_if_icmp, xi_goto, xi_invokestatic, xi_ireturn, xs_ivS, xs_ivN, xs_call, k_ic_0, k_ic_1, k_si_300, k_si_400, gy_0, gm_0, gy_1, gm_1, gy_2, gl_2, gm_2, gy_3, gl_3, gm_3, gy_4, gl_4, gm_4, gy_5, gl_5, gm_5, gy_6, gl_6, gm_6, gy_7, gl_7, gm_7, gy_8, gl_8, gm_8, gy_9, gl_9, gm_9, gy_10, gl_10, gm_10, gy_11, gl_11, gm_11, gy_12, gm_12, gy_13, gl_13, gm_13, gy_14, gy_15, gl_15, gy_16, gl_16, gy_17, gl_17, gy_18, gl_18, gy_19, gl_19, gy_20, gl_20, gy_21, gm_21, gs_1, gs_2, gs_3, gg_i, gg_z, gg_l, gg_o, gg_a, gi_s, gi_a, List.toList_toArray, Nat.reduceAdd, Int.reduceAdd, Nat.reduceLeDiff, Nat.reduceLT, Nat.reduceEqDiff, reduceIte, ne_eq, not_false_eq_true, true_imp_iff, false_imp_iff, not_true_eq_false, implies_true, Jvm.ClassFile.FieldType.object.injEq, exists_eq_left', exists_eq_left, decide_eq_true_eq, true_and, and_true, true_or, or_true, false_or, or_false, Nat.le_refl, forall_const, Fin.isValue, Fin.val_zero, Fin.val_one, reduceCtorEq, Nat.zero_add, Int.zero_add, Int.add_zero, Option.some.injEq, Sum.inl.injEq, Sum.inr.injEq, Prod.mk.injEq, and_self, eq_self, d116_0, d116_1, d116_4, d116_7, d116_8, d116_11, d116_14, d116_15, d116_18, d116_21, d116_22, d116_25, d116_26, jn_7_19, mt_7_19, jt_11_10, jt_18_7, jt_22_4, jt_4_17, jp_11_10, jp_18_7, jp_22_4, jp_4_17]
    repeat' (first | apply And.intro | with_reducible intro _)
    all_goals first | with_reducible exact h | (with_reducible contradiction) | (with_reducible assumption) | exact vin_c (by with_reducible assumption) (by with_reducible assumption) (by decide) | (simp only [s_isPar, bi, *, reduceIte] at h; with_reducible exact h) | exact mm_pi h (by simp [s_isPar, bi, *]) | exact mm_pl h (by simp [s_isPar, bi, *]) | exact mm_pm h (by simp [s_isPar, bi, *]) (by simp [s_isPar, bi, *])
def s_low (k : Int32) : Int64 := if k = 300 then -2147483648 else if k ≤ 0 then 0 else -((1 : Int64) <<< ((k - 1).toInt64 &&& 63))
def k_low : mm_Ct := fun As M Post => match As with
  | [.inl k] => Post (some (.inr (.inl (s_low k)))) (M)
  | _ => False
theorem e_low {M : mm_M} {Post : Option mm_V → mm_M → Prop} {k : Int32} : k_low [.inl k] M Post = (Post (some (.inr (.inl (s_low k)))) (M)) := rfl
set_option maxRecDepth 100000 in
set_option maxHeartbeats 1000000 in
theorem v_low : mm_Vd l D dA sz 1 117 k_low := by
  intro As M Post h
  match As, h with
  | [.inl k], h =>
    replace h : Post (some (.inr (.inl (s_low k)))) (M) := h
    refine mm_meth 117 (by decide) ⟨rfl, rfl, by decide, by decide⟩ mm_okN (Nat.le_of_ble_eq_true rfl) 21 ?_
    show mm_x (7, 1, some .long, false, 0, 0, none, false) prog_8_method_7_code (mm_gl []) (fun _ => none) Post 21 0 [some (.inl k)] [] M 0 0
    simp (config := { maxSteps := 2000000 }) only [Bool.not_eq_false, Bool.not_eq_true, kn_0, kn_1, Classical.not_not, bn_0, bn_1, bi_n, bi_0, bi_f, xs_x, xs_kk, xs_s, xs_cutI, xs_c, xs_d, xs_o, xs_p1, xs_pI, xs_pL, xs_pR, xs_vI, xs_vL, xs_vQ, xs_lV0, xs_lVs, xs_pN0, xs_pNs, xs_k0, xs_0eq, xs_0ne, xs_0lt, xs_0ge, xs_0gt, xs_0le, xs_2eq, xs_2ne, xs_2lt, xs_2ge, xs_2gt, xs_2le, xs_catI, xs_catL, xs_catR, xs_sm0, xs_sm1, xs_tl1, xs_tl0, xs_nI, xs_fI, xs_putI, xs_putL, xs_putR, fv_0, fv_1, fv_2, fv_3, st1_0, st1_1I, st2_1I, st1_1L, st2_1L, st1_1R, st2_1R, st1_1N, st2_1N, st2_0, st1_s, st2_s, xi_iconst, xi_sipush, xi_lconst, xi_ldc2_w, xi_iload_n, xi_isub, xi_lneg, xi_lshl, xi_ifCond, xi_if_icmp, xi_goto, xi_lreturn, xs_ivS, xs_ivN, xs_call, k_ic_1, k_si_300, k_lc_0, k_lc_1, gy_0, gm_0, gy_1, gm_1, gy_2, gl_2, gm_2, gy_3, gl_3, gm_3, gy_4, gl_4, gm_4, gy_5, gl_5, gm_5, gy_6, gl_6, gm_6, gy_7, gl_7, gm_7, gy_8, gl_8, gm_8, gy_9, gl_9, gm_9, gy_10, gl_10, gm_10, gy_11, gl_11, gm_11, gy_12, gm_12, gy_13, gl_13, gm_13, gy_14, gy_15, gl_15, gy_16, gl_16, gy_17, gl_17, gy_18, gl_18, gy_19, gl_19, gy_20, gl_20, gy_21, gm_21, gs_1, gs_2, gs_3, gg_i, gg_z, gg_l, gg_o, gg_a, gi_s, gi_a, List.toList_toArray, Nat.reduceAdd, Int.reduceAdd, Nat.reduceLeDiff, Nat.reduceLT, Nat.reduceEqDiff, reduceIte, ne_eq, not_false_eq_true, true_imp_iff, false_imp_iff, not_true_eq_false, implies_true, Jvm.ClassFile.FieldType.object.injEq, exists_eq_left', exists_eq_left, decide_eq_true_eq, true_and, and_true, true_or, or_true, false_or, or_false, Nat.le_refl, forall_const, Fin.isValue, Fin.val_zero, Fin.val_one, reduceCtorEq, Nat.zero_add, Int.zero_add, Int.add_zero, Option.some.injEq, Sum.inl.injEq, Sum.inr.injEq, Prod.mk.injEq, and_self, eq_self, d117_0, d117_1, d117_4, d117_7, d117_10, d117_11, d117_12, d117_15, d117_16, d117_17, d117_18, d117_19, d117_20, d117_21, d117_24, d117_25, cn_7_22, jt_12_12, jt_21_4, jt_4_7, jp_12_12, jp_21_4, jp_4_7]
    repeat' (first | apply And.intro | with_reducible intro _)
    all_goals first | with_reducible exact h | (with_reducible contradiction) | (with_reducible assumption) | exact vin_c (by with_reducible assumption) (by with_reducible assumption) (by decide) | (simp only [s_low, *, reduceIte] at h; with_reducible exact h) | exact mm_pi h (by simp [s_low, *]) | exact mm_pl h (by simp [s_low, *]) | exact mm_pm h (by simp [s_low, *]) (by simp [s_low, *])
def s_high (k : Int32) : Int64 := if k = 300 then 2147483648 else if k = 0 then 1 else if k ≤ 0 then ((1 : Int64) <<< ((-k).toInt64 &&& 63)) - 1 else ((1 : Int64) <<< ((k - 1).toInt64 &&& 63)) - 1
def k_high : mm_Ct := fun As M Post => match As with
  | [.inl k] => Post (some (.inr (.inl (s_high k)))) (M)
  | _ => False
theorem e_high {M : mm_M} {Post : Option mm_V → mm_M → Prop} {k : Int32} : k_high [.inl k] M Post = (Post (some (.inr (.inl (s_high k)))) (M)) := rfl
set_option maxRecDepth 100000 in
set_option maxHeartbeats 1000000 in
theorem v_high : mm_Vd l D dA sz 1 118 k_high := by
  intro As M Post h
  match As, h with
  | [.inl k], h =>
    replace h : Post (some (.inr (.inl (s_high k)))) (M) := h
    refine mm_meth 118 (by decide) ⟨rfl, rfl, by decide, by decide⟩ mm_okN (Nat.le_of_ble_eq_true rfl) 31 ?_
    show mm_x (7, 1, some .long, false, 0, 0, none, false) prog_8_method_8_code (mm_gl []) (fun _ => none) Post 31 0 [some (.inl k)] [] M 0 0
    simp (config := { maxSteps := 2000000 }) only [Bool.not_eq_false, Bool.not_eq_true, kn_0, kn_1, Classical.not_not, bn_0, bn_1, bi_n, bi_0, bi_f, xs_x, xs_kk, xs_s, xs_cutI, xs_c, xs_d, xs_o, xs_p1, xs_pI, xs_pL, xs_pR, xs_vI, xs_vL, xs_vQ, xs_lV0, xs_lVs, xs_pN0, xs_pNs, xs_k0, xs_0eq, xs_0ne, xs_0lt, xs_0ge, xs_0gt, xs_0le, xs_2eq, xs_2ne, xs_2lt, xs_2ge, xs_2gt, xs_2le, xs_catI, xs_catL, xs_catR, xs_sm0, xs_sm1, xs_tl1, xs_tl0, xs_nI, xs_fI, xs_putI, xs_putL, xs_putR, fv_0, fv_1, fv_2, fv_3, st1_0, st1_1I, st2_1I, st1_1L, st2_1L, st1_1R, st2_1R, st1_1N, st2_1N, st2_0, st1_s, st2_s, xi_iconst, xi_sipush, xi_lconst, xi_ldc2_w, xi_iload_n, xi_isub, xi_ineg, xi_lsub, xi_lshl, xi_ifCond, xi_if_icmp, xi_goto, xi_lreturn, xs_ivS, xs_ivN, xs_call, k_ic_1, k_si_300, k_lc_1, gy_0, gm_0, gy_1, gm_1, gy_2, gl_2, gm_2, gy_3, gl_3, gm_3, gy_4, gl_4, gm_4, gy_5, gl_5, gm_5, gy_6, gl_6, gm_6, gy_7, gl_7, gm_7, gy_8, gl_8, gm_8, gy_9, gl_9, gm_9, gy_10, gl_10, gm_10, gy_11, gl_11, gm_11, gy_12, gm_12, gy_13, gl_13, gm_13, gy_14, gy_15, gl_15, gy_16, gl_16, gy_17, gl_17, gy_18, gl_18, gy_19, gl_19, gy_20, gl_20, gy_21, gm_21, gs_1, gs_2, gs_3, gg_i, gg_z, gg_l, gg_o, gg_a, gi_s, gi_a, List.toList_toArray, Nat.reduceAdd, Int.reduceAdd, Nat.reduceLeDiff, Nat.reduceLT, Nat.reduceEqDiff, reduceIte, ne_eq, not_false_eq_true, true_imp_iff, false_imp_iff, not_true_eq_false, implies_true, Jvm.ClassFile.FieldType.object.injEq, exists_eq_left', exists_eq_left, decide_eq_true_eq, true_and, and_true, true_or, or_true, false_or, or_false, Nat.le_refl, forall_const, Fin.isValue, Fin.val_zero, Fin.val_one, reduceCtorEq, Nat.zero_add, Int.zero_add, Int.add_zero, Option.some.injEq, Sum.inl.injEq, Sum.inr.injEq, Prod.mk.injEq, and_self, eq_self, d118_0, d118_1, d118_4, d118_7, d118_10, d118_11, d118_12, d118_15, d118_16, d118_17, d118_18, d118_21, d118_22, d118_23, d118_24, d118_25, d118_26, d118_27, d118_28, d118_31, d118_32, d118_33, d118_34, d118_35, d118_36, d118_37, cn_7_24, jt_12_5, jt_18_13, jt_28_9, jt_4_7, jp_12_5, jp_18_13, jp_28_9, jp_4_7]
    repeat' (first | apply And.intro | with_reducible intro _)
    all_goals first | with_reducible exact h | (with_reducible contradiction) | (with_reducible assumption) | exact vin_c (by with_reducible assumption) (by with_reducible assumption) (by decide) | (simp only [s_high, *, reduceIte] at h; with_reducible exact h) | exact mm_pi h (by simp [s_high, *]) | exact mm_pl h (by simp [s_high, *]) | exact mm_pm h (by simp [s_high, *]) (by simp [s_high, *])
def s_holds (k : Int32) (x : Int64) : Bool := !decide (x < s_low k) && !decide (s_high k < x)
def k_holds : mm_Ct := fun As M Post => match As with
  | [.inl k, .inr (.inl x)] => Post (some (.inl (bi (s_holds k x)))) (M)
  | _ => False
theorem e_holds {M : mm_M} {Post : Option mm_V → mm_M → Prop} {k : Int32} {x : Int64} : k_holds [.inl k, .inr (.inl x)] M Post = (Post (some (.inl (bi (s_holds k x)))) (M)) := rfl
set_option maxRecDepth 100000 in
set_option maxHeartbeats 1000000 in
theorem v_holds : mm_Vd l D dA sz 2 119 k_holds := by
  intro As M Post h
  match As, h with
  | [.inl k, .inr (.inl x)], h =>
    replace h : Post (some (.inl (bi (s_holds k x)))) (M) := h
    refine mm_meth 119 (by decide) ⟨rfl, rfl, by decide, by decide⟩ (mm_okC v_low (by decide) (by decide) (mm_okC v_high (by decide) (by decide) mm_okN)) (Nat.le_of_ble_eq_true rfl) 19 ?_
    have g117 : ∀ As M P, mm_gl [(117, k_low), (118, k_high)] 117 As M P = k_low As M P := fun _ _ _ => rfl
    have g118 : ∀ As M P, mm_gl [(117, k_low), (118, k_high)] 118 As M P = k_high As M P := fun _ _ _ => rfl
    show mm_x (7, 3, some .boolean, false, 0, 0, none, false) prog_8_method_9_code (mm_gl [(117, k_low), (118, k_high)]) (fun _ => none) Post 19 0 [some (.inl k), some (.inr (.inl x)), none] [] M 0 0
    simp (config := { maxSteps := 2000000 }) only [↓g117, ↓g118, ↓e_low, ↓e_high, mk_117, mk_118, Bool.not_eq_false, Bool.not_eq_true, kn_0, kn_1, Classical.not_not, bn_0, bn_1, bi_n, bi_0, bi_f, lg_cmp_ge, lg_cmp_lt, lg_cmp_gt, lg_cmp_le, lg_cmp_eq, xs_x, xs_kk, xs_s, xs_cutI, xs_c, xs_d, xs_o, xs_p1, xs_pI, xs_pL, xs_pR, xs_vI, xs_vL, xs_vQ, xs_lV0, xs_lVs, xs_pN0, xs_pNs, xs_k0, xs_0eq, xs_0ne, xs_0lt, xs_0ge, xs_0gt, xs_0le, xs_2eq, xs_2ne, xs_2lt, xs_2ge, xs_2gt, xs_2le, xs_catI, xs_catL, xs_catR, xs_sm0, xs_sm1, xs_tl1, xs_tl0, xs_nI, xs_fI, xs_putI, xs_putL, xs_putR, fv_0, fv_1, fv_2, fv_3, st1_0, st1_1I, st2_1I, st1_1L, st2_1L, st1_1R, st2_1R, st1_1N, st2_1N, st2_0, st1_s, st2_s, xi_iconst, xi_iload_n, xi_lload_n, xi_lcmp, xi_ifCond, xi_goto, xi_invokestatic, xi_ireturn, xs_ivS, xs_ivN, xs_call, k_ic_0, k_ic_1, gy_0, gm_0, gy_1, gm_1, gy_2, gl_2, gm_2, gy_3, gl_3, gm_3, gy_4, gl_4, gm_4, gy_5, gl_5, gm_5, gy_6, gl_6, gm_6, gy_7, gl_7, gm_7, gy_8, gl_8, gm_8, gy_9, gl_9, gm_9, gy_10, gl_10, gm_10, gy_11, gl_11, gm_11, gy_12, gm_12, gy_13, gl_13, gm_13, gy_14, gy_15, gl_15, gy_16, gl_16, gy_17, gl_17, gy_18, gl_18, gy_19, gl_19, gy_20, gl_20, gy_21, gm_21, gs_1, gs_2, gs_3, gg_i, gg_z, gg_l, gg_o, gg_a, gi_s, gi_a, List.toList_toArray, Nat.reduceAdd, Int.reduceAdd, Nat.reduceLeDiff, Nat.reduceLT, Nat.reduceEqDiff, reduceIte, ne_eq, not_false_eq_true, true_imp_iff, false_imp_iff, not_true_eq_false, implies_true, Jvm.ClassFile.FieldType.object.injEq, exists_eq_left', exists_eq_left, decide_eq_true_eq, true_and, and_true, true_or, or_true, false_or, or_false, Nat.le_refl, forall_const, Fin.isValue, Fin.val_zero, Fin.val_one, reduceCtorEq, Nat.zero_add, Int.zero_add, Int.add_zero, Option.some.injEq, Sum.inl.injEq, Sum.inr.injEq, Prod.mk.injEq, and_self, eq_self, d119_0, d119_1, d119_2, d119_5, d119_6, d119_9, d119_10, d119_11, d119_14, d119_15, d119_18, d119_19, d119_22, d119_23, jn_7_26, jn_7_30, mt_7_26, mt_7_30, jt_15_7, jt_19_4, jt_6_16, jp_15_7, jp_19_4, jp_6_16]
    repeat' (first | apply And.intro | with_reducible intro _)
    all_goals first | with_reducible exact h | (with_reducible contradiction) | (with_reducible assumption) | exact vin_c (by with_reducible assumption) (by with_reducible assumption) (by decide) | (simp only [s_holds, bi, *, reduceIte] at h; with_reducible exact h) | exact mm_pi h (by simp [s_holds, bi, *]) | exact mm_pl h (by simp [s_holds, bi, *]) | exact mm_pm h (by simp [s_holds, bi, *]) (by simp [s_holds, bi, *])
def s_isTrap (x : Int64) : Bool := decide (1000000000000000 < x)
def k_isTrap : mm_Ct := fun As M Post => match As with
  | [.inr (.inl x)] => Post (some (.inl (bi (s_isTrap x)))) (M)
  | _ => False
theorem e_isTrap {M : mm_M} {Post : Option mm_V → mm_M → Prop} {x : Int64} : k_isTrap [.inr (.inl x)] M Post = (Post (some (.inl (bi (s_isTrap x)))) (M)) := rfl
set_option maxRecDepth 100000 in
set_option maxHeartbeats 1000000 in
theorem v_isTrap : mm_Vd l D dA sz 1 120 k_isTrap := by
  intro As M Post h
  match As, h with
  | [.inr (.inl x)], h =>
    replace h : Post (some (.inl (bi (s_isTrap x)))) (M) := h
    refine mm_meth 120 (by decide) ⟨rfl, rfl, by decide, by decide⟩ mm_okN (Nat.le_of_ble_eq_true rfl) 13 ?_
    show mm_x (8, 2, some .boolean, false, 0, 0, none, false) prog_2_method_2_code (mm_gl []) (fun _ => none) Post 13 0 [some (.inr (.inl x)), none] [] M 0 0
    simp (config := { maxSteps := 2000000 }) only [Bool.not_eq_false, Bool.not_eq_true, kn_0, kn_1, Classical.not_not, bn_0, bn_1, bi_n, bi_0, bi_f, lg_cmp_ge, lg_cmp_lt, lg_cmp_gt, lg_cmp_le, lg_cmp_eq, xs_x, xs_kk, xs_s, xs_cutI, xs_c, xs_d, xs_o, xs_p1, xs_pI, xs_pL, xs_pR, xs_vI, xs_vL, xs_vQ, xs_lV0, xs_lVs, xs_pN0, xs_pNs, xs_k0, xs_0eq, xs_0ne, xs_0lt, xs_0ge, xs_0gt, xs_0le, xs_2eq, xs_2ne, xs_2lt, xs_2ge, xs_2gt, xs_2le, xs_catI, xs_catL, xs_catR, xs_sm0, xs_sm1, xs_tl1, xs_tl0, xs_nI, xs_fI, xs_putI, xs_putL, xs_putR, fv_0, fv_1, fv_2, fv_3, st1_0, st1_1I, st2_1I, st1_1L, st2_1L, st1_1R, st2_1R, st1_1N, st2_1N, st2_0, st1_s, st2_s, xi_iconst, xi_ldc2_w, xi_lload_n, xi_lcmp, xi_ifCond, xi_goto, xi_ireturn, xs_ivS, xs_ivN, xs_call, k_ic_0, k_ic_1, gy_0, gm_0, gy_1, gm_1, gy_2, gl_2, gm_2, gy_3, gl_3, gm_3, gy_4, gl_4, gm_4, gy_5, gl_5, gm_5, gy_6, gl_6, gm_6, gy_7, gl_7, gm_7, gy_8, gl_8, gm_8, gy_9, gl_9, gm_9, gy_10, gl_10, gm_10, gy_11, gl_11, gm_11, gy_12, gm_12, gy_13, gl_13, gm_13, gy_14, gy_15, gl_15, gy_16, gl_16, gy_17, gl_17, gy_18, gl_18, gy_19, gl_19, gy_20, gl_20, gy_21, gm_21, gs_1, gs_2, gs_3, gg_i, gg_z, gg_l, gg_o, gg_a, gi_s, gi_a, List.toList_toArray, Nat.reduceAdd, Int.reduceAdd, Nat.reduceLeDiff, Nat.reduceLT, Nat.reduceEqDiff, reduceIte, ne_eq, not_false_eq_true, true_imp_iff, false_imp_iff, not_true_eq_false, implies_true, Jvm.ClassFile.FieldType.object.injEq, exists_eq_left', exists_eq_left, decide_eq_true_eq, true_and, and_true, true_or, or_true, false_or, or_false, Nat.le_refl, forall_const, Fin.isValue, Fin.val_zero, Fin.val_one, reduceCtorEq, Nat.zero_add, Int.zero_add, Int.add_zero, Option.some.injEq, Sum.inl.injEq, Sum.inr.injEq, Prod.mk.injEq, and_self, eq_self, d120_0, d120_1, d120_4, d120_5, d120_8, d120_9, d120_12, d120_13, cn_8_9, jt_5_7, jt_9_4, jp_5_7, jp_9_4]
    repeat' (first | apply And.intro | with_reducible intro _)
    all_goals first | with_reducible exact h | (with_reducible contradiction) | (with_reducible assumption) | exact vin_c (by with_reducible assumption) (by with_reducible assumption) (by decide) | (simp only [s_isTrap, bi, Int64.not_lt, Int64.not_le, *, reduceIte] at h; with_reducible exact h) | exact mm_pi h (by simp [s_isTrap, bi, Int64.not_lt, Int64.not_le, *]) | exact mm_pl h (by simp [s_isTrap, bi, Int64.not_lt, Int64.not_le, *]) | exact mm_pm h (by simp [s_isTrap, bi, Int64.not_lt, Int64.not_le, *]) (by simp [s_isTrap, bi, Int64.not_lt, Int64.not_le, *])
def s_checked (k : Int32) (x : Int64) : Int64 := if s_holds k x = true then x else 1000000000000001
def k_checked : mm_Ct := fun As M Post => match As with
  | [.inl k, .inr (.inl x)] => Post (some (.inr (.inl (s_checked k x)))) (M)
  | _ => False
theorem e_checked {M : mm_M} {Post : Option mm_V → mm_M → Prop} {k : Int32} {x : Int64} : k_checked [.inl k, .inr (.inl x)] M Post = (Post (some (.inr (.inl (s_checked k x)))) (M)) := rfl
set_option maxRecDepth 100000 in
set_option maxHeartbeats 1000000 in
theorem v_checked : mm_Vd l D dA sz 3 122 k_checked := by
  intro As M Post h
  match As, h with
  | [.inl k, .inr (.inl x)], h =>
    replace h : Post (some (.inr (.inl (s_checked k x)))) (M) := h
    refine mm_meth 122 (by decide) ⟨rfl, rfl, by decide, by decide⟩ (mm_okC v_holds (by decide) (by decide) mm_okN) (Nat.le_of_ble_eq_true rfl) 13 ?_
    have g119 : ∀ As M P, mm_gl [(119, k_holds)] 119 As M P = k_holds As M P := fun _ _ _ => rfl
    show mm_x (8, 3, some .long, false, 0, 0, none, false) prog_2_method_4_code (mm_gl [(119, k_holds)]) (fun _ => none) Post 13 0 [some (.inl k), some (.inr (.inl x)), none] [] M 0 0
    simp (config := { maxSteps := 2000000 }) only [↓g119, ↓e_holds, mk_119, Bool.not_eq_false, Bool.not_eq_true, kn_0, kn_1, Classical.not_not, bn_0, bn_1, bi_n, bi_0, bi_f, xs_x, xs_kk, xs_s, xs_cutI, xs_c, xs_d, xs_o, xs_p1, xs_pI, xs_pL, xs_pR, xs_vI, xs_vL, xs_vQ, xs_lV0, xs_lVs, xs_pN0, xs_pNs, xs_k0, xs_0eq, xs_0ne, xs_0lt, xs_0ge, xs_0gt, xs_0le, xs_2eq, xs_2ne, xs_2lt, xs_2ge, xs_2gt, xs_2le, xs_catI, xs_catL, xs_catR, xs_sm0, xs_sm1, xs_tl1, xs_tl0, xs_nI, xs_fI, xs_putI, xs_putL, xs_putR, fv_0, fv_1, fv_2, fv_3, st1_0, st1_1I, st2_1I, st1_1L, st2_1L, st1_1R, st2_1R, st1_1N, st2_1N, st2_0, st1_s, st2_s, xi_ldc2_w, xi_iload_n, xi_lload_n, xi_ifCond, xi_goto, xi_invokestatic, xi_lreturn, xs_ivS, xs_ivN, xs_call, gy_0, gm_0, gy_1, gm_1, gy_2, gl_2, gm_2, gy_3, gl_3, gm_3, gy_4, gl_4, gm_4, gy_5, gl_5, gm_5, gy_6, gl_6, gm_6, gy_7, gl_7, gm_7, gy_8, gl_8, gm_8, gy_9, gl_9, gm_9, gy_10, gl_10, gm_10, gy_11, gl_11, gm_11, gy_12, gm_12, gy_13, gl_13, gm_13, gy_14, gy_15, gl_15, gy_16, gl_16, gy_17, gl_17, gy_18, gl_18, gy_19, gl_19, gy_20, gl_20, gy_21, gm_21, gs_1, gs_2, gs_3, gg_i, gg_z, gg_l, gg_o, gg_a, gi_s, gi_a, List.toList_toArray, Nat.reduceAdd, Int.reduceAdd, Nat.reduceLeDiff, Nat.reduceLT, Nat.reduceEqDiff, reduceIte, ne_eq, not_false_eq_true, true_imp_iff, false_imp_iff, not_true_eq_false, implies_true, Jvm.ClassFile.FieldType.object.injEq, exists_eq_left', exists_eq_left, decide_eq_true_eq, true_and, and_true, true_or, or_true, false_or, or_false, Nat.le_refl, forall_const, Fin.isValue, Fin.val_zero, Fin.val_one, reduceCtorEq, Nat.zero_add, Int.zero_add, Int.add_zero, Option.some.injEq, Sum.inl.injEq, Sum.inr.injEq, Prod.mk.injEq, and_self, eq_self, d122_0, d122_1, d122_2, d122_5, d122_8, d122_9, d122_12, d122_15, cn_8_31, jn_8_25, mt_8_25, jt_5_7, jt_9_6, jp_5_7, jp_9_6]
    repeat' (first | apply And.intro | with_reducible intro _)
    all_goals first | with_reducible exact h | (with_reducible contradiction) | (with_reducible assumption) | exact vin_c (by with_reducible assumption) (by with_reducible assumption) (by decide) | (simp only [s_checked, *, reduceIte] at h; with_reducible exact h) | exact mm_pi h (by simp [s_checked, *]) | exact mm_pl h (by simp [s_checked, *]) | exact mm_pm h (by simp [s_checked, *]) (by simp [s_checked, *])
def s_unused (k : Int32) : Int32 := 64 - (if 0 ≤ k then k else 0 - k)
def s_wrapped (k : Int32) (x : Int64) : Int64 := if k ≤ 0 then ((x <<< ((s_unused k).toInt64 &&& 63)).toUInt64 >>> ((s_unused k).toInt64.toUInt64 &&& Int64.toUInt64 63)).toInt64 else (x <<< ((s_unused k).toInt64 &&& 63)) >>> ((s_unused k).toInt64 &&& 63)
def k_wrapped : mm_Ct := fun As M Post => match As with
  | [.inl k, .inr (.inl x)] => Post (some (.inr (.inl (s_wrapped k x)))) (M)
  | _ => False
theorem e_wrapped {M : mm_M} {Post : Option mm_V → mm_M → Prop} {k : Int32} {x : Int64} : k_wrapped [.inl k, .inr (.inl x)] M Post = (Post (some (.inr (.inl (s_wrapped k x)))) (M)) := rfl
set_option maxRecDepth 100000 in
set_option maxHeartbeats 1000000 in
theorem v_wrapped : mm_Vd l D dA sz 1 123 k_wrapped := by
  intro As M Post h
  match As, h with
  | [.inl k, .inr (.inl x)], h =>
    replace h : Post (some (.inr (.inl (s_wrapped k x)))) (M) := h
    refine mm_meth 123 (by decide) ⟨rfl, rfl, by decide, by decide⟩ mm_okN (Nat.le_of_ble_eq_true rfl) 24 ?_
    show mm_x (8, 4, some .long, false, 0, 0, none, false) prog_2_method_5_code (mm_gl []) (fun _ => none) Post 24 0 [some (.inl k), some (.inr (.inl x)), none, none] [] M 0 0
    simp (config := { maxSteps := 2000000 }) only [Bool.not_eq_false, Bool.not_eq_true, kn_0, kn_1, Classical.not_not, bn_0, bn_1, bi_n, bi_0, bi_f, xs_x, xs_kk, xs_s, xs_cutI, xs_c, xs_d, xs_o, xs_p1, xs_pI, xs_pL, xs_pR, xs_vI, xs_vL, xs_vQ, xs_lV0, xs_lVs, xs_pN0, xs_pNs, xs_k0, xs_0eq, xs_0ne, xs_0lt, xs_0ge, xs_0gt, xs_0le, xs_2eq, xs_2ne, xs_2lt, xs_2ge, xs_2gt, xs_2le, xs_catI, xs_catL, xs_catR, xs_sm0, xs_sm1, xs_tl1, xs_tl0, xs_jm0, xs_jm1, xs_jm2, xs_jm3, xs_nI, xs_fI, xs_putI, xs_putL, xs_putR, fv_0, fv_1, fv_2, fv_3, st1_0, st1_1I, st2_1I, st1_1L, st2_1L, st1_1R, st2_1R, st1_1N, st2_1N, st2_0, st1_s, st2_s, xi_bipush, xi_iload_n, xi_lload_n, xi_istore_n, xi_isub, xi_lshl, xi_lshr, xi_lushr, xi_ifCond, xi_goto, xi_invokestatic, xi_lreturn, xs_ivS, xs_ivN, xs_call, k_bi_64, gy_0, gm_0, gy_1, gm_1, gy_2, gl_2, gm_2, gy_3, gl_3, gm_3, gy_4, gl_4, gm_4, gy_5, gl_5, gm_5, gy_6, gl_6, gm_6, gy_7, gl_7, gm_7, gy_8, gl_8, gm_8, gy_9, gl_9, gm_9, gy_10, gl_10, gm_10, gy_11, gl_11, gm_11, gy_12, gm_12, gy_13, gl_13, gm_13, gy_14, gy_15, gl_15, gy_16, gl_16, gy_17, gl_17, gy_18, gl_18, gy_19, gl_19, gy_20, gl_20, gy_21, gm_21, gs_1, gs_2, gs_3, gg_i, gg_z, gg_l, gg_o, gg_a, gi_s, gi_a, List.toList_toArray, Nat.reduceAdd, Int.reduceAdd, Nat.reduceLeDiff, Nat.reduceLT, Nat.reduceEqDiff, reduceIte, ne_eq, not_false_eq_true, true_imp_iff, false_imp_iff, not_true_eq_false, implies_true, Jvm.ClassFile.FieldType.object.injEq, exists_eq_left', exists_eq_left, decide_eq_true_eq, true_and, and_true, true_or, or_true, false_or, or_false, Nat.le_refl, forall_const, Fin.isValue, Fin.val_zero, Fin.val_one, reduceCtorEq, Nat.zero_add, Int.zero_add, Int.add_zero, Option.some.injEq, Sum.inl.injEq, Sum.inr.injEq, Prod.mk.injEq, and_self, eq_self, d123_0, d123_2, d123_3, d123_6, d123_7, d123_8, d123_9, d123_12, d123_13, d123_14, d123_15, d123_16, d123_17, d123_20, d123_21, d123_22, d123_23, d123_24, d123_25, jm_8_33, jt_17_8, jt_9_11, jp_17_8, jp_9_11]
    repeat' (first | apply And.intro | with_reducible intro _)
    all_goals first | with_reducible exact h | (with_reducible contradiction) | (with_reducible assumption) | exact vin_c (by with_reducible assumption) (by with_reducible assumption) (by decide) | (simp only [s_wrapped, s_unused, *, reduceIte] at h; with_reducible exact h) | exact mm_pi h (by simp [s_wrapped, s_unused, *]) | exact mm_pl h (by simp [s_wrapped, s_unused, *]) | exact mm_pm h (by simp [s_wrapped, s_unused, *]) (by simp [s_wrapped, s_unused, *])
def s_clamped (k : Int32) (x : Int64) : Int64 := let m := if x < s_high k then x else s_high k; if m < s_low k then s_low k else m
def k_clamped : mm_Ct := fun As M Post => match As with
  | [.inl k, .inr (.inl x)] => Post (some (.inr (.inl (s_clamped k x)))) (M)
  | _ => False
theorem e_clamped {M : mm_M} {Post : Option mm_V → mm_M → Prop} {k : Int32} {x : Int64} : k_clamped [.inl k, .inr (.inl x)] M Post = (Post (some (.inr (.inl (s_clamped k x)))) (M)) := rfl
set_option maxRecDepth 100000 in
set_option maxHeartbeats 1000000 in
theorem v_clamped : mm_Vd l D dA sz 2 124 k_clamped := by
  intro As M Post h
  match As, h with
  | [.inl k, .inr (.inl x)], h =>
    replace h : Post (some (.inr (.inl (s_clamped k x)))) (M) := h
    refine mm_meth 124 (by decide) ⟨rfl, rfl, by decide, by decide⟩ (mm_okC v_low (by decide) (by decide) (mm_okC v_high (by decide) (by decide) mm_okN)) (Nat.le_of_ble_eq_true rfl) 13 ?_
    have g117 : ∀ As M P, mm_gl [(117, k_low), (118, k_high)] 117 As M P = k_low As M P := fun _ _ _ => rfl
    have g118 : ∀ As M P, mm_gl [(117, k_low), (118, k_high)] 118 As M P = k_high As M P := fun _ _ _ => rfl
    show mm_x (8, 3, some .long, false, 0, 0, none, false) prog_2_method_6_code (mm_gl [(117, k_low), (118, k_high)]) (fun _ => none) Post 13 0 [some (.inl k), some (.inr (.inl x)), none] [] M 0 0
    simp (config := { maxSteps := 2000000 }) only [↓g117, ↓g118, ↓e_low, ↓e_high, mk_117, mk_118, Bool.not_eq_false, Bool.not_eq_true, kn_0, kn_1, Classical.not_not, bn_0, bn_1, bi_n, bi_0, bi_f, xs_x, xs_kk, xs_s, xs_cutI, xs_c, xs_d, xs_o, xs_p1, xs_pI, xs_pL, xs_pR, xs_vI, xs_vL, xs_vQ, xs_lV0, xs_lVs, xs_pN0, xs_pNs, xs_k0, xs_0eq, xs_0ne, xs_0lt, xs_0ge, xs_0gt, xs_0le, xs_2eq, xs_2ne, xs_2lt, xs_2ge, xs_2gt, xs_2le, xs_catI, xs_catL, xs_catR, xs_sm0, xs_sm1, xs_tl1, xs_tl0, xs_jm0, xs_jm1, xs_jm2, xs_jm3, xs_nI, xs_fI, xs_putI, xs_putL, xs_putR, fv_0, fv_1, fv_2, fv_3, st1_0, st1_1I, st2_1I, st1_1L, st2_1L, st1_1R, st2_1R, st1_1N, st2_1N, st2_0, st1_s, st2_s, xi_iload_n, xi_lload_n, xi_invokestatic, xi_lreturn, xs_ivS, xs_ivN, xs_call, gy_0, gm_0, gy_1, gm_1, gy_2, gl_2, gm_2, gy_3, gl_3, gm_3, gy_4, gl_4, gm_4, gy_5, gl_5, gm_5, gy_6, gl_6, gm_6, gy_7, gl_7, gm_7, gy_8, gl_8, gm_8, gy_9, gl_9, gm_9, gy_10, gl_10, gm_10, gy_11, gl_11, gm_11, gy_12, gm_12, gy_13, gl_13, gm_13, gy_14, gy_15, gl_15, gy_16, gl_16, gy_17, gl_17, gy_18, gl_18, gy_19, gl_19, gy_20, gl_20, gy_21, gm_21, gs_1, gs_2, gs_3, gg_i, gg_z, gg_l, gg_o, gg_a, gi_s, gi_a, List.toList_toArray, Nat.reduceAdd, Int.reduceAdd, Nat.reduceLeDiff, Nat.reduceLT, Nat.reduceEqDiff, reduceIte, ne_eq, not_false_eq_true, true_imp_iff, false_imp_iff, not_true_eq_false, implies_true, Jvm.ClassFile.FieldType.object.injEq, exists_eq_left', exists_eq_left, decide_eq_true_eq, true_and, and_true, true_or, or_true, false_or, or_false, Nat.le_refl, forall_const, Fin.isValue, Fin.val_zero, Fin.val_one, reduceCtorEq, Nat.zero_add, Int.zero_add, Int.add_zero, Option.some.injEq, Sum.inl.injEq, Sum.inr.injEq, Prod.mk.injEq, and_self, eq_self, d124_0, d124_1, d124_4, d124_5, d124_8, d124_9, d124_12, d124_15, jm_8_46, jm_8_50, jn_8_39, jn_8_43, mt_8_39, mt_8_43]
    repeat' (first | apply And.intro | with_reducible intro _)
    all_goals first | with_reducible exact h | (with_reducible contradiction) | (with_reducible assumption) | exact vin_c (by with_reducible assumption) (by with_reducible assumption) (by decide) | (simp only [s_clamped, *, reduceIte] at h; with_reducible exact h) | exact mm_pi h (by simp [s_clamped, *]) | exact mm_pl h (by simp [s_clamped, *]) | exact mm_pm h (by simp [s_clamped, *]) (by simp [s_clamped, *])
def s_work (k t : Int32) (x y : Int64) : Int64 :=
  if k = 2 then s_checked t (x + y) else if k = 3 then s_checked t (x - y) else if k = 4 then s_checked t (x * y)
  else if k = 5 then (if y = 0 then 1000000000000002 else s_checked t (x / y))
  else if k = 6 then s_wrapped t (x + y) else if k = 7 then s_wrapped t (x - y) else if k = 8 then s_wrapped t (x * y)
  else if k = 9 then s_clamped t (x + y) else if k = 10 then s_clamped t (x - y)
  else if k = 11 then (if x < y then 1 else 0) else (if x = y then 1 else 0)
def k_work : mm_Ct := fun As M Post => match As with
  | [.inl k, .inl t, .inr (.inl x), .inr (.inl y)] => Post (some (.inr (.inl (s_work k t x y)))) (M)
  | _ => False
theorem e_work {M : mm_M} {Post : Option mm_V → mm_M → Prop} {k : Int32} {t : Int32} {x : Int64} {y : Int64} : k_work [.inl k, .inl t, .inr (.inl x), .inr (.inl y)] M Post = (Post (some (.inr (.inl (s_work k t x y)))) (M)) := rfl
set_option maxRecDepth 100000 in
set_option maxHeartbeats 1000000 in
theorem v_work : mm_Vd l D dA sz 4 121 k_work := by
  intro As M Post h
  match As, h with
  | [.inl k, .inl t, .inr (.inl x), .inr (.inl y)], h =>
    replace h : Post (some (.inr (.inl (s_work k t x y)))) (M) := h
    refine mm_meth 121 (by decide) ⟨rfl, rfl, by decide, by decide⟩ (mm_okC v_checked (by decide) (by decide) (mm_okC v_wrapped (by decide) (by decide) (mm_okC v_clamped (by decide) (by decide) mm_okN))) (Nat.le_of_ble_eq_true rfl) 83 ?_
    have g122 : ∀ As M P, mm_gl [(122, k_checked), (123, k_wrapped), (124, k_clamped)] 122 As M P = k_checked As M P := fun _ _ _ => rfl
    have g123 : ∀ As M P, mm_gl [(122, k_checked), (123, k_wrapped), (124, k_clamped)] 123 As M P = k_wrapped As M P := fun _ _ _ => rfl
    have g124 : ∀ As M P, mm_gl [(122, k_checked), (123, k_wrapped), (124, k_clamped)] 124 As M P = k_clamped As M P := fun _ _ _ => rfl
    show mm_x (8, 6, some .long, false, 0, 0, none, false) prog_2_method_3_code (mm_gl [(122, k_checked), (123, k_wrapped), (124, k_clamped)]) (fun _ => none) Post 83 0 [some (.inl k), some (.inl t), some (.inr (.inl x)), none, some (.inr (.inl y)), none] [] M 0 0
    simp (config := { maxSteps := 2000000 }) only [↓g122, ↓g123, ↓g124, ↓e_checked, ↓e_wrapped, ↓e_clamped, mk_122, mk_123, mk_124, Bool.not_eq_false, Bool.not_eq_true, kn_0, kn_1, Classical.not_not, bn_0, bn_1, bi_n, bi_0, bi_f, lg_cmp_ge, lg_cmp_lt, lg_cmp_gt, lg_cmp_le, lg_cmp_eq, xs_x, xs_kk, xs_s, xs_cutI, xs_c, xs_d, xs_o, xs_p1, xs_pI, xs_pL, xs_pR, xs_vI, xs_vL, xs_vQ, xs_lV0, xs_lVs, xs_pN0, xs_pNs, xs_k0, xs_ts0, xs_ts1, xs_0eq, xs_0ne, xs_0lt, xs_0ge, xs_0gt, xs_0le, xs_2eq, xs_2ne, xs_2lt, xs_2ge, xs_2gt, xs_2le, xs_catI, xs_catL, xs_catR, xs_sm0, xs_sm1, xs_tl1, xs_tl0, xs_nI, xs_fI, xs_putI, xs_putL, xs_putR, fv_0, fv_1, fv_2, fv_3, st1_0, st1_1I, st2_1I, st1_1L, st2_1L, st1_1R, st2_1R, st1_1N, st2_1N, st2_0, st1_s, st2_s, xi_lconst, xi_ldc2_w, xi_iload_n, xi_lload_n, xi_lload, xi_ladd, xi_lsub, xi_lmul, xi_ldiv, xi_lcmp, xi_ifCond, xi_goto, xi_tableswitch, xi_invokestatic, xi_lreturn, xs_ivS, xs_ivN, xs_call, k_ic_0, k_ic_1, k_ic_2, k_ic_3, k_ic_4, k_ic_5, k_lc_0, k_lc_1, k_ic_6, k_ic_7, k_ic_8, k_ic_9, k_ic_10, k_ic_11, k_ic_12, k_ic_13, k_ic_14, k_ic_15, k_ic_16, gy_0, gm_0, gy_1, gm_1, gy_2, gl_2, gm_2, gy_3, gl_3, gm_3, gy_4, gl_4, gm_4, gy_5, gl_5, gm_5, gy_6, gl_6, gm_6, gy_7, gl_7, gm_7, gy_8, gl_8, gm_8, gy_9, gl_9, gm_9, gy_10, gl_10, gm_10, gy_11, gl_11, gm_11, gy_12, gm_12, gy_13, gl_13, gm_13, gy_14, gy_15, gl_15, gy_16, gl_16, gy_17, gl_17, gy_18, gl_18, gy_19, gl_19, gy_20, gl_20, gy_21, gm_21, gs_1, gs_2, gs_3, gg_i, gg_z, gg_l, gg_o, gg_a, gi_s, gi_a, List.toList_toArray, Nat.reduceAdd, Int.reduceAdd, Nat.reduceLeDiff, Nat.reduceLT, Nat.reduceEqDiff, reduceIte, ne_eq, not_false_eq_true, true_imp_iff, false_imp_iff, not_true_eq_false, implies_true, Jvm.ClassFile.FieldType.object.injEq, exists_eq_left', exists_eq_left, decide_eq_true_eq, true_and, and_true, true_or, or_true, false_or, or_false, Nat.le_refl, forall_const, Fin.isValue, Fin.val_zero, Fin.val_one, reduceCtorEq, Nat.zero_add, Int.zero_add, Int.add_zero, Option.some.injEq, Sum.inl.injEq, Sum.inr.injEq, Prod.mk.injEq, and_self, eq_self, d121_0, d121_1, d121_56, d121_57, d121_58, d121_60, d121_61, d121_64, d121_65, d121_66, d121_67, d121_69, d121_70, d121_73, d121_74, d121_75, d121_76, d121_78, d121_79, d121_82, d121_83, d121_85, d121_86, d121_87, d121_90, d121_93, d121_96, d121_97, d121_98, d121_100, d121_101, d121_104, d121_105, d121_106, d121_107, d121_109, d121_110, d121_113, d121_114, d121_115, d121_116, d121_118, d121_119, d121_122, d121_123, d121_124, d121_125, d121_127, d121_128, d121_131, d121_132, d121_133, d121_134, d121_136, d121_137, d121_140, d121_141, d121_142, d121_143, d121_145, d121_146, d121_149, d121_150, d121_151, d121_153, d121_154, d121_157, d121_158, d121_161, d121_162, d121_163, d121_164, d121_166, d121_167, d121_170, d121_171, d121_174, d121_175, cn_8_17, jn_8_11, jn_8_19, jn_8_22, mt_8_11, mt_8_19, mt_8_22, tk121_1, jt_154_7, jt_158_4, jt_167_7, jt_171_4, jt_1_104, jt_1_113, jt_1_122, jt_1_131, jt_1_140, jt_1_149, jt_1_162, jt_1_55, jt_1_64, jt_1_73, jt_1_82, jt_87_9, jt_93_11, jp_154_7, jp_158_4, jp_167_7, jp_171_4, jp_1_104, jp_1_113, jp_1_122, jp_1_131, jp_1_140, jp_1_149, jp_1_162, jp_1_55, jp_1_64, jp_1_73, jp_1_82, jp_87_9, jp_93_11]
    repeat' (first | apply And.intro | with_reducible intro _)
    all_goals first | with_reducible exact h | (with_reducible contradiction) | (with_reducible assumption) | exact vin_c (by with_reducible assumption) (by with_reducible assumption) (by decide) | (simp only [s_work, Int64.not_lt, Int64.not_le, *, reduceIte] at h; with_reducible exact h) | exact mm_pi h (by simp [s_work, Int64.not_lt, Int64.not_le, *]) | exact mm_pl h (by simp [s_work, Int64.not_lt, Int64.not_le, *]) | exact mm_pm h (by simp [s_work, Int64.not_lt, Int64.not_le, *]) (by simp [s_work, Int64.not_lt, Int64.not_le, *])
end MMD
