/-! Program, Instance -/
section MMD
variable {l : Launch} {D : va_G} {dA : FieldType → ClassId} {sz : Nat}
theorem vin_c {x N : Int32} {n : Nat} (h1 : ¬ x < 0) (h2 : ¬ N ≤ x) (hN : N.toInt = n) : vp_in x n := by
  rw [vp_in_iff]
  rw [Int32.lt_iff_toInt_lt, Int32.toInt_zero] at h1
  rw [Int32.le_iff_toInt_le, hN] at h2
  omega
theorem vin_m {x c N : Int32} {n : Nat} (h1 : ¬ x < 0) (h2 : ¬ c ≤ x) (h3 : ¬ N < c) (hN : N.toInt = n) : vp_in x n := by
  rw [vp_in_iff]
  rw [Int32.lt_iff_toInt_lt, Int32.toInt_zero] at h1
  rw [Int32.le_iff_toInt_le] at h2
  rw [Int32.lt_iff_toInt_lt, hN] at h3
  omega
def s_hasNode (M : mm_M) (n : Int32) : Bool := !decide (n < 0) && !decide (M.1 1 0 10 ≤ n)
def k_hasNode : mm_Ct := fun As M Post => match As with
  | [.inr (.inr (some (1, 0))), .inl n] => (M.2.2 = mm_gd) ∧ Post (some (.inl (bi (s_hasNode M n)))) (M)
  | _ => False
theorem e_hasNode {M : mm_M} {Post : Option mm_V → mm_M → Prop} {n : Int32} : k_hasNode [.inr (.inr (some (1, 0))), .inl n] M Post = ((M.2.2 = mm_gd) ∧ Post (some (.inl (bi (s_hasNode M n)))) (M)) := rfl
set_option maxRecDepth 100000 in
set_option maxHeartbeats 1000000 in
theorem v_hasNode : mm_Vd l D dA sz 1 19 k_hasNode := by
  intro As M Post h
  match As, h with
  | [.inr (.inr (some (1, 0))), .inl n], h =>
    obtain ⟨hG, h⟩ := h
    refine mm_meth 19 (by decide) ⟨rfl, rfl, by decide, by decide⟩ mm_okN (Nat.le_of_ble_eq_true rfl) 15 ?_
    show mm_x (1, 2, some .boolean, false, 0, 0, none, false) prog_7_method_2_code (mm_gl []) (fun _ => none) Post 15 0 [some (.inr (.inr (some (1, 0)))), some (.inl n)] [] M 0 0
    simp (config := { maxSteps := 2000000 }) only [hG, Bool.not_eq_false, Bool.not_eq_true, kn_0, kn_1, Classical.not_not, bn_0, bn_1, bi_n, bi_0, bi_f, xs_x, xs_kk, xs_s, xs_cutI, xs_c, xs_d, xs_o, xs_p1, xs_pI, xs_pL, xs_pR, xs_vI, xs_vL, xs_vQ, xs_lV0, xs_lVs, xs_pN0, xs_pNs, xs_k0, xs_0eq, xs_0ne, xs_0lt, xs_0ge, xs_0gt, xs_0le, xs_2eq, xs_2ne, xs_2lt, xs_2ge, xs_2gt, xs_2le, xs_catI, xs_catL, xs_catR, xs_sm0, xs_sm1, xs_tl1, xs_tl0, xs_nI, xs_fI, xs_putI, xs_putL, xs_putR, fv_0, fv_1, fv_2, fv_3, st1_0, st1_1I, st2_1I, st1_1L, st2_1L, st1_1R, st2_1R, st1_1N, st2_1N, st2_0, st1_s, st2_s, xi_iconst, xi_iload_n, xi_aload_n, xi_ifCond, xi_if_icmp, xi_goto, xi_getfield, xi_ireturn, xs_ivS, xs_ivN, xs_call, k_ic_0, k_ic_1, gy_0, gm_0, gy_1, gm_1, gy_2, gl_2, gm_2, gy_3, gl_3, gm_3, gy_4, gl_4, gm_4, gy_5, gl_5, gm_5, gy_6, gl_6, gm_6, gy_7, gl_7, gm_7, gy_8, gl_8, gm_8, gy_9, gl_9, gm_9, gy_10, gl_10, gm_10, gy_11, gl_11, gm_11, gy_12, gm_12, gy_13, gl_13, gm_13, gy_14, gy_15, gl_15, gy_16, gl_16, gy_17, gl_17, gy_18, gl_18, gy_19, gl_19, gy_20, gl_20, gy_21, gm_21, gf_1_10, gs_1, gs_2, gs_3, gg_i, gg_z, gg_l, gg_o, gg_a, gi_s, gi_a, List.toList_toArray, Nat.reduceAdd, Int.reduceAdd, Nat.reduceLeDiff, Nat.reduceLT, Nat.reduceEqDiff, reduceIte, ne_eq, not_false_eq_true, true_imp_iff, false_imp_iff, not_true_eq_false, implies_true, Jvm.ClassFile.FieldType.object.injEq, exists_eq_left', exists_eq_left, decide_eq_true_eq, true_and, and_true, true_or, or_true, false_or, or_false, Nat.le_refl, forall_const, Fin.isValue, Fin.val_zero, Fin.val_one, reduceCtorEq, Nat.zero_add, Int.zero_add, Int.add_zero, Option.some.injEq, Sum.inl.injEq, Sum.inr.injEq, Prod.mk.injEq, and_self, eq_self, d19_0, d19_1, d19_4, d19_5, d19_6, d19_9, d19_12, d19_13, d19_16, d19_17, fl_1_43, jt_13_4, jt_1_15, jt_9_7, jp_13_4, jp_1_15, jp_9_7]
    repeat' (first | apply And.intro | with_reducible intro _)
    all_goals first | with_reducible exact h | (with_reducible contradiction) | (with_reducible assumption) | exact vin_c (by with_reducible assumption) (by with_reducible assumption) (by decide) | (simp only [s_hasNode, bi, *, reduceIte] at h; with_reducible exact h) | exact mm_pi h (by simp [s_hasNode, bi, *]) | exact mm_pl h (by simp [s_hasNode, bi, *]) | exact mm_pm h (by simp [s_hasNode, bi, *]) (by simp [s_hasNode, bi, *])
def s_hasFun (M : mm_M) (f : Int32) : Bool := !decide (f < 0) && !decide (8 ≤ f) && !decide (M.1 7 0 f.toNatClampNeg = 0)
def k_hasFun : mm_Ct := fun As M Post => match As with
  | [.inr (.inr (some (1, 0))), .inl f] => (M.2.2 = mm_gd) ∧ Post (some (.inl (bi (s_hasFun M f)))) (M)
  | _ => False
theorem e_hasFun {M : mm_M} {Post : Option mm_V → mm_M → Prop} {f : Int32} : k_hasFun [.inr (.inr (some (1, 0))), .inl f] M Post = ((M.2.2 = mm_gd) ∧ Post (some (.inl (bi (s_hasFun M f)))) (M)) := rfl
set_option maxRecDepth 100000 in
set_option maxHeartbeats 1000000 in
theorem v_hasFun : mm_Vd l D dA sz 1 20 k_hasFun := by
  intro As M Post h
  match As, h with
  | [.inr (.inr (some (1, 0))), .inl f], h =>
    obtain ⟨hG, h⟩ := h
    refine mm_meth 20 (by decide) ⟨rfl, rfl, by decide, by decide⟩ mm_okN (Nat.le_of_ble_eq_true rfl) 19 ?_
    show mm_x (1, 2, some .boolean, false, 0, 0, none, false) prog_7_method_3_code (mm_gl []) (fun _ => none) Post 19 0 [some (.inr (.inr (some (1, 0)))), some (.inl f)] [] M 0 0
    simp (config := { maxSteps := 2000000 }) only [hG, Bool.not_eq_false, Bool.not_eq_true, kn_0, kn_1, Classical.not_not, bn_0, bn_1, bi_n, bi_0, bi_f, xs_x, xs_kk, xs_s, xs_cutI, xs_c, xs_d, xs_o, xs_p1, xs_pI, xs_pL, xs_pR, xs_vI, xs_vL, xs_vQ, xs_lV0, xs_lVs, xs_pN0, xs_pNs, xs_k0, xs_0eq, xs_0ne, xs_0lt, xs_0ge, xs_0gt, xs_0le, xs_2eq, xs_2ne, xs_2lt, xs_2ge, xs_2gt, xs_2le, xs_catI, xs_catL, xs_catR, xs_sm0, xs_sm1, xs_tl1, xs_tl0, xs_nI, xs_fI, xs_putI, xs_putL, xs_putR, fv_0, fv_1, fv_2, fv_3, st1_0, st1_1I, st2_1I, st1_1L, st2_1L, st1_1R, st2_1R, st1_1N, st2_1N, st2_0, st1_s, st2_s, xi_iconst, xi_bipush, xi_iload_n, xi_aload_n, xi_ifCond, xi_if_icmp, xi_goto, xi_getfield, xi_baload, xi_ireturn, xs_ivS, xs_ivN, xs_call, k_ic_0, k_ic_1, k_bi_8, gy_0, gm_0, gy_1, gm_1, gy_2, gl_2, gm_2, gy_3, gl_3, gm_3, gy_4, gl_4, gm_4, gy_5, gl_5, gm_5, gy_6, gl_6, gm_6, gy_7, gl_7, gm_7, gy_8, gl_8, gm_8, gy_9, gl_9, gm_9, gy_10, gl_10, gm_10, gy_11, gl_11, gm_11, gy_12, gm_12, gy_13, gl_13, gm_13, gy_14, gy_15, gl_15, gy_16, gl_16, gy_17, gl_17, gy_18, gl_18, gy_19, gl_19, gy_20, gl_20, gy_21, gm_21, gr_1_5, gf_1_5, gs_1, gs_2, gs_3, gg_i, gg_z, gg_l, gg_o, gg_a, gi_s, gi_a, List.toList_toArray, Nat.reduceAdd, Int.reduceAdd, Nat.reduceLeDiff, Nat.reduceLT, Nat.reduceEqDiff, reduceIte, ne_eq, not_false_eq_true, true_imp_iff, false_imp_iff, not_true_eq_false, implies_true, Jvm.ClassFile.FieldType.object.injEq, exists_eq_left', exists_eq_left, decide_eq_true_eq, true_and, and_true, true_or, or_true, false_or, or_false, Nat.le_refl, forall_const, Fin.isValue, Fin.val_zero, Fin.val_one, reduceCtorEq, Nat.zero_add, Int.zero_add, Int.add_zero, Option.some.injEq, Sum.inl.injEq, Sum.inr.injEq, Prod.mk.injEq, and_self, eq_self, d20_0, d20_1, d20_4, d20_5, d20_7, d20_10, d20_11, d20_14, d20_15, d20_16, d20_19, d20_20, d20_23, d20_24, fl_1_27, jt_16_7, jt_1_22, jt_20_4, jt_7_16, jp_16_7, jp_1_22, jp_20_4, jp_7_16]
    repeat' (first | apply And.intro | with_reducible intro _)
    all_goals first | with_reducible exact h | (with_reducible contradiction) | (with_reducible assumption) | exact vin_c (by with_reducible assumption) (by with_reducible assumption) (by decide) | (simp only [s_hasFun, bi, *, reduceIte] at h; with_reducible exact h) | exact mm_pi h (by simp [s_hasFun, bi, *]) | exact mm_pl h (by simp [s_hasFun, bi, *]) | exact mm_pm h (by simp [s_hasFun, bi, *]) (by simp [s_hasFun, bi, *])
def s_mayBe (M : mm_M) (n : Int32) : Bool := decide (n = -1) || s_hasNode M n
def k_mayBe : mm_Ct := fun As M Post => match As with
  | [.inr (.inr (some (1, 0))), .inl n] => (M.2.2 = mm_gd) ∧ Post (some (.inl (bi (s_mayBe M n)))) (M)
  | _ => False
theorem e_mayBe {M : mm_M} {Post : Option mm_V → mm_M → Prop} {n : Int32} : k_mayBe [.inr (.inr (some (1, 0))), .inl n] M Post = ((M.2.2 = mm_gd) ∧ Post (some (.inl (bi (s_mayBe M n)))) (M)) := rfl
set_option maxRecDepth 100000 in
set_option maxHeartbeats 1000000 in
theorem v_mayBe : mm_Vd l D dA sz 2 23 k_mayBe := by
  intro As M Post h
  match As, h with
  | [.inr (.inr (some (1, 0))), .inl n], h =>
    obtain ⟨hG, h⟩ := h
    refine mm_meth 23 (by decide) ⟨rfl, rfl, by decide, by decide⟩ (mm_okC v_hasNode (by decide) (by decide) mm_okN) (Nat.le_of_ble_eq_true rfl) 16 ?_
    have g19 : ∀ As M P, mm_gl [(19, k_hasNode)] 19 As M P = k_hasNode As M P := fun _ _ _ => rfl
    show mm_x (1, 2, some .boolean, false, 0, 0, none, false) prog_7_method_6_code (mm_gl [(19, k_hasNode)]) (fun _ => none) Post 16 0 [some (.inr (.inr (some (1, 0)))), some (.inl n)] [] M 0 0
    simp (config := { maxSteps := 2000000 }) only [hG, ↓g19, ↓e_hasNode, mk_19, Bool.not_eq_false, Bool.not_eq_true, kn_0, kn_1, Classical.not_not, bn_0, bn_1, bi_n, bi_0, bi_f, xs_x, xs_kk, xs_s, xs_cutI, xs_c, xs_d, xs_o, xs_p1, xs_pI, xs_pL, xs_pR, xs_vI, xs_vL, xs_vQ, xs_lV0, xs_lVs, xs_pN0, xs_pNs, xs_k0, xs_0eq, xs_0ne, xs_0lt, xs_0ge, xs_0gt, xs_0le, xs_2eq, xs_2ne, xs_2lt, xs_2ge, xs_2gt, xs_2le, xs_catI, xs_catL, xs_catR, xs_sm0, xs_sm1, xs_tl1, xs_tl0, xs_nI, xs_fI, xs_putI, xs_putL, xs_putR, fv_0, fv_1, fv_2, fv_3, st1_0, st1_1I, st2_1I, st1_1L, st2_1L, st1_1R, st2_1R, st1_1N, st2_1N, st2_0, st1_s, st2_s, xi_iconst, xi_iload_n, xi_aload_n, xi_ifCond, xi_if_icmp, xi_goto, xi_invokevirtual, xi_ireturn, xs_ivS, xs_ivN, xs_call, k_ic_m1, k_ic_0, k_ic_1, gy_0, gm_0, gy_1, gm_1, gy_2, gl_2, gm_2, gy_3, gl_3, gm_3, gy_4, gl_4, gm_4, gy_5, gl_5, gm_5, gy_6, gl_6, gm_6, gy_7, gl_7, gm_7, gy_8, gl_8, gm_8, gy_9, gl_9, gm_9, gy_10, gl_10, gm_10, gy_11, gl_11, gm_11, gy_12, gm_12, gy_13, gl_13, gm_13, gy_14, gy_15, gl_15, gy_16, gl_16, gy_17, gl_17, gy_18, gl_18, gy_19, gl_19, gy_20, gl_20, gy_21, gm_21, gs_1, gs_2, gs_3, gg_i, gg_z, gg_l, gg_o, gg_a, gi_s, gi_a, List.toList_toArray, Nat.reduceAdd, Int.reduceAdd, Nat.reduceLeDiff, Nat.reduceLT, Nat.reduceEqDiff, reduceIte, ne_eq, not_false_eq_true, true_imp_iff, false_imp_iff, not_true_eq_false, implies_true, Jvm.ClassFile.FieldType.object.injEq, exists_eq_left', exists_eq_left, decide_eq_true_eq, true_and, and_true, true_or, or_true, false_or, or_false, Nat.le_refl, forall_const, Fin.isValue, Fin.val_zero, Fin.val_one, reduceCtorEq, Nat.zero_add, Int.zero_add, Int.add_zero, Option.some.injEq, Sum.inl.injEq, Sum.inr.injEq, Prod.mk.injEq, and_self, eq_self, d23_0, d23_1, d23_2, d23_5, d23_6, d23_7, d23_10, d23_13, d23_14, d23_17, d23_18, mt_1_64, jt_10_7, jt_14_4, jt_2_11, jp_10_7, jp_14_4, jp_2_11]
    repeat' (first | apply And.intro | with_reducible intro _)
    all_goals first | with_reducible exact h | (with_reducible contradiction) | (with_reducible assumption) | exact vin_c (by with_reducible assumption) (by with_reducible assumption) (by decide) | (simp only [s_mayBe, bi, *, reduceIte] at h; with_reducible exact h) | exact mm_pi h (by simp [s_mayBe, bi, *]) | exact mm_pl h (by simp [s_mayBe, bi, *]) | exact mm_pm h (by simp [s_mayBe, bi, *]) (by simp [s_mayBe, bi, *])
def s_hasOps (M : mm_M) (k a b c : Int32) : Bool := if k = 0 then true else if k = 1 then (decide (a = 0) || decide (a = 1)) else if k = 13 then s_hasNode M a && s_hasNode M b && s_hasNode M c
  else if k = 14 then s_hasNode M a && s_isCast b else if k = 15 then !decide (a < 0) && !decide (8 ≤ a) && s_mayBe M b && s_mayBe M c else if k = 16 then s_hasNode M a else s_hasNode M a && s_hasNode M b
def k_hasOps : mm_Ct := fun As M Post => match As with
  | [.inr (.inr (some (1, 0))), .inl k, .inl a, .inl b, .inl c] => (M.2.2 = mm_gd) ∧ Post (some (.inl (bi (s_hasOps M k a b c)))) (M)
  | _ => False
theorem e_hasOps {M : mm_M} {Post : Option mm_V → mm_M → Prop} {k : Int32} {a : Int32} {b : Int32} {c : Int32} : k_hasOps [.inr (.inr (some (1, 0))), .inl k, .inl a, .inl b, .inl c] M Post = ((M.2.2 = mm_gd) ∧ Post (some (.inl (bi (s_hasOps M k a b c)))) (M)) := rfl
set_option maxRecDepth 100000 in
set_option maxHeartbeats 1000000 in
theorem v_hasOps : mm_Vd l D dA sz 3 22 k_hasOps := by
  intro As M Post h
  match As, h with
  | [.inr (.inr (some (1, 0))), .inl k, .inl a, .inl b, .inl c], h =>
    obtain ⟨hG, h⟩ := h
    refine mm_meth 22 (by decide) ⟨rfl, rfl, by decide, by decide⟩ (mm_okC v_hasNode (by decide) (by decide) (mm_okC v_isCast (by decide) (by decide) (mm_okC v_mayBe (by decide) (by decide) mm_okN))) (Nat.le_of_ble_eq_true rfl) 78 ?_
    have g19 : ∀ As M P, mm_gl [(19, k_hasNode), (114, k_isCast), (23, k_mayBe)] 19 As M P = k_hasNode As M P := fun _ _ _ => rfl
    have g114 : ∀ As M P, mm_gl [(19, k_hasNode), (114, k_isCast), (23, k_mayBe)] 114 As M P = k_isCast As M P := fun _ _ _ => rfl
    have g23 : ∀ As M P, mm_gl [(19, k_hasNode), (114, k_isCast), (23, k_mayBe)] 23 As M P = k_mayBe As M P := fun _ _ _ => rfl
    show mm_x (1, 5, some .boolean, false, 0, 0, none, false) prog_7_method_5_code (mm_gl [(19, k_hasNode), (114, k_isCast), (23, k_mayBe)]) (fun _ => none) Post 78 0 [some (.inr (.inr (some (1, 0)))), some (.inl k), some (.inl a), some (.inl b), some (.inl c)] [] M 0 0
    simp (config := { maxSteps := 2000000 }) only [hG, ↓g19, ↓g114, ↓g23, ↓e_hasNode, ↓e_isCast, ↓e_mayBe, mk_19, mk_114, mk_23, Bool.not_eq_false, Bool.not_eq_true, kn_0, kn_1, Classical.not_not, bn_0, bn_1, bi_n, bi_0, bi_f, xs_x, xs_kk, xs_s, xs_cutI, xs_c, xs_d, xs_o, xs_p1, xs_pI, xs_pL, xs_pR, xs_vI, xs_vL, xs_vQ, xs_lV0, xs_lVs, xs_pN0, xs_pNs, xs_k0, xs_ts0, xs_ts1, xs_0eq, xs_0ne, xs_0lt, xs_0ge, xs_0gt, xs_0le, xs_2eq, xs_2ne, xs_2lt, xs_2ge, xs_2gt, xs_2le, xs_catI, xs_catL, xs_catR, xs_sm0, xs_sm1, xs_tl1, xs_tl0, xs_nI, xs_fI, xs_putI, xs_putL, xs_putR, fv_0, fv_1, fv_2, fv_3, st1_0, st1_1I, st2_1I, st1_1L, st2_1L, st1_1R, st2_1R, st1_1N, st2_1N, st2_0, st1_s, st2_s, xi_iconst, xi_bipush, xi_iload_n, xi_iload, xi_aload_n, xi_ifCond, xi_if_icmp, xi_goto, xi_tableswitch, xi_invokestatic, xi_invokevirtual, xi_ireturn, xs_ivS, xs_ivN, xs_call, k_ic_0, k_ic_1, k_ic_2, k_ic_3, k_ic_4, k_ic_5, k_bi_8, k_ic_6, k_ic_7, k_ic_8, k_ic_9, k_ic_10, k_ic_11, k_ic_12, k_ic_13, k_ic_14, k_ic_15, k_ic_16, gy_0, gm_0, gy_1, gm_1, gy_2, gl_2, gm_2, gy_3, gl_3, gm_3, gy_4, gl_4, gm_4, gy_5, gl_5, gm_5, gy_6, gl_6, gm_6, gy_7, gl_7, gm_7, gy_8, gl_8, gm_8, gy_9, gl_9, gm_9, gy_10, gl_10, gm_10, gy_11, gl_11, gm_11, gy_12, gm_12, gy_13, gl_13, gm_13, gy_14, gy_15, gl_15, gy_16, gl_16, gy_17, gl_17, gy_18, gl_18, gy_19, gl_19, gy_20, gl_20, gy_21, gm_21, gs_1, gs_2, gs_3, gg_i, gg_z, gg_l, gg_o, gg_a, gi_s, gi_a, List.toList_toArray, Nat.reduceAdd, Int.reduceAdd, Nat.reduceLeDiff, Nat.reduceLT, Nat.reduceEqDiff, reduceIte, ne_eq, not_false_eq_true, true_imp_iff, false_imp_iff, not_true_eq_false, implies_true, Jvm.ClassFile.FieldType.object.injEq, exists_eq_left', exists_eq_left, decide_eq_true_eq, true_and, and_true, true_or, or_true, false_or, or_false, Nat.le_refl, forall_const, Fin.isValue, Fin.val_zero, Fin.val_one, reduceCtorEq, Nat.zero_add, Int.zero_add, Int.add_zero, Option.some.injEq, Sum.inl.injEq, Sum.inr.injEq, Prod.mk.injEq, and_self, eq_self, d22_0, d22_1, d22_84, d22_85, d22_86, d22_87, d22_90, d22_91, d22_92, d22_95, d22_96, d22_99, d22_100, d22_101, d22_102, d22_103, d22_106, d22_109, d22_110, d22_111, d22_114, d22_117, d22_118, d22_120, d22_123, d22_126, d22_127, d22_130, d22_131, d22_132, d22_133, d22_134, d22_137, d22_140, d22_141, d22_144, d22_147, d22_148, d22_151, d22_152, d22_153, d22_154, d22_157, d22_158, d22_160, d22_163, d22_164, d22_165, d22_168, d22_171, d22_172, d22_174, d22_177, d22_180, d22_181, d22_184, d22_185, d22_186, d22_187, d22_188, d22_191, d22_192, d22_193, d22_194, d22_197, d22_200, d22_201, d22_202, d22_205, d22_208, d22_209, d22_212, d22_213, jn_1_67, mt_1_64, mt_1_67, mt_1_72, tk22_1, jt_106_24, jt_114_16, jt_123_7, jt_127_4, jt_137_14, jt_144_7, jt_148_4, jt_154_30, jt_160_24, jt_168_16, jt_177_7, jt_181_4, jt_197_15, jt_1_100, jt_1_131, jt_1_152, jt_1_185, jt_1_191, jt_1_83, jt_1_85, jt_205_7, jt_209_4, jt_87_8, jt_92_7, jt_96_4, jp_106_24, jp_114_16, jp_123_7, jp_127_4, jp_137_14, jp_144_7, jp_148_4, jp_154_30, jp_160_24, jp_168_16, jp_177_7, jp_181_4, jp_197_15, jp_1_100, jp_1_131, jp_1_152, jp_1_185, jp_1_191, jp_1_83, jp_1_85, jp_205_7, jp_209_4, jp_87_8, jp_92_7, jp_96_4]
    repeat' (first | apply And.intro | with_reducible intro _)
    all_goals first | with_reducible exact h | (with_reducible contradiction) | (with_reducible assumption) | exact vin_c (by with_reducible assumption) (by with_reducible assumption) (by decide) | (simp only [s_hasOps, bi, *, reduceIte] at h; with_reducible exact h) | exact mm_pi h (by simp [s_hasOps, bi, *]) | exact mm_pl h (by simp [s_hasOps, bi, *]) | exact mm_pm h (by simp [s_hasOps, bi, *]) (by simp [s_hasOps, bi, *])
def s_lvArg (M : mm_M) (n : Int32) : Int32 := if n = -1 then 0 else M.1 6 0 n.toNatClampNeg
def k_lvArg : mm_Ct := fun As M Post => match As with
  | [.inr (.inr (some (1, 0))), .inl n] => (M.2.2 = mm_gd) ∧ (n = -1 ∨ vp_in n 60) ∧ Post (some (.inl (s_lvArg M n))) (M)
  | _ => False
theorem e_lvArg {M : mm_M} {Post : Option mm_V → mm_M → Prop} {n : Int32} : k_lvArg [.inr (.inr (some (1, 0))), .inl n] M Post = ((M.2.2 = mm_gd) ∧ (n = -1 ∨ vp_in n 60) ∧ Post (some (.inl (s_lvArg M n))) (M)) := rfl
set_option maxRecDepth 100000 in
set_option maxHeartbeats 1000000 in
theorem v_lvArg : mm_Vd l D dA sz 1 25 k_lvArg := by
  intro As M Post h
  match As, h with
  | [.inr (.inr (some (1, 0))), .inl n], h =>
    obtain ⟨hG, hn, h⟩ := h
    refine mm_meth 25 (by decide) ⟨rfl, rfl, by decide, by decide⟩ mm_okN (Nat.le_of_ble_eq_true rfl) 15 ?_
    show mm_x (1, 2, some .int, false, 0, 0, none, false) prog_7_method_8_code (mm_gl []) (fun _ => none) Post 15 0 [some (.inr (.inr (some (1, 0)))), some (.inl n)] [] M 0 0
    simp (config := { maxSteps := 2000000 }) only [hG, hn, Bool.not_eq_false, Bool.not_eq_true, kn_0, kn_1, Classical.not_not, bn_0, bn_1, bi_n, bi_0, bi_f, xs_x, xs_kk, xs_s, xs_cutI, xs_c, xs_d, xs_o, xs_p1, xs_pI, xs_pL, xs_pR, xs_vI, xs_vL, xs_vQ, xs_lV0, xs_lVs, xs_pN0, xs_pNs, xs_k0, xs_0eq, xs_0ne, xs_0lt, xs_0ge, xs_0gt, xs_0le, xs_2eq, xs_2ne, xs_2lt, xs_2ge, xs_2gt, xs_2le, xs_catI, xs_catL, xs_catR, xs_sm0, xs_sm1, xs_tl1, xs_tl0, xs_nI, xs_fI, xs_putI, xs_putL, xs_putR, fv_0, fv_1, fv_2, fv_3, st1_0, st1_1I, st2_1I, st1_1L, st2_1L, st1_1R, st2_1R, st1_1N, st2_1N, st2_0, st1_s, st2_s, xi_iconst, xi_iload_n, xi_aload_n, xi_if_icmp, xi_goto, xi_getfield, xi_iaload, xi_ireturn, xs_ivS, xs_ivN, xs_call, k_ic_m1, k_ic_0, gy_0, gm_0, gy_1, gm_1, gy_2, gl_2, gm_2, gy_3, gl_3, gm_3, gy_4, gl_4, gm_4, gy_5, gl_5, gm_5, gy_6, gl_6, gm_6, gy_7, gl_7, gm_7, gy_8, gl_8, gm_8, gy_9, gl_9, gm_9, gy_10, gl_10, gm_10, gy_11, gl_11, gm_11, gy_12, gm_12, gy_13, gl_13, gm_13, gy_14, gy_15, gl_15, gy_16, gl_16, gy_17, gl_17, gy_18, gl_18, gy_19, gl_19, gy_20, gl_20, gy_21, gm_21, gr_1_4, gf_1_4, gs_1, gs_2, gs_3, gg_i, gg_z, gg_l, gg_o, gg_a, gi_s, gi_a, List.toList_toArray, Nat.reduceAdd, Int.reduceAdd, Nat.reduceLeDiff, Nat.reduceLT, Nat.reduceEqDiff, reduceIte, ne_eq, not_false_eq_true, true_imp_iff, false_imp_iff, not_true_eq_false, implies_true, Jvm.ClassFile.FieldType.object.injEq, exists_eq_left', exists_eq_left, decide_eq_true_eq, true_and, and_true, true_or, or_true, false_or, or_false, Nat.le_refl, forall_const, Fin.isValue, Fin.val_zero, Fin.val_one, reduceCtorEq, Nat.zero_add, Int.zero_add, Int.add_zero, Option.some.injEq, Sum.inl.injEq, Sum.inr.injEq, Prod.mk.injEq, and_self, eq_self, d25_0, d25_1, d25_2, d25_5, d25_6, d25_9, d25_10, d25_13, d25_14, d25_15, fl_1_24, jt_2_7, jt_6_9, jp_2_7, jp_6_9]
    repeat' (first | apply And.intro | with_reducible intro _)
    all_goals first | exact mm_pi h (by simp [s_lvArg, *]) | (rcases hn with hn | hn; (· contradiction); exact hn)
def s_max (x y : Int32) : Int32 := if x < y then y else x
def s_lvAbove (M : mm_M) (k a b c : Int32) : Int32 := if k = 0 then 1 else if k = 1 then 1 else if k = 13 then 1 + s_max (M.1 6 0 a.toNatClampNeg) (s_max (M.1 6 0 b.toNatClampNeg) (M.1 6 0 c.toNatClampNeg))
  else if k = 14 then 1 + M.1 6 0 a.toNatClampNeg else if k = 15 then 1 + s_max (s_lvArg M b) (s_lvArg M c) else if k = 16 then 1 + M.1 6 0 a.toNatClampNeg else 1 + s_max (M.1 6 0 a.toNatClampNeg) (M.1 6 0 b.toNatClampNeg)
theorem s_hasNode_in {M : mm_M} {n : Int32} (h : s_hasNode M n = true) (hc : ¬ 60 < M.1 1 0 10) : vp_in n 60 := by
  simp only [s_hasNode, Bool.and_eq_true, Bool.not_eq_true', decide_eq_false_iff_not] at h
  exact vin_m h.1 h.2 hc (by decide)
theorem s_mayBe_in {M : mm_M} {n : Int32} (h : s_mayBe M n = true) (hc : ¬ 60 < M.1 1 0 10) : n = -1 ∨ vp_in n 60 := by
  simp only [s_mayBe, Bool.or_eq_true, decide_eq_true_eq] at h
  exact h.imp id fun h => s_hasNode_in h hc
theorem s_hasOps_in {M : mm_M} {k a b c : Int32} (h : s_hasOps M k a b c = true) (hc : ¬ 60 < M.1 1 0 10) : (k = 13 → vp_in a 60 ∧ vp_in b 60 ∧ vp_in c 60) ∧ (k = 14 → vp_in a 60) ∧ (k = 15 → (b = -1 ∨ vp_in b 60) ∧ (c = -1 ∨ vp_in c 60)) ∧ (k = 16 → vp_in a 60) ∧ (¬ k = 0 → ¬ k = 1 → ¬ k = 13 → ¬ k = 14 → ¬ k = 15 → ¬ k = 16 → vp_in a 60 ∧ vp_in b 60) := by
  unfold s_hasOps at h
  refine ⟨?_, ?_, ?_, ?_, ?_⟩
  · rintro rfl
    simp at h
    exact ⟨s_hasNode_in h.1.1 hc, s_hasNode_in h.1.2 hc, s_hasNode_in h.2 hc⟩
  · rintro rfl
    simp at h
    exact s_hasNode_in h.1 hc
  · rintro rfl
    simp at h
    exact ⟨s_mayBe_in h.1.2 hc, s_mayBe_in h.2 hc⟩
  · rintro rfl
    simp at h
    exact s_hasNode_in h hc
  · intro h0 h1 h2 h3 h4 h5
    simp [h0, h1, h2, h3, h4, h5] at h
    exact ⟨s_hasNode_in h.1 hc, s_hasNode_in h.2 hc⟩
def k_lvAbove : mm_Ct := fun As M Post => match As with
  | [.inr (.inr (some (1, 0))), .inl k, .inl a, .inl b, .inl c] => (M.2.2 = mm_gd) ∧ (s_hasOps M k a b c = true) ∧ (¬ 60 < M.1 1 0 10) ∧ Post (some (.inl (s_lvAbove M k a b c))) (M)
  | _ => False
theorem e_lvAbove {M : mm_M} {Post : Option mm_V → mm_M → Prop} {k : Int32} {a : Int32} {b : Int32} {c : Int32} : k_lvAbove [.inr (.inr (some (1, 0))), .inl k, .inl a, .inl b, .inl c] M Post = ((M.2.2 = mm_gd) ∧ (s_hasOps M k a b c = true) ∧ (¬ 60 < M.1 1 0 10) ∧ Post (some (.inl (s_lvAbove M k a b c))) (M)) := rfl
set_option maxRecDepth 100000 in
set_option maxHeartbeats 1000000 in
theorem v_lvAbove : mm_Vd l D dA sz 2 24 k_lvAbove := by
  intro As M Post h
  match As, h with
  | [.inr (.inr (some (1, 0))), .inl k, .inl a, .inl b, .inl c], h =>
    obtain ⟨hG, xo, xc, h⟩ := h
    refine mm_meth 24 (by decide) ⟨rfl, rfl, by decide, by decide⟩ (mm_okC v_lvArg (by decide) (by decide) mm_okN) (Nat.le_of_ble_eq_true rfl) 55 ?_
    have g25 : ∀ As M P, mm_gl [(25, k_lvArg)] 25 As M P = k_lvArg As M P := fun _ _ _ => rfl
    show mm_x (1, 5, some .int, false, 0, 0, none, false) prog_7_method_7_code (mm_gl [(25, k_lvArg)]) (fun _ => none) Post 55 0 [some (.inr (.inr (some (1, 0)))), some (.inl k), some (.inl a), some (.inl b), some (.inl c)] [] M 0 0
    simp (config := { maxSteps := 2000000 }) only [hG, ↓g25, ↓e_lvArg, mk_25, Bool.not_eq_false, Bool.not_eq_true, kn_0, kn_1, Classical.not_not, bn_0, bn_1, bi_n, bi_0, bi_f, xs_x, xs_kk, xs_s, xs_cutI, xs_c, xs_d, xs_o, xs_p1, xs_pI, xs_pL, xs_pR, xs_vI, xs_vL, xs_vQ, xs_lV0, xs_lVs, xs_pN0, xs_pNs, xs_k0, xs_ts0, xs_ts1, xs_0eq, xs_0ne, xs_0lt, xs_0ge, xs_0gt, xs_0le, xs_2eq, xs_2ne, xs_2lt, xs_2ge, xs_2gt, xs_2le, xs_catI, xs_catL, xs_catR, xs_sm0, xs_sm1, xs_tl1, xs_tl0, xs_jm0, xs_jm1, xs_jm2, xs_jm3, xs_nI, xs_fI, xs_putI, xs_putL, xs_putR, fv_0, fv_1, fv_2, fv_3, st1_0, st1_1I, st2_1I, st1_1L, st2_1L, st1_1R, st2_1R, st1_1N, st2_1N, st2_0, st1_s, st2_s, xi_iconst, xi_iload_n, xi_iload, xi_aload_n, xi_iadd, xi_tableswitch, xi_getfield, xi_iaload, xi_invokestatic, xi_invokevirtual, xi_ireturn, xs_ivS, xs_ivN, xs_call, k_ic_0, k_ic_1, k_ic_2, k_ic_3, k_ic_4, k_ic_5, k_ic_6, k_ic_7, k_ic_8, k_ic_9, k_ic_10, k_ic_11, k_ic_12, k_ic_13, k_ic_14, k_ic_15, k_ic_16, gy_0, gm_0, gy_1, gm_1, gy_2, gl_2, gm_2, gy_3, gl_3, gm_3, gy_4, gl_4, gm_4, gy_5, gl_5, gm_5, gy_6, gl_6, gm_6, gy_7, gl_7, gm_7, gy_8, gl_8, gm_8, gy_9, gl_9, gm_9, gy_10, gl_10, gm_10, gy_11, gl_11, gm_11, gy_12, gm_12, gy_13, gl_13, gm_13, gy_14, gy_15, gl_15, gy_16, gl_16, gy_17, gl_17, gy_18, gl_18, gy_19, gl_19, gy_20, gl_20, gy_21, gm_21, gr_1_4, gf_1_4, gs_1, gs_2, gs_3, gg_i, gg_z, gg_l, gg_o, gg_a, gi_s, gi_a, List.toList_toArray, Nat.reduceAdd, Int.reduceAdd, Nat.reduceLeDiff, Nat.reduceLT, Nat.reduceEqDiff, reduceIte, ne_eq, not_false_eq_true, true_imp_iff, false_imp_iff, not_true_eq_false, implies_true, Jvm.ClassFile.FieldType.object.injEq, exists_eq_left', exists_eq_left, decide_eq_true_eq, true_and, and_true, true_or, or_true, false_or, or_false, Nat.le_refl, forall_const, Fin.isValue, Fin.val_zero, Fin.val_one, reduceCtorEq, Nat.zero_add, Int.zero_add, Int.add_zero, Option.some.injEq, Sum.inl.injEq, Sum.inr.injEq, Prod.mk.injEq, and_self, eq_self, d24_0, d24_1, d24_84, d24_85, d24_86, d24_87, d24_88, d24_91, d24_92, d24_93, d24_94, d24_97, d24_98, d24_99, d24_100, d24_103, d24_105, d24_106, d24_109, d24_112, d24_113, d24_114, d24_115, d24_116, d24_119, d24_120, d24_121, d24_122, d24_123, d24_124, d24_125, d24_126, d24_129, d24_130, d24_132, d24_135, d24_138, d24_139, d24_140, d24_141, d24_142, d24_145, d24_146, d24_147, d24_148, d24_151, d24_152, d24_153, d24_156, d24_157, fl_1_24, jm_1_75, mt_1_81, tk24_1, jt_1_113, jt_1_122, jt_1_139, jt_1_83, jt_1_85, jp_1_113, jp_1_122, jp_1_139, jp_1_83, jp_1_85]
    obtain ⟨o1, o2, o3, o4, o5⟩ := s_hasOps_in xo xc
    repeat' (first | apply And.intro | with_reducible intro _)
    all_goals first | (subst_vars; exact h) | exact mm_pi h (by simp [s_lvAbove, s_max, *]) | exact (o1 (by assumption)).1 | exact (o1 (by assumption)).2.1 | exact (o1 (by assumption)).2.2 | exact o2 (by assumption) | exact (o3 (by assumption)).1 | exact (o3 (by assumption)).2 | exact o4 (by assumption) | exact (o5 (by simp [*]) (by simp [*]) (by simp [*]) (by simp [*]) (by simp [*]) (by simp [*])).1 | exact (o5 (by simp [*]) (by simp [*]) (by simp [*]) (by simp [*]) (by simp [*]) (by simp [*])).2
def s_addNodeM (M : mm_M) (k a b c : Int32) : mm_M := mm_sI (mm_sI (mm_sI (mm_sI (mm_sI (mm_sI M 2 0 (M.1 1 0 10).toNatClampNeg k) 3 0 (M.1 1 0 10).toNatClampNeg a) 4 0 (M.1 1 0 10).toNatClampNeg b) 5 0 (M.1 1 0 10).toNatClampNeg c) 6 0 (M.1 1 0 10).toNatClampNeg (s_lvAbove M k a b c)) 1 0 10 (M.1 1 0 10 + 1)
def s_addNode (M : mm_M) (k a b c : Int32) : Int32 × mm_M := if 60 ≤ M.1 1 0 10 then (-1, M) else if s_isOne k = false then (-1, M) else if s_hasOps M k a b c = false then (-1, M) else if s_lvAbove M k a b c ≤ 8 then (M.1 1 0 10, s_addNodeM M k a b c) else (-1, M)
def k_addNode : mm_Ct := fun As M Post => match As with
  | [.inr (.inr (some (1, 0))), .inl k, .inl a, .inl b, .inl c] => (M.2.2 = mm_gd) ∧ (¬ M.1 1 0 10 < 0) ∧ (¬ 60 < M.1 1 0 10) ∧ Post (some (.inl ((s_addNode M k a b c).1))) ((s_addNode M k a b c).2)
  | _ => False
theorem e_addNode {M : mm_M} {Post : Option mm_V → mm_M → Prop} {k : Int32} {a : Int32} {b : Int32} {c : Int32} : k_addNode [.inr (.inr (some (1, 0))), .inl k, .inl a, .inl b, .inl c] M Post = ((M.2.2 = mm_gd) ∧ (¬ M.1 1 0 10 < 0) ∧ (¬ 60 < M.1 1 0 10) ∧ Post (some (.inl ((s_addNode M k a b c).1))) ((s_addNode M k a b c).2)) := rfl
set_option maxRecDepth 100000 in
set_option maxHeartbeats 1000000 in
theorem v_addNode : mm_Vd l D dA sz 4 21 k_addNode := by
  intro As M Post h
  match As, h with
  | [.inr (.inr (some (1, 0))), .inl k, .inl a, .inl b, .inl c], h =>
    obtain ⟨hG, x0, xc, h⟩ := h
    refine mm_meth 21 (by decide) ⟨rfl, rfl, by decide, by decide⟩ (mm_okC v_isOne (by decide) (by decide) (mm_okC v_hasOps (by decide) (by decide) (mm_okC v_lvAbove (by decide) (by decide) mm_okN))) (Nat.le_of_ble_eq_true rfl) 68 ?_
    have g108 : ∀ As M P, mm_gl [(108, k_isOne), (22, k_hasOps), (24, k_lvAbove)] 108 As M P = k_isOne As M P := fun _ _ _ => rfl
    have g22 : ∀ As M P, mm_gl [(108, k_isOne), (22, k_hasOps), (24, k_lvAbove)] 22 As M P = k_hasOps As M P := fun _ _ _ => rfl
    have g24 : ∀ As M P, mm_gl [(108, k_isOne), (22, k_hasOps), (24, k_lvAbove)] 24 As M P = k_lvAbove As M P := fun _ _ _ => rfl
    show mm_x (1, 7, some .int, false, 0, 0, none, false) prog_7_method_4_code (mm_gl [(108, k_isOne), (22, k_hasOps), (24, k_lvAbove)]) (fun _ => none) Post 68 0 [some (.inr (.inr (some (1, 0)))), some (.inl k), some (.inl a), some (.inl b), some (.inl c), none, none] [] M 0 0
    simp (config := { maxSteps := 2000000 }) only [hG, ↓g108, ↓g22, ↓g24, ↓e_isOne, ↓e_hasOps, ↓e_lvAbove, mk_108, mk_22, mk_24, Bool.not_eq_false, Bool.not_eq_true, kn_0, kn_1, Classical.not_not, bn_0, bn_1, bi_n, bi_0, bi_f, xs_x, xs_kk, xs_s, xs_cutI, xs_c, xs_d, xs_o, xs_p1, xs_pI, xs_pL, xs_pR, xs_vI, xs_vL, xs_vQ, xs_lV0, xs_lVs, xs_pN0, xs_pNs, xs_k0, xs_0eq, xs_0ne, xs_0lt, xs_0ge, xs_0gt, xs_0le, xs_2eq, xs_2ne, xs_2lt, xs_2ge, xs_2gt, xs_2le, xs_catI, xs_catL, xs_catR, xs_sm0, xs_sm1, xs_tl1, xs_tl0, xs_nI, xs_fI, xs_putI, xs_putL, xs_putR, fv_0, fv_1, fv_2, fv_3, st1_0, st1_1I, st2_1I, st1_1L, st2_1L, st1_1R, st2_1R, st1_1N, st2_1N, st2_0, st1_s, st2_s, xi_iconst, xi_bipush, xi_iload_n, xi_iload, xi_aload_n, xi_istore, xi_iadd, xi_ifCond, xi_if_icmp, xi_getfield, xi_putfield, xi_iastore, xi_invokestatic, xi_invokevirtual, xi_ireturn, xs_ivS, xs_ivN, xs_call, k_ic_m1, k_ic_1, k_bi_8, k_bi_60, gy_0, gm_0, gy_1, gm_1, gy_2, gl_2, gm_2, gy_3, gl_3, gm_3, gy_4, gl_4, gm_4, gy_5, gl_5, gm_5, gy_6, gl_6, gm_6, gy_7, gl_7, gm_7, gy_8, gl_8, gm_8, gy_9, gl_9, gm_9, gy_10, gl_10, gm_10, gy_11, gl_11, gm_11, gy_12, gm_12, gy_13, gl_13, gm_13, gy_14, gy_15, gl_15, gy_16, gl_16, gy_17, gl_17, gy_18, gl_18, gy_19, gl_19, gy_20, gl_20, gy_21, gm_21, gr_1_0, gr_1_1, gr_1_2, gr_1_3, gr_1_4, gf_1_0, gn_1_0, gq_1_0, gf_1_1, gn_1_1, gq_1_1, gf_1_2, gn_1_2, gq_1_2, gf_1_3, gn_1_3, gq_1_3, gf_1_4, gn_1_4, gq_1_4, gf_1_10, gn_1_10, gq_1_10, gs_1, gs_2, gs_3, gg_i, gg_z, gg_l, gg_o, gg_a, gi_s, gi_a, List.toList_toArray, Nat.reduceAdd, Int.reduceAdd, Nat.reduceLeDiff, Nat.reduceLT, Nat.reduceEqDiff, reduceIte, ne_eq, not_false_eq_true, true_imp_iff, false_imp_iff, not_true_eq_false, implies_true, Jvm.ClassFile.FieldType.object.injEq, exists_eq_left', exists_eq_left, decide_eq_true_eq, true_and, and_true, true_or, or_true, false_or, or_false, Nat.le_refl, forall_const, Fin.isValue, Fin.val_zero, Fin.val_one, reduceCtorEq, Nat.zero_add, Int.zero_add, Int.add_zero, Option.some.injEq, Sum.inl.injEq, Sum.inr.injEq, Prod.mk.injEq, and_self, eq_self, d21_0, d21_1, d21_4, d21_6, d21_9, d21_10, d21_13, d21_16, d21_17, d21_18, d21_19, d21_20, d21_22, d21_25, d21_28, d21_29, d21_30, d21_31, d21_32, d21_33, d21_34, d21_36, d21_39, d21_41, d21_43, d21_45, d21_48, d21_49, d21_50, d21_51, d21_54, d21_56, d21_57, d21_60, d21_62, d21_63, d21_64, d21_65, d21_68, d21_70, d21_71, d21_72, d21_73, d21_76, d21_78, d21_79, d21_80, d21_81, d21_84, d21_86, d21_88, d21_89, d21_90, d21_93, d21_95, d21_97, d21_98, d21_99, d21_101, d21_102, d21_103, d21_106, d21_108, fl_1_15, fl_1_18, fl_1_21, fl_1_24, fl_1_43, fl_1_9, jn_1_50, mt_1_50, mt_1_56, mt_1_60, jt_13_15, jt_25_5, jt_45_5, jt_6_22, jp_13_15, jp_25_5, jp_45_5, jp_6_22]
    repeat' (first | apply And.intro | with_reducible intro _)
    all_goals first | (with_reducible assumption) | exact vin_c x0 (by with_reducible assumption) (by decide) | exact mm_pm h (by simp [s_addNode, *]) (by simp [s_addNode, s_addNodeM, *])
def s_addFunM (M : mm_M) (f p q r b : Int32) : mm_M := mm_sI (mm_sI (mm_sI (mm_sI (mm_sI (mm_sI M 7 0 f.toNatClampNeg 1) 8 0 f.toNatClampNeg p) 9 0 f.toNatClampNeg q) 10 0 f.toNatClampNeg r) 11 0 f.toNatClampNeg b) 1 0 11 (M.1 1 0 11 + 1)
def s_addFun (M : mm_M) (f p q r b : Int32) : Int32 × mm_M := if f < 0 then (-1, M) else if 8 ≤ f then (-1, M) else if ¬ M.1 7 0 f.toNatClampNeg = 0 then (-1, M) else if s_hasNode M b = false then (-1, M) else if s_isPar p = false then (-1, M) else if s_isPar q = false then (-1, M) else if s_isRes r = false then (-1, M) else (0, s_addFunM M f p q r b)
theorem b11 : (1 : Int32) &&& 1 = 1 := by decide
theorem b01 : (0 : Int32) &&& 1 = 0 := by decide
def k_addFun : mm_Ct := fun As M Post => match As with
  | [.inr (.inr (some (1, 0))), .inl f, .inl p, .inl q, .inl r, .inl b] => (M.2.2 = mm_gd) ∧ Post (some (.inl ((s_addFun M f p q r b).1))) ((s_addFun M f p q r b).2)
  | _ => False
theorem e_addFun {M : mm_M} {Post : Option mm_V → mm_M → Prop} {f : Int32} {p : Int32} {q : Int32} {r : Int32} {b : Int32} : k_addFun [.inr (.inr (some (1, 0))), .inl f, .inl p, .inl q, .inl r, .inl b] M Post = ((M.2.2 = mm_gd) ∧ Post (some (.inl ((s_addFun M f p q r b).1))) ((s_addFun M f p q r b).2)) := rfl
set_option maxRecDepth 100000 in
set_option maxHeartbeats 1000000 in
theorem v_addFun : mm_Vd l D dA sz 5 26 k_addFun := by
  intro As M Post h
  match As, h with
  | [.inr (.inr (some (1, 0))), .inl f, .inl p, .inl q, .inl r, .inl b], h =>
    obtain ⟨hG, h⟩ := h
    refine mm_meth 26 (by decide) ⟨rfl, rfl, by decide, by decide⟩ (mm_okC v_hasNode (by decide) (by decide) (mm_okC v_isPar (by decide) (by decide) (mm_okC v_isRes (by decide) (by decide) mm_okN))) (Nat.le_of_ble_eq_true rfl) 65 ?_
    have g19 : ∀ As M P, mm_gl [(19, k_hasNode), (116, k_isPar), (115, k_isRes)] 19 As M P = k_hasNode As M P := fun _ _ _ => rfl
    have g116 : ∀ As M P, mm_gl [(19, k_hasNode), (116, k_isPar), (115, k_isRes)] 116 As M P = k_isPar As M P := fun _ _ _ => rfl
    have g115 : ∀ As M P, mm_gl [(19, k_hasNode), (116, k_isPar), (115, k_isRes)] 115 As M P = k_isRes As M P := fun _ _ _ => rfl
    show mm_x (1, 6, some .int, false, 0, 0, none, false) prog_7_method_9_code (mm_gl [(19, k_hasNode), (116, k_isPar), (115, k_isRes)]) (fun _ => none) Post 65 0 [some (.inr (.inr (some (1, 0)))), some (.inl f), some (.inl p), some (.inl q), some (.inl r), some (.inl b)] [] M 0 0
    simp (config := { maxSteps := 2000000 }) only [hG, ↓g19, ↓g116, ↓g115, ↓e_hasNode, ↓e_isPar, ↓e_isRes, mk_19, mk_116, mk_115, b11, Bool.not_eq_false, Bool.not_eq_true, kn_0, kn_1, Classical.not_not, bn_0, bn_1, bi_n, bi_0, bi_f, xs_x, xs_kk, xs_s, xs_cutI, xs_c, xs_d, xs_o, xs_p1, xs_pI, xs_pL, xs_pR, xs_vI, xs_vL, xs_vQ, xs_lV0, xs_lVs, xs_pN0, xs_pNs, xs_k0, xs_0eq, xs_0ne, xs_0lt, xs_0ge, xs_0gt, xs_0le, xs_2eq, xs_2ne, xs_2lt, xs_2ge, xs_2gt, xs_2le, xs_catI, xs_catL, xs_catR, xs_sm0, xs_sm1, xs_tl1, xs_tl0, xs_nI, xs_fI, xs_putI, xs_putL, xs_putR, fv_0, fv_1, fv_2, fv_3, st1_0, st1_1I, st2_1I, st1_1L, st2_1L, st1_1R, st2_1R, st1_1N, st2_1N, st2_0, st1_s, st2_s, xi_iconst, xi_bipush, xi_iload_n, xi_iload, xi_aload_n, xi_iadd, xi_dup, xi_ifCond, xi_if_icmp, xi_getfield, xi_putfield, xi_baload, xi_iastore, xi_bastore, xi_invokestatic, xi_invokevirtual, xi_ireturn, xs_ivS, xs_ivN, xs_call, k_ic_m1, k_ic_0, k_ic_1, k_bi_8, gy_0, gm_0, gy_1, gm_1, gy_2, gl_2, gm_2, gy_3, gl_3, gm_3, gy_4, gl_4, gm_4, gy_5, gl_5, gm_5, gy_6, gl_6, gm_6, gy_7, gl_7, gm_7, gy_8, gl_8, gm_8, gy_9, gl_9, gm_9, gy_10, gl_10, gm_10, gy_11, gl_11, gm_11, gy_12, gm_12, gy_13, gl_13, gm_13, gy_14, gy_15, gl_15, gy_16, gl_16, gy_17, gl_17, gy_18, gl_18, gy_19, gl_19, gy_20, gl_20, gy_21, gm_21, gr_1_5, gr_1_6, gr_1_7, gr_1_8, gr_1_9, gf_1_5, gn_1_5, gq_1_5, gf_1_6, gn_1_6, gq_1_6, gf_1_7, gn_1_7, gq_1_7, gf_1_8, gn_1_8, gq_1_8, gf_1_9, gn_1_9, gq_1_9, gf_1_11, gn_1_11, gq_1_11, gs_1, gs_2, gs_3, gg_i, gg_z, gg_l, gg_o, gg_a, gi_s, gi_a, List.toList_toArray, Nat.reduceAdd, Int.reduceAdd, Nat.reduceLeDiff, Nat.reduceLT, Nat.reduceEqDiff, reduceIte, ne_eq, not_false_eq_true, true_imp_iff, false_imp_iff, not_true_eq_false, implies_true, Jvm.ClassFile.FieldType.object.injEq, exists_eq_left', exists_eq_left, decide_eq_true_eq, true_and, and_true, true_or, or_true, false_or, or_false, Nat.le_refl, forall_const, Fin.isValue, Fin.val_zero, Fin.val_one, reduceCtorEq, Nat.zero_add, Int.zero_add, Int.add_zero, Option.some.injEq, Sum.inl.injEq, Sum.inr.injEq, Prod.mk.injEq, and_self, eq_self, d26_0, d26_1, d26_4, d26_5, d26_7, d26_10, d26_11, d26_14, d26_15, d26_16, d26_19, d26_20, d26_22, d26_25, d26_28, d26_29, d26_30, d26_31, d26_34, d26_37, d26_38, d26_41, d26_44, d26_46, d26_49, d26_52, d26_53, d26_54, d26_55, d26_58, d26_59, d26_60, d26_61, d26_62, d26_65, d26_66, d26_67, d26_68, d26_69, d26_72, d26_73, d26_74, d26_75, d26_76, d26_79, d26_80, d26_82, d26_83, d26_84, d26_87, d26_88, d26_90, d26_91, d26_92, d26_93, d26_96, d26_97, d26_98, d26_101, d26_102, fl_1_27, fl_1_31, fl_1_34, fl_1_37, fl_1_40, fl_1_47, jn_1_85, jn_1_88, mt_1_64, mt_1_85, mt_1_88, jt_16_12, jt_1_27, jt_25_5, jt_34_18, jt_41_11, jt_49_5, jt_7_21, jp_16_12, jp_1_27, jp_25_5, jp_34_18, jp_41_11, jp_49_5, jp_7_21]
    repeat' (first | apply And.intro | with_reducible intro _)
    all_goals first | (with_reducible assumption) | exact vin_c (by with_reducible assumption) (by with_reducible assumption) (by decide) | exact mm_pm h (by simp [s_addFun, *]) (by simp [s_addFun, s_addFunM, gs_4, mm_u, *])
theorem byp_1 {c : Int32} (h : s_isByP c = true) (hc : c < 200) : vp_in (c - 100) 2 := by
  simp only [s_isByP, Bool.or_eq_true, decide_eq_true_eq] at h
  rcases h with ((rfl | rfl) | rfl) | rfl
  · exact vp_in_iff.mpr (by decide)
  · exact vp_in_iff.mpr (by decide)
  · exact absurd hc (by decide)
  · exact absurd hc (by decide)
theorem byp_2 {c : Int32} (h : s_isByP c = true) (hc : ¬ c < 200) : vp_in (c - 200) 2 := by
  simp only [s_isByP, Bool.or_eq_true, decide_eq_true_eq] at h
  rcases h with ((rfl | rfl) | rfl) | rfl
  · exact absurd (by decide) hc
  · exact absurd (by decide) hc
  · exact vp_in_iff.mpr (by decide)
  · exact vp_in_iff.mpr (by decide)
def s_typeByK (M : mm_M) (i : Nat) (c k : Int32) : Int32 := if ¬ M.1 15 i k.toNatClampNeg = 300 then 500 else if M.2.1 16 i k.toNatClampNeg < 1 then 500 else if M.2.1 16 i k.toNatClampNeg ≤ 31 then (if 200 ≤ c then -(M.2.1 16 i k.toNatClampNeg).toInt32 else (M.2.1 16 i k.toNatClampNeg).toInt32) else 500
def s_typeBy (M : mm_M) (i : Nat) (c : Int32) : Int32 := if s_isByP c = false then c else if 200 ≤ c then s_typeByK M i c (c - 200) else s_typeByK M i c (c - 100)
def k_typeBy : mm_Ct := fun As M Post => match As with
  | [.inr (.inr (some (14, i))), .inl c] => (M.2.2 = mm_gd) ∧ (i < 20) ∧ Post (some (.inl (s_typeBy M i c))) (M)
  | _ => False
theorem e_typeBy {M : mm_M} {Post : Option mm_V → mm_M → Prop} {i : Nat} {c : Int32} : k_typeBy [.inr (.inr (some (14, i))), .inl c] M Post = ((M.2.2 = mm_gd) ∧ (i < 20) ∧ Post (some (.inl (s_typeBy M i c))) (M)) := rfl
set_option maxRecDepth 100000 in
set_option maxHeartbeats 1000000 in
theorem v_typeBy : mm_Vd l D dA sz 2 47 k_typeBy := by
  intro As M Post h
  match As, h with
  | [.inr (.inr (some (14, i))), .inl c], h =>
    obtain ⟨hG, hi, h⟩ := h
    refine mm_meth 47 (by decide) ⟨rfl, rfl, by decide, by decide⟩ (mm_okC v_isByP (by decide) (by decide) mm_okN) (Nat.le_of_ble_eq_true rfl) 62 ?_
    have g113 : ∀ As M P, mm_gl [(113, k_isByP)] 113 As M P = k_isByP As M P := fun _ _ _ => rfl
    show mm_x (3, 4, some .int, false, 0, 0, none, false) prog_4_method_3_code (mm_gl [(113, k_isByP)]) (fun _ => none) Post 62 0 [some (.inr (.inr (some (14, i)))), some (.inl c), none, none] [] M 0 0
    simp (config := { maxSteps := 2000000 }) only [hG, hi, ↓g113, ↓e_isByP, mk_113, gm_14 hi, gm_15 hi, gm_16 hi, gm_17 hi, gm_18 hi, gm_19 hi, gm_20 hi, gr_14_2 hi, gr_14_3 hi, gr_14_4 hi, gr_14_5 hi, gr_14_6 hi, gr_14_7 hi, Bool.not_eq_false, Bool.not_eq_true, kn_0, kn_1, Classical.not_not, bn_0, bn_1, bi_n, bi_0, bi_f, lg_cmp_ge, lg_cmp_lt, lg_cmp_gt, lg_cmp_le, lg_cmp_eq, xs_x, xs_kk, xs_s, xs_cutI, xs_c, xs_d, xs_o, xs_p1, xs_pI, xs_pL, xs_pR, xs_vI, xs_vL, xs_vQ, xs_lV0, xs_lVs, xs_pN0, xs_pNs, xs_k0, xs_0eq, xs_0ne, xs_0lt, xs_0ge, xs_0gt, xs_0le, xs_2eq, xs_2ne, xs_2lt, xs_2ge, xs_2gt, xs_2le, xs_catI, xs_catL, xs_catR, xs_sm0, xs_sm1, xs_tl1, xs_tl0, xs_nI, xs_fI, xs_putI, xs_putL, xs_putR, fv_0, fv_1, fv_2, fv_3, st1_0, st1_1I, st2_1I, st1_1L, st2_1L, st1_1R, st2_1R, st1_1N, st2_1N, st2_0, st1_s, st2_s, xi_iconst, xi_bipush, xi_sipush, xi_lconst, xi_ldc2_w, xi_iload_n, xi_aload_n, xi_istore_n, xi_isub, xi_ineg, xi_l2i, xi_lcmp, xi_ifCond, xi_if_icmp, xi_goto, xi_getfield, xi_iaload, xi_laload, xi_invokestatic, xi_ireturn, xs_ivS, xs_ivN, xs_call, k_ic_0, k_ic_1, k_bi_100, k_si_200, k_si_300, k_si_500, k_lc_1, gy_0, gm_0, gy_1, gm_1, gy_2, gl_2, gm_2, gy_3, gl_3, gm_3, gy_4, gl_4, gm_4, gy_5, gl_5, gm_5, gy_6, gl_6, gm_6, gy_7, gl_7, gm_7, gy_8, gl_8, gm_8, gy_9, gl_9, gm_9, gy_10, gl_10, gm_10, gy_11, gl_11, gm_11, gy_12, gm_12, gy_13, gl_13, gm_13, gy_14, gy_15, gl_15, gy_16, gl_16, gy_17, gl_17, gy_18, gl_18, gy_19, gl_19, gy_20, gl_20, gy_21, gm_21, gf_3_2, gf_3_3, gs_1, gs_2, gs_3, gg_i, gg_z, gg_l, gg_o, gg_a, gi_s, gi_a, List.toList_toArray, Nat.reduceAdd, Int.reduceAdd, Nat.reduceLeDiff, Nat.reduceLT, Nat.reduceEqDiff, reduceIte, ne_eq, not_false_eq_true, true_imp_iff, false_imp_iff, not_true_eq_false, implies_true, Jvm.ClassFile.FieldType.object.injEq, exists_eq_left', exists_eq_left, decide_eq_true_eq, true_and, and_true, true_or, or_true, false_or, or_false, Nat.le_refl, forall_const, Fin.isValue, Fin.val_zero, Fin.val_one, reduceCtorEq, Nat.zero_add, Int.zero_add, Int.add_zero, Option.some.injEq, Sum.inl.injEq, Sum.inr.injEq, Prod.mk.injEq, and_self, eq_self, d47_0, d47_1, d47_4, d47_7, d47_8, d47_9, d47_10, d47_13, d47_16, d47_17, d47_20, d47_21, d47_22, d47_23, d47_24, d47_27, d47_29, d47_32, d47_35, d47_36, d47_37, d47_38, d47_41, d47_42, d47_43, d47_46, d47_49, d47_50, d47_53, d47_54, d47_55, d47_56, d47_57, d47_60, d47_61, d47_64, d47_65, d47_66, d47_69, d47_70, d47_73, d47_76, d47_77, d47_78, d47_81, d47_82, d47_85, d47_86, d47_87, d47_88, d47_91, d47_92, d47_95, d47_96, d47_97, d47_98, d47_99, cn_3_60, fl_3_15, fl_3_9, jn_3_56, mt_3_56, jt_13_7, jt_17_4, jt_24_8, jt_29_6, jt_46_27, jt_4_5, jt_57_16, jt_70_7, jt_78_13, jt_88_11, jp_13_7, jp_17_4, jp_24_8, jp_29_6, jp_46_27, jp_4_5, jp_57_16, jp_70_7, jp_78_13, jp_88_11]
    repeat' (first | apply And.intro | with_reducible intro _)
    all_goals first | (with_reducible contradiction) | (with_reducible exact byp_1 (by with_reducible assumption) (Int32.not_le.mp (by with_reducible assumption))) | (with_reducible exact byp_2 (by with_reducible assumption) (Int32.not_lt.mpr (by with_reducible assumption))) | exact mm_pi h (by simp [s_typeBy, s_typeByK, *])
def s_hasCount (M : mm_M) (i : Nat) (k : Int32) (x : Int64) : Bool := !decide (M.1 15 i k.toNatClampNeg = 300) || decide (M.2.1 16 i k.toNatClampNeg = x)
def k_hasCount : mm_Ct := fun As M Post => match As with
  | [.inr (.inr (some (14, i))), .inl k, .inr (.inl x)] => (M.2.2 = mm_gd) ∧ (i < 20) ∧ (vp_in k 2) ∧ Post (some (.inl (bi (s_hasCount M i k x)))) (M)
  | _ => False
theorem e_hasCount {M : mm_M} {Post : Option mm_V → mm_M → Prop} {i : Nat} {k : Int32} {x : Int64} : k_hasCount [.inr (.inr (some (14, i))), .inl k, .inr (.inl x)] M Post = ((M.2.2 = mm_gd) ∧ (i < 20) ∧ (vp_in k 2) ∧ Post (some (.inl (bi (s_hasCount M i k x)))) (M)) := rfl
set_option maxRecDepth 100000 in
set_option maxHeartbeats 1000000 in
theorem v_hasCount : mm_Vd l D dA sz 1 49 k_hasCount := by
  intro As M Post h
  match As, h with
  | [.inr (.inr (some (14, i))), .inl k, .inr (.inl x)], h =>
    obtain ⟨hG, hi, hk, h⟩ := h
    refine mm_meth 49 (by decide) ⟨rfl, rfl, by decide, by decide⟩ mm_okN (Nat.le_of_ble_eq_true rfl) 22 ?_
    show mm_x (3, 4, some .boolean, false, 0, 0, none, false) prog_4_method_5_code (mm_gl []) (fun _ => none) Post 22 0 [some (.inr (.inr (some (14, i)))), some (.inl k), some (.inr (.inl x)), none] [] M 0 0
    simp (config := { maxSteps := 2000000 }) only [hG, hi, hk, gm_14 hi, gm_15 hi, gm_16 hi, gm_17 hi, gm_18 hi, gm_19 hi, gm_20 hi, gr_14_2 hi, gr_14_3 hi, gr_14_4 hi, gr_14_5 hi, gr_14_6 hi, gr_14_7 hi, Bool.not_eq_false, Bool.not_eq_true, kn_0, kn_1, Classical.not_not, bn_0, bn_1, bi_n, bi_0, bi_f, lg_cmp_ge, lg_cmp_lt, lg_cmp_gt, lg_cmp_le, lg_cmp_eq, xs_x, xs_kk, xs_s, xs_cutI, xs_c, xs_d, xs_o, xs_p1, xs_pI, xs_pL, xs_pR, xs_vI, xs_vL, xs_vQ, xs_lV0, xs_lVs, xs_pN0, xs_pNs, xs_k0, xs_0eq, xs_0ne, xs_0lt, xs_0ge, xs_0gt, xs_0le, xs_2eq, xs_2ne, xs_2lt, xs_2ge, xs_2gt, xs_2le, xs_catI, xs_catL, xs_catR, xs_sm0, xs_sm1, xs_tl1, xs_tl0, xs_nI, xs_fI, xs_putI, xs_putL, xs_putR, fv_0, fv_1, fv_2, fv_3, st1_0, st1_1I, st2_1I, st1_1L, st2_1L, st1_1R, st2_1R, st1_1N, st2_1N, st2_0, st1_s, st2_s, xi_iconst, xi_sipush, xi_iload_n, xi_lload_n, xi_aload_n, xi_lcmp, xi_ifCond, xi_if_icmp, xi_goto, xi_getfield, xi_iaload, xi_laload, xi_ireturn, xs_ivS, xs_ivN, xs_call, k_ic_0, k_ic_1, k_si_300, gy_0, gm_0, gy_1, gm_1, gy_2, gl_2, gm_2, gy_3, gl_3, gm_3, gy_4, gl_4, gm_4, gy_5, gl_5, gm_5, gy_6, gl_6, gm_6, gy_7, gl_7, gm_7, gy_8, gl_8, gm_8, gy_9, gl_9, gm_9, gy_10, gl_10, gm_10, gy_11, gl_11, gm_11, gy_12, gm_12, gy_13, gl_13, gm_13, gy_14, gy_15, gl_15, gy_16, gl_16, gy_17, gl_17, gy_18, gl_18, gy_19, gl_19, gy_20, gl_20, gy_21, gm_21, gf_3_2, gf_3_3, gs_1, gs_2, gs_3, gg_i, gg_z, gg_l, gg_o, gg_a, gi_s, gi_a, List.toList_toArray, Nat.reduceAdd, Int.reduceAdd, Nat.reduceLeDiff, Nat.reduceLT, Nat.reduceEqDiff, reduceIte, ne_eq, not_false_eq_true, true_imp_iff, false_imp_iff, not_true_eq_false, implies_true, Jvm.ClassFile.FieldType.object.injEq, exists_eq_left', exists_eq_left, decide_eq_true_eq, true_and, and_true, true_or, or_true, false_or, or_false, Nat.le_refl, forall_const, Fin.isValue, Fin.val_zero, Fin.val_one, reduceCtorEq, Nat.zero_add, Int.zero_add, Int.add_zero, Option.some.injEq, Sum.inl.injEq, Sum.inr.injEq, Prod.mk.injEq, and_self, eq_self, d49_0, d49_1, d49_4, d49_5, d49_6, d49_9, d49_12, d49_13, d49_16, d49_17, d49_18, d49_19, d49_20, d49_23, d49_24, d49_27, d49_28, fl_3_15, fl_3_9, jt_20_7, jt_24_4, jt_9_14, jp_20_7, jp_24_4, jp_9_14]
    repeat' (first | apply And.intro | with_reducible intro _)
    all_goals first | with_reducible exact h | (with_reducible contradiction) | (with_reducible assumption) | exact vin_c (by with_reducible assumption) (by with_reducible assumption) (by decide) | (simp only [s_hasCount, bi, *, reduceIte] at h; with_reducible exact h) | exact mm_pi h (by simp [s_hasCount, bi, *]) | exact mm_pl h (by simp [s_hasCount, bi, *]) | exact mm_pm h (by simp [s_hasCount, bi, *]) (by simp [s_hasCount, bi, *])
theorem in20 : vp_in 0 2 := vp_in_iff.mpr (by decide)
theorem in21 : vp_in 1 2 := vp_in_iff.mpr (by decide)
def s_isOf (M : mm_M) (i : Nat) (f : Int32) (v w : Int64) : Bool := decide (M.1 14 i 0 = f) && s_hasCount M i 0 v && s_hasCount M i 1 w
def k_isOf : mm_Ct := fun As M Post => match As with
  | [.inr (.inr (some (14, i))), .inl f, .inr (.inl v), .inr (.inl w)] => (M.2.2 = mm_gd) ∧ (i < 20) ∧ Post (some (.inl (bi (s_isOf M i f v w)))) (M)
  | _ => False
theorem e_isOf {M : mm_M} {Post : Option mm_V → mm_M → Prop} {i : Nat} {f : Int32} {v : Int64} {w : Int64} : k_isOf [.inr (.inr (some (14, i))), .inl f, .inr (.inl v), .inr (.inl w)] M Post = ((M.2.2 = mm_gd) ∧ (i < 20) ∧ Post (some (.inl (bi (s_isOf M i f v w)))) (M)) := rfl
set_option maxRecDepth 100000 in
set_option maxHeartbeats 1000000 in
theorem v_isOf : mm_Vd l D dA sz 2 48 k_isOf := by
  intro As M Post h
  match As, h with
  | [.inr (.inr (some (14, i))), .inl f, .inr (.inl v), .inr (.inl w)], h =>
    obtain ⟨hG, hi, h⟩ := h
    refine mm_meth 48 (by decide) ⟨rfl, rfl, by decide, by decide⟩ (mm_okC v_hasCount (by decide) (by decide) mm_okN) (Nat.le_of_ble_eq_true rfl) 23 ?_
    have g49 : ∀ As M P, mm_gl [(49, k_hasCount)] 49 As M P = k_hasCount As M P := fun _ _ _ => rfl
    show mm_x (3, 6, some .boolean, false, 0, 0, none, false) prog_4_method_4_code (mm_gl [(49, k_hasCount)]) (fun _ => none) Post 23 0 [some (.inr (.inr (some (14, i)))), some (.inl f), some (.inr (.inl v)), none, some (.inr (.inl w)), none] [] M 0 0
    simp (config := { maxSteps := 2000000 }) only [hG, hi, ↓g49, ↓e_hasCount, mk_49, gm_14 hi, gm_15 hi, gm_16 hi, gm_17 hi, gm_18 hi, gm_19 hi, gm_20 hi, gr_14_2 hi, gr_14_3 hi, gr_14_4 hi, gr_14_5 hi, gr_14_6 hi, gr_14_7 hi, in20, in21, Bool.not_eq_false, Bool.not_eq_true, kn_0, kn_1, Classical.not_not, bn_0, bn_1, bi_n, bi_0, bi_f, xs_x, xs_kk, xs_s, xs_cutI, xs_c, xs_d, xs_o, xs_p1, xs_pI, xs_pL, xs_pR, xs_vI, xs_vL, xs_vQ, xs_lV0, xs_lVs, xs_pN0, xs_pNs, xs_k0, xs_0eq, xs_0ne, xs_0lt, xs_0ge, xs_0gt, xs_0le, xs_2eq, xs_2ne, xs_2lt, xs_2ge, xs_2gt, xs_2le, xs_catI, xs_catL, xs_catR, xs_sm0, xs_sm1, xs_tl1, xs_tl0, xs_nI, xs_fI, xs_putI, xs_putL, xs_putR, fv_0, fv_1, fv_2, fv_3, st1_0, st1_1I, st2_1I, st1_1L, st2_1L, st1_1R, st2_1R, st1_1N, st2_1N, st2_0, st1_s, st2_s, xi_iconst, xi_iload_n, xi_lload_n, xi_lload, xi_aload_n, xi_ifCond, xi_if_icmp, xi_goto, xi_getfield, xi_invokevirtual, xi_ireturn, xs_ivS, xs_ivN, xs_call, k_ic_0, k_ic_1, gy_0, gm_0, gy_1, gm_1, gy_2, gl_2, gm_2, gy_3, gl_3, gm_3, gy_4, gl_4, gm_4, gy_5, gl_5, gm_5, gy_6, gl_6, gm_6, gy_7, gl_7, gm_7, gy_8, gl_8, gm_8, gy_9, gl_9, gm_9, gy_10, gl_10, gm_10, gy_11, gl_11, gm_11, gy_12, gm_12, gy_13, gl_13, gm_13, gy_14, gy_15, gl_15, gy_16, gl_16, gy_17, gl_17, gy_18, gl_18, gy_19, gl_19, gy_20, gl_20, gy_21, gm_21, gf_3_0, gs_1, gs_2, gs_3, gg_i, gg_z, gg_l, gg_o, gg_a, gi_s, gi_a, List.toList_toArray, Nat.reduceAdd, Int.reduceAdd, Nat.reduceLeDiff, Nat.reduceLT, Nat.reduceEqDiff, reduceIte, ne_eq, not_false_eq_true, true_imp_iff, false_imp_iff, not_true_eq_false, implies_true, Jvm.ClassFile.FieldType.object.injEq, exists_eq_left', exists_eq_left, decide_eq_true_eq, true_and, and_true, true_or, or_true, false_or, or_false, Nat.le_refl, forall_const, Fin.isValue, Fin.val_zero, Fin.val_one, reduceCtorEq, Nat.zero_add, Int.zero_add, Int.add_zero, Option.some.injEq, Sum.inl.injEq, Sum.inr.injEq, Prod.mk.injEq, and_self, eq_self, d48_0, d48_1, d48_4, d48_5, d48_8, d48_9, d48_10, d48_11, d48_14, d48_17, d48_18, d48_19, d48_21, d48_24, d48_27, d48_28, d48_31, d48_32, fl_3_32, mt_3_62, jt_14_17, jt_24_7, jt_28_4, jt_5_26, jp_14_17, jp_24_7, jp_28_4, jp_5_26]
    repeat' (first | apply And.intro | with_reducible intro _)
    all_goals first | with_reducible exact h | (with_reducible contradiction) | (with_reducible assumption) | exact vin_c (by with_reducible assumption) (by with_reducible assumption) (by decide) | (simp only [s_isOf, bi, *, reduceIte] at h; with_reducible exact h) | exact mm_pi h (by simp [s_isOf, bi, *]) | exact mm_pl h (by simp [s_isOf, bi, *]) | exact mm_pm h (by simp [s_isOf, bi, *]) (by simp [s_isOf, bi, *])
def s_isRun (M : mm_M) (i : Nat) (k : Int32) : Bool := !decide (M.1 15 i k.toNatClampNeg = 300) && !decide (M.1 15 i k.toNatClampNeg = 400)
def k_isRun : mm_Ct := fun As M Post => match As with
  | [.inr (.inr (some (14, i))), .inl k] => (M.2.2 = mm_gd) ∧ (i < 20) ∧ (vp_in k 2) ∧ Post (some (.inl (bi (s_isRun M i k)))) (M)
  | _ => False
theorem e_isRun {M : mm_M} {Post : Option mm_V → mm_M → Prop} {i : Nat} {k : Int32} : k_isRun [.inr (.inr (some (14, i))), .inl k] M Post = ((M.2.2 = mm_gd) ∧ (i < 20) ∧ (vp_in k 2) ∧ Post (some (.inl (bi (s_isRun M i k)))) (M)) := rfl
set_option maxRecDepth 100000 in
set_option maxHeartbeats 1000000 in
theorem v_isRun : mm_Vd l D dA sz 1 50 k_isRun := by
  intro As M Post h
  match As, h with
  | [.inr (.inr (some (14, i))), .inl k], h =>
    obtain ⟨hG, hi, hk, h⟩ := h
    refine mm_meth 50 (by decide) ⟨rfl, rfl, by decide, by decide⟩ mm_okN (Nat.le_of_ble_eq_true rfl) 21 ?_
    show mm_x (3, 2, some .boolean, false, 0, 0, none, false) prog_4_method_6_code (mm_gl []) (fun _ => none) Post 21 0 [some (.inr (.inr (some (14, i)))), some (.inl k)] [] M 0 0
    simp (config := { maxSteps := 2000000 }) only [hG, hi, hk, gm_14 hi, gm_15 hi, gm_16 hi, gm_17 hi, gm_18 hi, gm_19 hi, gm_20 hi, gr_14_2 hi, gr_14_3 hi, gr_14_4 hi, gr_14_5 hi, gr_14_6 hi, gr_14_7 hi, Bool.not_eq_false, Bool.not_eq_true, kn_0, kn_1, Classical.not_not, bn_0, bn_1, bi_n, bi_0, bi_f, xs_x, xs_kk, xs_s, xs_cutI, xs_c, xs_d, xs_o, xs_p1, xs_pI, xs_pL, xs_pR, xs_vI, xs_vL, xs_vQ, xs_lV0, xs_lVs, xs_pN0, xs_pNs, xs_k0, xs_0eq, xs_0ne, xs_0lt, xs_0ge, xs_0gt, xs_0le, xs_2eq, xs_2ne, xs_2lt, xs_2ge, xs_2gt, xs_2le, xs_catI, xs_catL, xs_catR, xs_sm0, xs_sm1, xs_tl1, xs_tl0, xs_nI, xs_fI, xs_putI, xs_putL, xs_putR, fv_0, fv_1, fv_2, fv_3, st1_0, st1_1I, st2_1I, st1_1L, st2_1L, st1_1R, st2_1R, st1_1N, st2_1N, st2_0, st1_s, st2_s, xi_iconst, xi_sipush, xi_iload_n, xi_aload_n, xi_if_icmp, xi_goto, xi_getfield, xi_iaload, xi_ireturn, xs_ivS, xs_ivN, xs_call, k_ic_0, k_ic_1, k_si_300, k_si_400, gy_0, gm_0, gy_1, gm_1, gy_2, gl_2, gm_2, gy_3, gl_3, gm_3, gy_4, gl_4, gm_4, gy_5, gl_5, gm_5, gy_6, gl_6, gm_6, gy_7, gl_7, gm_7, gy_8, gl_8, gm_8, gy_9, gl_9, gm_9, gy_10, gl_10, gm_10, gy_11, gl_11, gm_11, gy_12, gm_12, gy_13, gl_13, gm_13, gy_14, gy_15, gl_15, gy_16, gl_16, gy_17, gl_17, gy_18, gl_18, gy_19, gl_19, gy_20, gl_20, gy_21, gm_21, gf_3_2, gs_1, gs_2, gs_3, gg_i, gg_z, gg_l, gg_o, gg_a, gi_s, gi_a, List.toList_toArray, Nat.reduceAdd, Int.reduceAdd, Nat.reduceLeDiff, Nat.reduceLT, Nat.reduceEqDiff, reduceIte, ne_eq, not_false_eq_true, true_imp_iff, false_imp_iff, not_true_eq_false, implies_true, Jvm.ClassFile.FieldType.object.injEq, exists_eq_left', exists_eq_left, decide_eq_true_eq, true_and, and_true, true_or, or_true, false_or, or_false, Nat.le_refl, forall_const, Fin.isValue, Fin.val_zero, Fin.val_one, reduceCtorEq, Nat.zero_add, Int.zero_add, Int.add_zero, Option.some.injEq, Sum.inl.injEq, Sum.inr.injEq, Prod.mk.injEq, and_self, eq_self, d50_0, d50_1, d50_4, d50_5, d50_6, d50_9, d50_12, d50_13, d50_16, d50_17, d50_18, d50_21, d50_24, d50_25, d50_28, d50_29, fl_3_9, jt_21_7, jt_25_4, jt_9_19, jp_21_7, jp_25_4, jp_9_19]
    repeat' (first | apply And.intro | with_reducible intro _)
    all_goals first | with_reducible exact h | (with_reducible contradiction) | (with_reducible assumption) | exact vin_c (by with_reducible assumption) (by with_reducible assumption) (by decide) | (simp only [s_isRun, bi, *, reduceIte] at h; with_reducible exact h) | exact mm_pi h (by simp [s_isRun, bi, *]) | exact mm_pl h (by simp [s_isRun, bi, *]) | exact mm_pm h (by simp [s_isRun, bi, *]) (by simp [s_isRun, bi, *])
def s_takes (M : mm_M) (i : Nat) (k : Int32) (x : Int64) : Bool := !s_isRun M i k || s_holds (M.1 15 i k.toNatClampNeg) x
def k_takes : mm_Ct := fun As M Post => match As with
  | [.inr (.inr (some (14, i))), .inl k, .inr (.inl x)] => (M.2.2 = mm_gd) ∧ (i < 20) ∧ (vp_in k 2) ∧ Post (some (.inl (bi (s_takes M i k x)))) (M)
  | _ => False
theorem e_takes {M : mm_M} {Post : Option mm_V → mm_M → Prop} {i : Nat} {k : Int32} {x : Int64} : k_takes [.inr (.inr (some (14, i))), .inl k, .inr (.inl x)] M Post = ((M.2.2 = mm_gd) ∧ (i < 20) ∧ (vp_in k 2) ∧ Post (some (.inl (bi (s_takes M i k x)))) (M)) := rfl
set_option maxRecDepth 100000 in
set_option maxHeartbeats 1000000 in
theorem v_takes : mm_Vd l D dA sz 3 51 k_takes := by
  intro As M Post h
  match As, h with
  | [.inr (.inr (some (14, i))), .inl k, .inr (.inl x)], h =>
    obtain ⟨hG, hi, hk, h⟩ := h
    refine mm_meth 51 (by decide) ⟨rfl, rfl, by decide, by decide⟩ (mm_okC v_isRun (by decide) (by decide) (mm_okC v_holds (by decide) (by decide) mm_okN)) (Nat.le_of_ble_eq_true rfl) 20 ?_
    have g50 : ∀ As M P, mm_gl [(50, k_isRun), (119, k_holds)] 50 As M P = k_isRun As M P := fun _ _ _ => rfl
    have g119 : ∀ As M P, mm_gl [(50, k_isRun), (119, k_holds)] 119 As M P = k_holds As M P := fun _ _ _ => rfl
    show mm_x (3, 4, some .boolean, false, 0, 0, none, false) prog_4_method_7_code (mm_gl [(50, k_isRun), (119, k_holds)]) (fun _ => none) Post 20 0 [some (.inr (.inr (some (14, i)))), some (.inl k), some (.inr (.inl x)), none] [] M 0 0
    simp (config := { maxSteps := 2000000 }) only [hG, hi, hk, ↓g50, ↓g119, ↓e_isRun, ↓e_holds, mk_50, mk_119, gm_14 hi, gm_15 hi, gm_16 hi, gm_17 hi, gm_18 hi, gm_19 hi, gm_20 hi, gr_14_2 hi, gr_14_3 hi, gr_14_4 hi, gr_14_5 hi, gr_14_6 hi, gr_14_7 hi, Bool.not_eq_false, Bool.not_eq_true, kn_0, kn_1, Classical.not_not, bn_0, bn_1, bi_n, bi_0, bi_f, xs_x, xs_kk, xs_s, xs_cutI, xs_c, xs_d, xs_o, xs_p1, xs_pI, xs_pL, xs_pR, xs_vI, xs_vL, xs_vQ, xs_lV0, xs_lVs, xs_pN0, xs_pNs, xs_k0, xs_0eq, xs_0ne, xs_0lt, xs_0ge, xs_0gt, xs_0le, xs_2eq, xs_2ne, xs_2lt, xs_2ge, xs_2gt, xs_2le, xs_catI, xs_catL, xs_catR, xs_sm0, xs_sm1, xs_tl1, xs_tl0, xs_nI, xs_fI, xs_putI, xs_putL, xs_putR, fv_0, fv_1, fv_2, fv_3, st1_0, st1_1I, st2_1I, st1_1L, st2_1L, st1_1R, st2_1R, st1_1N, st2_1N, st2_0, st1_s, st2_s, xi_iconst, xi_iload_n, xi_lload_n, xi_aload_n, xi_ifCond, xi_goto, xi_getfield, xi_iaload, xi_invokestatic, xi_invokevirtual, xi_ireturn, xs_ivS, xs_ivN, xs_call, k_ic_0, k_ic_1, gy_0, gm_0, gy_1, gm_1, gy_2, gl_2, gm_2, gy_3, gl_3, gm_3, gy_4, gl_4, gm_4, gy_5, gl_5, gm_5, gy_6, gl_6, gm_6, gy_7, gl_7, gm_7, gy_8, gl_8, gm_8, gy_9, gl_9, gm_9, gy_10, gl_10, gm_10, gy_11, gl_11, gm_11, gy_12, gm_12, gy_13, gl_13, gm_13, gy_14, gy_15, gl_15, gy_16, gl_16, gy_17, gl_17, gy_18, gl_18, gy_19, gl_19, gy_20, gl_20, gy_21, gm_21, gf_3_2, gs_1, gs_2, gs_3, gg_i, gg_z, gg_l, gg_o, gg_a, gi_s, gi_a, List.toList_toArray, Nat.reduceAdd, Int.reduceAdd, Nat.reduceLeDiff, Nat.reduceLT, Nat.reduceEqDiff, reduceIte, ne_eq, not_false_eq_true, true_imp_iff, false_imp_iff, not_true_eq_false, implies_true, Jvm.ClassFile.FieldType.object.injEq, exists_eq_left', exists_eq_left, decide_eq_true_eq, true_and, and_true, true_or, or_true, false_or, or_false, Nat.le_refl, forall_const, Fin.isValue, Fin.val_zero, Fin.val_one, reduceCtorEq, Nat.zero_add, Int.zero_add, Int.add_zero, Option.some.injEq, Sum.inl.injEq, Sum.inr.injEq, Prod.mk.injEq, and_self, eq_self, d51_0, d51_1, d51_2, d51_5, d51_8, d51_9, d51_12, d51_13, d51_14, d51_15, d51_18, d51_21, d51_22, d51_25, d51_26, fl_3_9, jn_3_69, mt_3_66, mt_3_69, jt_18_7, jt_22_4, jt_5_16, jp_18_7, jp_22_4, jp_5_16]
    repeat' (first | apply And.intro | with_reducible intro _)
    all_goals first | with_reducible exact h | (with_reducible contradiction) | (with_reducible assumption) | exact vin_c (by with_reducible assumption) (by with_reducible assumption) (by decide) | (simp only [s_takes, bi, *, reduceIte] at h; with_reducible exact h) | exact mm_pi h (by simp [s_takes, bi, *]) | exact mm_pl h (by simp [s_takes, bi, *]) | exact mm_pm h (by simp [s_takes, bi, *]) (by simp [s_takes, bi, *])
def s_was (M : mm_M) (i : Nat) (n : Int32) : Bool := !decide (M.1 17 i n.toNatClampNeg = 400)
def k_was : mm_Ct := fun As M Post => match As with
  | [.inr (.inr (some (14, i))), .inl n] => (M.2.2 = mm_gd) ∧ (i < 20) ∧ (vp_in n 60) ∧ Post (some (.inl (bi (s_was M i n)))) (M)
  | _ => False
theorem e_was {M : mm_M} {Post : Option mm_V → mm_M → Prop} {i : Nat} {n : Int32} : k_was [.inr (.inr (some (14, i))), .inl n] M Post = ((M.2.2 = mm_gd) ∧ (i < 20) ∧ (vp_in n 60) ∧ Post (some (.inl (bi (s_was M i n)))) (M)) := rfl
set_option maxRecDepth 100000 in
set_option maxHeartbeats 1000000 in
theorem v_was : mm_Vd l D dA sz 1 52 k_was := by
  intro As M Post h
  match As, h with
  | [.inr (.inr (some (14, i))), .inl n], h =>
    obtain ⟨hG, hi, hn, h⟩ := h
    refine mm_meth 52 (by decide) ⟨rfl, rfl, by decide, by decide⟩ mm_okN (Nat.le_of_ble_eq_true rfl) 15 ?_
    show mm_x (3, 2, some .boolean, false, 0, 0, none, false) prog_4_method_8_code (mm_gl []) (fun _ => none) Post 15 0 [some (.inr (.inr (some (14, i)))), some (.inl n)] [] M 0 0
    simp (config := { maxSteps := 2000000 }) only [hG, hi, hn, gm_14 hi, gm_15 hi, gm_16 hi, gm_17 hi, gm_18 hi, gm_19 hi, gm_20 hi, gr_14_2 hi, gr_14_3 hi, gr_14_4 hi, gr_14_5 hi, gr_14_6 hi, gr_14_7 hi, Bool.not_eq_false, Bool.not_eq_true, kn_0, kn_1, Classical.not_not, bn_0, bn_1, bi_n, bi_0, bi_f, xs_x, xs_kk, xs_s, xs_cutI, xs_c, xs_d, xs_o, xs_p1, xs_pI, xs_pL, xs_pR, xs_vI, xs_vL, xs_vQ, xs_lV0, xs_lVs, xs_pN0, xs_pNs, xs_k0, xs_0eq, xs_0ne, xs_0lt, xs_0ge, xs_0gt, xs_0le, xs_2eq, xs_2ne, xs_2lt, xs_2ge, xs_2gt, xs_2le, xs_catI, xs_catL, xs_catR, xs_sm0, xs_sm1, xs_tl1, xs_tl0, xs_nI, xs_fI, xs_putI, xs_putL, xs_putR, fv_0, fv_1, fv_2, fv_3, st1_0, st1_1I, st2_1I, st1_1L, st2_1L, st1_1R, st2_1R, st1_1N, st2_1N, st2_0, st1_s, st2_s, xi_iconst, xi_sipush, xi_iload_n, xi_aload_n, xi_if_icmp, xi_goto, xi_getfield, xi_iaload, xi_ireturn, xs_ivS, xs_ivN, xs_call, k_ic_0, k_ic_1, k_si_400, gy_0, gm_0, gy_1, gm_1, gy_2, gl_2, gm_2, gy_3, gl_3, gm_3, gy_4, gl_4, gm_4, gy_5, gl_5, gm_5, gy_6, gl_6, gm_6, gy_7, gl_7, gm_7, gy_8, gl_8, gm_8, gy_9, gl_9, gm_9, gy_10, gl_10, gm_10, gy_11, gl_11, gm_11, gy_12, gm_12, gy_13, gl_13, gm_13, gy_14, gy_15, gl_15, gy_16, gl_16, gy_17, gl_17, gy_18, gl_18, gy_19, gl_19, gy_20, gl_20, gy_21, gm_21, gf_3_4, gs_1, gs_2, gs_3, gg_i, gg_z, gg_l, gg_o, gg_a, gi_s, gi_a, List.toList_toArray, Nat.reduceAdd, Int.reduceAdd, Nat.reduceLeDiff, Nat.reduceLT, Nat.reduceEqDiff, reduceIte, ne_eq, not_false_eq_true, true_imp_iff, false_imp_iff, not_true_eq_false, implies_true, Jvm.ClassFile.FieldType.object.injEq, exists_eq_left', exists_eq_left, decide_eq_true_eq, true_and, and_true, true_or, or_true, false_or, or_false, Nat.le_refl, forall_const, Fin.isValue, Fin.val_zero, Fin.val_one, reduceCtorEq, Nat.zero_add, Int.zero_add, Int.add_zero, Option.some.injEq, Sum.inl.injEq, Sum.inr.injEq, Prod.mk.injEq, and_self, eq_self, d52_0, d52_1, d52_4, d52_5, d52_6, d52_9, d52_12, d52_13, d52_16, d52_17, fl_3_19, jt_13_4, jt_9_7, jp_13_4, jp_9_7]
    repeat' (first | apply And.intro | with_reducible intro _)
    all_goals first | with_reducible exact h | (with_reducible contradiction) | (with_reducible assumption) | exact vin_c (by with_reducible assumption) (by with_reducible assumption) (by decide) | (simp only [s_was, bi, *, reduceIte] at h; with_reducible exact h) | exact mm_pi h (by simp [s_was, bi, *]) | exact mm_pl h (by simp [s_was, bi, *]) | exact mm_pm h (by simp [s_was, bi, *]) (by simp [s_was, bi, *])
def s_find (M : mm_M) (i : Nat) (n t : Int32) : mm_M := mm_sI M 17 i n.toNatClampNeg t
def k_find : mm_Ct := fun As M Post => match As with
  | [.inr (.inr (some (14, i))), .inl n, .inl t] => (M.2.2 = mm_gd) ∧ (i < 20) ∧ (vp_in n 60) ∧ Post (some (.inl (1))) (s_find M i n t)
  | _ => False
theorem e_find {M : mm_M} {Post : Option mm_V → mm_M → Prop} {i : Nat} {n : Int32} {t : Int32} : k_find [.inr (.inr (some (14, i))), .inl n, .inl t] M Post = ((M.2.2 = mm_gd) ∧ (i < 20) ∧ (vp_in n 60) ∧ Post (some (.inl (1))) (s_find M i n t)) := rfl
set_option maxRecDepth 100000 in
set_option maxHeartbeats 1000000 in
theorem v_find : mm_Vd l D dA sz 1 53 k_find := by
  intro As M Post h
  match As, h with
  | [.inr (.inr (some (14, i))), .inl n, .inl t], h =>
    obtain ⟨hG, hi, hn, h⟩ := h
    refine mm_meth 53 (by decide) ⟨rfl, rfl, by decide, by decide⟩ mm_okN (Nat.le_of_ble_eq_true rfl) 12 ?_
    show mm_x (3, 3, some .boolean, false, 0, 0, none, false) prog_4_method_9_code (mm_gl []) (fun _ => none) Post 12 0 [some (.inr (.inr (some (14, i)))), some (.inl n), some (.inl t)] [] M 0 0
    simp (config := { maxSteps := 2000000 }) only [hG, hi, hn, gm_14 hi, gm_15 hi, gm_16 hi, gm_17 hi, gm_18 hi, gm_19 hi, gm_20 hi, gr_14_2 hi, gr_14_3 hi, gr_14_4 hi, gr_14_5 hi, gr_14_6 hi, gr_14_7 hi, Bool.not_eq_false, Bool.not_eq_true, kn_0, kn_1, Classical.not_not, bn_0, bn_1, bi_n, bi_0, bi_f, xs_x, xs_kk, xs_s, xs_cutI, xs_c, xs_d, xs_o, xs_p1, xs_pI, xs_pL, xs_pR, xs_vI, xs_vL, xs_vQ, xs_lV0, xs_lVs, xs_pN0, xs_pNs, xs_k0, xs_0eq, xs_0ne, xs_0lt, xs_0ge, xs_0gt, xs_0le, xs_2eq, xs_2ne, xs_2lt, xs_2ge, xs_2gt, xs_2le, xs_catI, xs_catL, xs_catR, xs_sm0, xs_sm1, xs_tl1, xs_tl0, xs_nI, xs_fI, xs_putI, xs_putL, xs_putR, fv_0, fv_1, fv_2, fv_3, st1_0, st1_1I, st2_1I, st1_1L, st2_1L, st1_1R, st2_1R, st1_1N, st2_1N, st2_0, st1_s, st2_s, xi_iconst, xi_iload_n, xi_aload_n, xi_getfield, xi_iastore, xi_ireturn, xs_ivS, xs_ivN, xs_call, k_ic_1, gy_0, gm_0, gy_1, gm_1, gy_2, gl_2, gm_2, gy_3, gl_3, gm_3, gy_4, gl_4, gm_4, gy_5, gl_5, gm_5, gy_6, gl_6, gm_6, gy_7, gl_7, gm_7, gy_8, gl_8, gm_8, gy_9, gl_9, gm_9, gy_10, gl_10, gm_10, gy_11, gl_11, gm_11, gy_12, gm_12, gy_13, gl_13, gm_13, gy_14, gy_15, gl_15, gy_16, gl_16, gy_17, gl_17, gy_18, gl_18, gy_19, gl_19, gy_20, gl_20, gy_21, gm_21, gf_3_4, gs_1, gs_2, gs_3, gg_i, gg_z, gg_l, gg_o, gg_a, gi_s, gi_a, List.toList_toArray, Nat.reduceAdd, Int.reduceAdd, Nat.reduceLeDiff, Nat.reduceLT, Nat.reduceEqDiff, reduceIte, ne_eq, not_false_eq_true, true_imp_iff, false_imp_iff, not_true_eq_false, implies_true, Jvm.ClassFile.FieldType.object.injEq, exists_eq_left', exists_eq_left, decide_eq_true_eq, true_and, and_true, true_or, or_true, false_or, or_false, Nat.le_refl, forall_const, Fin.isValue, Fin.val_zero, Fin.val_one, reduceCtorEq, Nat.zero_add, Int.zero_add, Int.add_zero, Option.some.injEq, Sum.inl.injEq, Sum.inr.injEq, Prod.mk.injEq, and_self, eq_self, d53_0, d53_1, d53_4, d53_5, d53_6, d53_7, d53_8, fl_3_19]
    repeat' (first | apply And.intro | with_reducible intro _)
    all_goals first | with_reducible exact h | (with_reducible contradiction) | (with_reducible assumption) | exact vin_c (by with_reducible assumption) (by with_reducible assumption) (by decide) | (simp only [*, reduceIte] at h; with_reducible exact h) | exact mm_pi h (by simp [*]) | exact mm_pl h (by simp [*]) | exact mm_pm h (by simp [*]) (by simp [*])
def s_findK (M : mm_M) (i : Nat) (n t : Int32) (x : Int64) : mm_M := mm_sL (mm_sI (mm_sI M 17 i n.toNatClampNeg t) 18 i n.toNatClampNeg 1) 19 i n.toNatClampNeg x
def k_findK : mm_Ct := fun As M Post => match As with
  | [.inr (.inr (some (14, i))), .inl n, .inl t, .inr (.inl x)] => (M.2.2 = mm_gd) ∧ (i < 20) ∧ (vp_in n 60) ∧ Post (some (.inl (1))) (s_findK M i n t x)
  | _ => False
theorem e_findK {M : mm_M} {Post : Option mm_V → mm_M → Prop} {i : Nat} {n : Int32} {t : Int32} {x : Int64} : k_findK [.inr (.inr (some (14, i))), .inl n, .inl t, .inr (.inl x)] M Post = ((M.2.2 = mm_gd) ∧ (i < 20) ∧ (vp_in n 60) ∧ Post (some (.inl (1))) (s_findK M i n t x)) := rfl
set_option maxRecDepth 100000 in
set_option maxHeartbeats 1000000 in
theorem v_findK : mm_Vd l D dA sz 1 54 k_findK := by
  intro As M Post h
  match As, h with
  | [.inr (.inr (some (14, i))), .inl n, .inl t, .inr (.inl x)], h =>
    obtain ⟨hG, hi, hn, h⟩ := h
    refine mm_meth 54 (by decide) ⟨rfl, rfl, by decide, by decide⟩ mm_okN (Nat.le_of_ble_eq_true rfl) 22 ?_
    show mm_x (3, 5, some .boolean, false, 0, 0, none, false) prog_4_method_10_code (mm_gl []) (fun _ => none) Post 22 0 [some (.inr (.inr (some (14, i)))), some (.inl n), some (.inl t), some (.inr (.inl x)), none] [] M 0 0
    simp (config := { maxSteps := 2000000 }) only [hG, hi, hn, gm_14 hi, gm_15 hi, gm_16 hi, gm_17 hi, gm_18 hi, gm_19 hi, gm_20 hi, gr_14_2 hi, gr_14_3 hi, gr_14_4 hi, gr_14_5 hi, gr_14_6 hi, gr_14_7 hi, b11, Bool.not_eq_false, Bool.not_eq_true, kn_0, kn_1, Classical.not_not, bn_0, bn_1, bi_n, bi_0, bi_f, xs_x, xs_kk, xs_s, xs_cutI, xs_c, xs_d, xs_o, xs_p1, xs_pI, xs_pL, xs_pR, xs_vI, xs_vL, xs_vQ, xs_lV0, xs_lVs, xs_pN0, xs_pNs, xs_k0, xs_0eq, xs_0ne, xs_0lt, xs_0ge, xs_0gt, xs_0le, xs_2eq, xs_2ne, xs_2lt, xs_2ge, xs_2gt, xs_2le, xs_catI, xs_catL, xs_catR, xs_sm0, xs_sm1, xs_tl1, xs_tl0, xs_nI, xs_fI, xs_putI, xs_putL, xs_putR, fv_0, fv_1, fv_2, fv_3, st1_0, st1_1I, st2_1I, st1_1L, st2_1L, st1_1R, st2_1R, st1_1N, st2_1N, st2_0, st1_s, st2_s, xi_iconst, xi_iload_n, xi_lload_n, xi_aload_n, xi_getfield, xi_iastore, xi_bastore, xi_lastore, xi_ireturn, xs_ivS, xs_ivN, xs_call, k_ic_1, gy_0, gm_0, gy_1, gm_1, gy_2, gl_2, gm_2, gy_3, gl_3, gm_3, gy_4, gl_4, gm_4, gy_5, gl_5, gm_5, gy_6, gl_6, gm_6, gy_7, gl_7, gm_7, gy_8, gl_8, gm_8, gy_9, gl_9, gm_9, gy_10, gl_10, gm_10, gy_11, gl_11, gm_11, gy_12, gm_12, gy_13, gl_13, gm_13, gy_14, gy_15, gl_15, gy_16, gl_16, gy_17, gl_17, gy_18, gl_18, gy_19, gl_19, gy_20, gl_20, gy_21, gm_21, gf_3_4, gf_3_5, gf_3_6, gs_1, gs_2, gs_3, gg_i, gg_z, gg_l, gg_o, gg_a, gi_s, gi_a, List.toList_toArray, Nat.reduceAdd, Int.reduceAdd, Nat.reduceLeDiff, Nat.reduceLT, Nat.reduceEqDiff, reduceIte, ne_eq, not_false_eq_true, true_imp_iff, false_imp_iff, not_true_eq_false, implies_true, Jvm.ClassFile.FieldType.object.injEq, exists_eq_left', exists_eq_left, decide_eq_true_eq, true_and, and_true, true_or, or_true, false_or, or_false, Nat.le_refl, forall_const, Fin.isValue, Fin.val_zero, Fin.val_one, reduceCtorEq, Nat.zero_add, Int.zero_add, Int.add_zero, Option.some.injEq, Sum.inl.injEq, Sum.inr.injEq, Prod.mk.injEq, and_self, eq_self, d54_0, d54_1, d54_4, d54_5, d54_6, d54_7, d54_8, d54_11, d54_12, d54_13, d54_14, d54_15, d54_18, d54_19, d54_20, d54_21, d54_22, fl_3_19, fl_3_22, fl_3_26]
    repeat' (first | apply And.intro | with_reducible intro _)
    all_goals first | with_reducible exact h | (with_reducible contradiction) | (with_reducible assumption) | exact vin_c (by with_reducible assumption) (by with_reducible assumption) (by decide) | (simp only [*, reduceIte] at h; with_reducible exact h) | exact mm_pi h (by simp [*]) | exact mm_pl h (by simp [*]) | exact mm_pm h (by simp [*]) (by simp [*])
def s_findS (M : mm_M) (i : Nat) (n o : Int32) : mm_M := mm_sL (mm_sI (mm_sI M 17 i n.toNatClampNeg (M.1 17 i o.toNatClampNeg)) 18 i n.toNatClampNeg (M.1 18 i o.toNatClampNeg &&& 1)) 19 i n.toNatClampNeg (M.2.1 19 i o.toNatClampNeg)
def k_findS : mm_Ct := fun As M Post => match As with
  | [.inr (.inr (some (14, i))), .inl n, .inl o] => (M.2.2 = mm_gd) ∧ (i < 20) ∧ (vp_in n 60) ∧ (vp_in o 60) ∧ Post (some (.inl (1))) (s_findS M i n o)
  | _ => False
theorem e_findS {M : mm_M} {Post : Option mm_V → mm_M → Prop} {i : Nat} {n : Int32} {o : Int32} : k_findS [.inr (.inr (some (14, i))), .inl n, .inl o] M Post = ((M.2.2 = mm_gd) ∧ (i < 20) ∧ (vp_in n 60) ∧ (vp_in o 60) ∧ Post (some (.inl (1))) (s_findS M i n o)) := rfl
set_option maxRecDepth 100000 in
set_option maxHeartbeats 1000000 in
theorem v_findS : mm_Vd l D dA sz 1 55 k_findS := by
  intro As M Post h
  match As, h with
  | [.inr (.inr (some (14, i))), .inl n, .inl o], h =>
    obtain ⟨hG, hi, hn, ho, h⟩ := h
    refine mm_meth 55 (by decide) ⟨rfl, rfl, by decide, by decide⟩ mm_okN (Nat.le_of_ble_eq_true rfl) 31 ?_
    show mm_x (3, 3, some .boolean, false, 0, 0, none, false) prog_4_method_11_code (mm_gl []) (fun _ => none) Post 31 0 [some (.inr (.inr (some (14, i)))), some (.inl n), some (.inl o)] [] M 0 0
    simp (config := { maxSteps := 2000000 }) only [hG, hi, hn, ho, gm_14 hi, gm_15 hi, gm_16 hi, gm_17 hi, gm_18 hi, gm_19 hi, gm_20 hi, gr_14_2 hi, gr_14_3 hi, gr_14_4 hi, gr_14_5 hi, gr_14_6 hi, gr_14_7 hi, Bool.not_eq_false, Bool.not_eq_true, kn_0, kn_1, Classical.not_not, bn_0, bn_1, bi_n, bi_0, bi_f, xs_x, xs_kk, xs_s, xs_cutI, xs_c, xs_d, xs_o, xs_p1, xs_pI, xs_pL, xs_pR, xs_vI, xs_vL, xs_vQ, xs_lV0, xs_lVs, xs_pN0, xs_pNs, xs_k0, xs_0eq, xs_0ne, xs_0lt, xs_0ge, xs_0gt, xs_0le, xs_2eq, xs_2ne, xs_2lt, xs_2ge, xs_2gt, xs_2le, xs_catI, xs_catL, xs_catR, xs_sm0, xs_sm1, xs_tl1, xs_tl0, xs_nI, xs_fI, xs_putI, xs_putL, xs_putR, fv_0, fv_1, fv_2, fv_3, st1_0, st1_1I, st2_1I, st1_1L, st2_1L, st1_1R, st2_1R, st1_1N, st2_1N, st2_0, st1_s, st2_s, xi_iconst, xi_iload_n, xi_aload_n, xi_getfield, xi_iaload, xi_baload, xi_laload, xi_iastore, xi_bastore, xi_lastore, xi_ireturn, xs_ivS, xs_ivN, xs_call, k_ic_1, gy_0, gm_0, gy_1, gm_1, gy_2, gl_2, gm_2, gy_3, gl_3, gm_3, gy_4, gl_4, gm_4, gy_5, gl_5, gm_5, gy_6, gl_6, gm_6, gy_7, gl_7, gm_7, gy_8, gl_8, gm_8, gy_9, gl_9, gm_9, gy_10, gl_10, gm_10, gy_11, gl_11, gm_11, gy_12, gm_12, gy_13, gl_13, gm_13, gy_14, gy_15, gl_15, gy_16, gl_16, gy_17, gl_17, gy_18, gl_18, gy_19, gl_19, gy_20, gl_20, gy_21, gm_21, gf_3_4, gf_3_5, gf_3_6, gs_1, gs_2, gs_3, gg_i, gg_z, gg_l, gg_o, gg_a, gi_s, gi_a, List.toList_toArray, Nat.reduceAdd, Int.reduceAdd, Nat.reduceLeDiff, Nat.reduceLT, Nat.reduceEqDiff, reduceIte, ne_eq, not_false_eq_true, true_imp_iff, false_imp_iff, not_true_eq_false, implies_true, Jvm.ClassFile.FieldType.object.injEq, exists_eq_left', exists_eq_left, decide_eq_true_eq, true_and, and_true, true_or, or_true, false_or, or_false, Nat.le_refl, forall_const, Fin.isValue, Fin.val_zero, Fin.val_one, reduceCtorEq, Nat.zero_add, Int.zero_add, Int.add_zero, Option.some.injEq, Sum.inl.injEq, Sum.inr.injEq, Prod.mk.injEq, and_self, eq_self, d55_0, d55_1, d55_4, d55_5, d55_6, d55_9, d55_10, d55_11, d55_12, d55_13, d55_16, d55_17, d55_18, d55_21, d55_22, d55_23, d55_24, d55_25, d55_28, d55_29, d55_30, d55_33, d55_34, d55_35, d55_36, d55_37, fl_3_19, fl_3_22, fl_3_26]
    exact mm_pm h rfl (by simp [s_findS, gs_4, gs_3, gs_1, mm_u])
end MMD
