/-! the reference, compile -/
section MMD
variable {l : Launch} {D : va_G} {dA : FieldType → ClassId} {sz : Nat}
theorem desc_ok {j : Nat} (h20 : j ≤ 20) : ∀ (L : Nat) (M : mm_M) (n : Int32), JR M → nI j < M.1 30 0 3 → s_hasNode M n = true → lv M n ≤ (L : Int) → KO M (t_desc (nI j) L M n).2 ∧ s_hasNode M (t_desc (nI j) L M n).1 = true ∧ ((t_desc (nI j) L M n).2.1 30 0 1 = 0 → (t_desc (nI j) L M n).2.1 2 0 (t_desc (nI j) L M n).1.toNatClampNeg = 15 → t_argsWrong (t_desc (nI j) L M n).2 (t_desc (nI j) L M n).1 = false)
  | 0, M, n, hJ, hj, hn, hl => by
    have := (hJ.2.1.2.2.1 n hn).1
    exact absurd hl (by omega)
  | L + 1, M, n, hJ, hj, hn, hl => by
    obtain ⟨xN, j20, hf⟩ := hJ.nr hj h20 hn
    show KO M (t_descR (t_desc (nI j) L) n (t_needs M (nI j) n)).2 ∧ s_hasNode M (t_descR (t_desc (nI j) L) n (t_needs M (nI j) n)).1 = true ∧ ((t_descR (t_desc (nI j) L) n (t_needs M (nI j) n)).2.1 30 0 1 = 0 → (t_descR (t_desc (nI j) L) n (t_needs M (nI j) n)).2.1 2 0 (t_descR (t_desc (nI j) L) n (t_needs M (nI j) n)).1.toNatClampNeg = 15 → t_argsWrong (t_descR (t_desc (nI j) L) n (t_needs M (nI j) n)).2 (t_descR (t_desc (nI j) L) n (t_needs M (nI j) n)).1 = false)
    unfold t_descR
    split
    · rename_i q
      obtain ⟨ok, e⟩ := needs_ok xN q
      rw [e]
      refine desc_ok h20 L M _ hJ hj ok.1 ?_
      have h1 := ok.2
      have h2 : ((L + 1 : Nat) : Int) = (L : Int) + 1 := by omega
      omega
    · have kn : KO M (t_needs M (nI j) n).2 := needs_keep
      refine ⟨kn, hn, fun z z15 => ?_⟩
      rw [show (n, (t_needs M (nI j) n).2).2 = (t_needs M (nI j) n).2 from rfl, kn.1.2.1 2 (by decide)] at z15
      exact needs_15 z z15
theorem turnE_keep {j : Nat} (h20 : j ≤ 20) {root : Int32} {M : mm_M} (hJ : JR M) (hj : nI j < M.1 30 0 3) (hn : s_hasNode M root = true) (hT : TE (nI j) (t_desc (nI j) 8 M root)) : JR (t_turnE (nI j) (t_desc (nI j) 8 M root)) ∧ nI j < (t_turnE (nI j) (t_desc (nI j) 8 M root)).1 30 0 3 ∧ KR M (t_turnE (nI j) (t_desc (nI j) 8 M root)) := by
  obtain ⟨kd, hd, h15⟩ := desc_ok h20 8 M root hJ hj hn (hJ.2.1.2.2.1 root hn).2.1
  have jd := hJ.ko kd
  have cd : nI j < (t_desc (nI j) 8 M root).2.1 30 0 3 := by rw [kd.2.2]; exact hj
  unfold t_turnE
  split
  · rename_i q
    have lq := lq_of q hT h15
    obtain ⟨xN, -, -⟩ := jd.nr cd h20 ((kp_hasNode kd.1.kp _).trans hd)
    exact ⟨jd.look xN lq, look_cnt jd.2.2.2 cd h20, kd.1.tr (look_keep xN lq).1⟩
  · exact ⟨jd, cd, kd.1⟩
theorem turns_keep {j : Nat} (h20 : j ≤ 20) {root : Int32} : ∀ (k : Nat) (M : mm_M), JR M → nI j < M.1 30 0 3 → s_hasNode M root = true → TB (nI j) root k M → JR (t_turns (nI j) root k M) ∧ nI j < (t_turns (nI j) root k M).1 30 0 3 ∧ KR M (t_turns (nI j) root k M)
  | 0, M, hJ, hj, hn, hT => ⟨hJ, hj, KR.rf⟩
  | k + 1, M, hJ, hj, hn, hT => by
    unfold t_turns
    split
    · rename_i q
      obtain ⟨t1, t2⟩ := hT q.1 q.2
      obtain ⟨a1, a2, a3⟩ := turnE_keep h20 hJ hj hn t1
      obtain ⟨b1, b2, b3⟩ := turns_keep h20 k _ a1 a2 ((kp_hasNode a3.kp _).trans hn) t2
      exact ⟨b1, b2, a3.tr b3⟩
    · exact ⟨hJ, hj, KR.rf⟩
theorem bodyE_keep {i root : Int32} {M : mm_M} : KO M (t_bodyE i root M) := by
  unfold t_bodyE
  split
  · exact KO.goes
  · exact KO.rf
theorem body_keep {j : Nat} (h20 : j ≤ 20) {M : mm_M} (hJ : JR M) (hj : nI j < M.1 30 0 3) (hT : TB (nI j) (M.1 11 0 (M.1 41 0 (nI j).toNatClampNeg).toNatClampNeg) 61 M) : JR (t_body M (nI j)) ∧ nI j < (t_body M (nI j)).1 30 0 3 ∧ KR M (t_body M (nI j)) := by
  obtain ⟨c, hc1, hc2, hc3⟩ := hJ.2.2.2
  have hjc : j < c := Nat.not_le.mp fun z => absurd (hc2 ▸ hj) (nI_nlt z (by omega))
  have hroot : s_hasNode M (M.1 11 0 (M.1 41 0 (nI j).toNatClampNeg).toNatClampNeg) = true := by
    rw [nI_clamp (by omega)]
    exact (hJ.2.1.2.2.2 _ (hc3 j hjc)).1
  obtain ⟨a1, a2, a3⟩ := turns_keep h20 61 M hJ hj hroot hT
  have kE := bodyE_keep (i := nI j) (root := M.1 11 0 (M.1 41 0 (nI j).toNatClampNeg).toNatClampNeg) (M := t_turns (nI j) (M.1 11 0 (M.1 41 0 (nI j).toNatClampNeg).toNatClampNeg) 61 M)
  exact ⟨a1.ko kE, (by unfold t_body; rw [kE.2.2]; exact a2), a3.tr kE.1⟩
def t_all : Nat → mm_M → mm_M
  | 0, M => M
  | k + 1, M => if nI (20 - (k + 1)) < M.1 30 0 3 ∧ M.1 30 0 1 = 0 then t_all k (t_body M (nI (20 - (k + 1)))) else M
def TA : Nat → mm_M → Prop
  | 0, _ => True
  | k + 1, M => nI (20 - (k + 1)) < M.1 30 0 3 → M.1 30 0 1 = 0 → TB (nI (20 - (k + 1))) (M.1 11 0 (M.1 41 0 (nI (20 - (k + 1))).toNatClampNeg).toNatClampNeg) 61 M ∧ TA k (t_body M (nI (20 - (k + 1))))
def t_cmp0 (M : mm_M) : mm_M := mm_sI (mm_sI (mm_sI M 30 0 3 0) 30 0 1 0) 30 0 2 (-1)
def t_cmpE (M : mm_M) : Int32 × mm_M := if M.1 30 0 1 = 0 then (M.1 30 0 3, M) else (M.1 30 0 1, mm_sI M 30 0 3 0)
def t_compile (M : mm_M) (f v w : Int32) : Int32 × mm_M := if s_hasFun M f = true then t_cmpE (t_all 20 (t_want (t_cmp0 M) 0 63 f v.toInt64 w.toInt64).2) else (-1, M)
theorem KR.cmp0 {M : mm_M} : KR M (t_cmp0 M) := ((KR.rf.sI (Or.inr ⟨rfl, by decide⟩)).sI (Or.inr ⟨rfl, by decide⟩)).sI (Or.inr ⟨rfl, by decide⟩)
theorem IR.cmp0 {M : mm_M} : IR (t_cmp0 M) := ⟨0, by decide, rfl, fun j hj => absurd hj (Nat.not_lt_zero j)⟩
theorem JR.cmp0 {M : mm_M} (h1 : M.2.2 = mm_gd) (h2 : IP M) (h3 : SP M) : JR (t_cmp0 M) := ⟨h1, h2.kp KR.cmp0.kp, KR.cmp0.sp h3, IR.cmp0⟩
theorem JR.want {M : mm_M} {i n f : Int32} {v w : Int64} (h : JR M) (hf : s_hasFun M f = true) : JR (t_want M i n f v w).2 := by
  have k := (KW.want (f := f) (M := M) (i := i) (n := n) (v := v) (w := w)).1
  exact ⟨k.1.trans h.1, h.2.1.kp k.kp, k.sp h.2.2.1, h.2.2.2.want hf⟩
theorem fun_c {M : mm_M} {f : Int32} (h1 : ¬ f < 0) (h2 : ¬ 7 < f) (h3 : ¬ M.1 7 0 f.toNatClampNeg = 0) : s_hasFun M f = true := by
  simp only [s_hasFun, Bool.and_eq_true, Bool.not_eq_true', decide_eq_false_iff_not]
  refine ⟨⟨h1, fun q => h2 ?_⟩, h3⟩
  rw [Int32.le_iff_toInt_le, show (8 : Int32).toInt = 8 by decide] at q
  rw [Int32.lt_iff_toInt_lt, show (7 : Int32).toInt = 7 by decide]
  omega
theorem fun_n {M : mm_M} {f : Int32} (h : f < 0 ∨ 7 < f ∨ M.1 7 0 f.toNatClampNeg = 0) : s_hasFun M f = false := by
  rw [Bool.eq_false_iff]
  intro q
  simp only [s_hasFun, Bool.and_eq_true, Bool.not_eq_true', decide_eq_false_iff_not] at q
  rcases h with h | h | h
  · exact q.1.1 h
  · refine q.1.2 ?_
    rw [Int32.le_iff_toInt_le, show (8 : Int32).toInt = 8 by decide]
    rw [Int32.lt_iff_toInt_lt, show (7 : Int32).toInt = 7 by decide] at h
    omega
  · exact q.2 h
def k_qcompile : mm_Ct := fun As M Post => match As with
  | [.inr (.inr (some (30, 0))), .inl f, .inl v, .inl w] => (M.2.2 = mm_gd) ∧ (IP M) ∧ (SP M) ∧ (s_hasFun M f = true → TA 20 (t_want (t_cmp0 M) 0 63 f v.toInt64 w.toInt64).2) ∧ Post (some (.inl (t_compile M f v w).1)) (t_compile M f v w).2
  | _ => False
theorem e_qcompile {M : mm_M} {Post : Option mm_V → mm_M → Prop} {f : Int32} {v : Int32} {w : Int32} : k_qcompile [.inr (.inr (some (30, 0))), .inl f, .inl v, .inl w] M Post = ((M.2.2 = mm_gd) ∧ (IP M) ∧ (SP M) ∧ (s_hasFun M f = true → TA 20 (t_want (t_cmp0 M) 0 63 f v.toInt64 w.toInt64).2) ∧ Post (some (.inl (t_compile M f v w).1)) (t_compile M f v w).2) := rfl
def p_qcompile (f v w : Int32) (Post : Option mm_V → mm_M → Prop) : Nat → Nat → mm_X := fun k pc ls st M a b => a = 0 ∧ b = 0 ∧ (match pc with
  | 52 => st = [] ∧ k ≤ 20 ∧ JR M ∧ ls = [some (.inr (.inr (some (30, 0)))), some (.inl f), some (.inl v), some (.inl w), some (.inl (nI (20 - k)))] ∧ TA k M ∧ Post (some (.inl (t_cmpE (t_all k M)).1)) (t_cmpE (t_all k M)).2
  | _ => False)
set_option maxRecDepth 100000 in
set_option maxHeartbeats 4000000 in
theorem v_qcompile : mm_Vd l D dA sz 7 91 k_qcompile := by
  intro As M Post h
  match As, h with
  | [.inr (.inr (some (30, 0))), .inl f, .inl v, .inl w], h =>
    obtain ⟨hG, hp, xS, xT, h⟩ := h
    have g85 : ∀ As M P, mm_gl [(85, k_qwant), (90, k_qbody)] 85 As M P = k_qwant As M P := fun _ _ _ => rfl
    have g90 : ∀ As M P, mm_gl [(85, k_qwant), (90, k_qbody)] 90 As M P = k_qbody As M P := fun _ _ _ => rfl
    refine mm_methL 91 (by decide) ⟨rfl, rfl, by decide, by decide⟩ (mm_okC v_qwant (by decide) (by decide) (mm_okC v_qbody (by decide) (by decide) mm_okN)) (Nat.le_of_ble_eq_true rfl) (fun pc => decide (pc = 52)) (p_qcompile f v w Post) 60 60 21 ?_ ?_
    · show mm_x (5, 5, some .int, false, 0, 0, none, false) prog_10_method_31_code (mm_gl [(85, k_qwant), (90, k_qbody)]) (mm_cutI (fun pc => decide (pc = 52)) (p_qcompile f v w Post) 21) Post 60 0 [some (.inr (.inr (some (30, 0)))), some (.inl f), some (.inl v), some (.inl w), none] [] M 0 0
      obtain ⟨s0, s1, s2, s3, s4, s5, s6, s7, s8, s9, s10⟩ := xS
      have xS : SP M := ⟨s0, s1, s2, s3, s4, s5, s6, s7, s8, s9, s10⟩
      by_cases q : s_hasFun M f = true
      · have f8 := s_hasFun_in q
        simp only [s_hasFun, Bool.and_eq_true, Bool.not_eq_true', decide_eq_false_iff_not] at q
        obtain ⟨⟨p1, p2⟩, p3⟩ := q
        have p7 : ¬ 7 < f := fun z => p2 (by
          rw [Int32.le_iff_toInt_le, show (8 : Int32).toInt = 8 by decide]
          rw [Int32.lt_iff_toInt_lt, show (7 : Int32).toInt = 7 by decide] at z
          omega)
        have q := fun_c p1 p7 p3
        simp only [t_compile, q, if_true] at h
        have j0 := JR.cmp0 hG hp xS
        have j1 := j0.want (i := 0) (n := 63) (v := v.toInt64) (w := w.toInt64) ((kp_hasFun KR.cmp0.kp f).trans q)
        have S0 := j0.2.2.1
        have G0 := j0.1
        have G1 := j1.1
        have hc : ∃ c, c ≤ 20 ∧ (t_cmp0 M).1 30 0 3 = nI c := ⟨0, by decide, rfl⟩
        have i0 : vp_in 0 20 := vp_in_iff.mpr (by decide)
        have go : ∃ k1, k1 < 21 ∧ p_qcompile f v w Post k1 52 [some (.inr (.inr (some (30, 0)))), some (.inl f), some (.inl v), some (.inl w), some (.inl 0)] [] (t_want (t_cmp0 M) 0 63 f v.toInt64 w.toInt64).2 0 0 := ⟨20, by decide, rfl, rfl, rfl, Nat.le_refl _, j1, rfl, xT q, h⟩
        unfold t_cmp0 at S0 G0 G1 hc go
        simp (config := { maxSteps := 2000000 }) only [hG, f8, p1, p7, p3, S0, G0, G1, hc, i0, ↓g85, ↓e_qwant, mk_85, s0, s1, s2, s3, s4, s5, s6, s7, s8, s9, s10, ↓pr_f, ↓xs_cT, ↓xs_cF, ↓lf_0, ↓lf_1, ↓lf_2, ↓lf_3, Bool.not_eq_false, Bool.not_eq_true, kn_0, kn_1, Classical.not_not, bn_0, bn_1, bi_n, bi_0, bi_f, ↓xs_x, ↓xs_kk, xs_s, ↓xs_c, xs_o, ↓xs_p1, ↓xs_pI, ↓xs_pL, ↓xs_pR, ↓xs_vI, ↓xs_vL, ↓xs_vQ, ↓xs_lV0, ↓xs_lVs, ↓xs_pN0, ↓xs_pNs, xs_k0, xs_0eq, xs_0ne, xs_0lt, xs_0ge, xs_0gt, xs_0le, xs_2eq, xs_2ne, xs_2lt, xs_2ge, xs_2gt, xs_2le, xs_catI, xs_catL, xs_catR, xs_sm0, xs_sm1, xs_tl1, xs_tl0, xs_nI, xs_fI, ↓xs_putI, ↓xs_putL, ↓xs_putR, fv_0, fv_1, fv_2, fv_3, st1_0, st1_1I, st2_1I, st1_1L, st2_1L, st1_1R, st2_1R, st1_1N, st2_1N, st2_0, st1_s, st2_s, xi_iconst, xi_bipush, xi_iload_n, xi_iload, xi_aload_n, xi_istore, xi_iinc, xi_i2l, xi_pop, xi_ifCond, xi_if_icmp, xi_goto, xi_baload, xi_ireturn, xs_ivS, xs_ivN, xs_call, k_ic_m1, k_ic_0, k_ic_1, k_bi_7, k_bi_63, gy_30, gm_30, gy_31, gl_31, gm_31, gy_32, gl_32, gm_32, gy_33, gl_33, gm_33, gy_34, gl_34, gm_34, gy_35, gl_35, gm_35, gy_36, gl_36, gm_36, gy_37, gl_37, gm_37, gy_38, gl_38, gm_38, gy_39, gl_39, gm_39, gy_40, gl_40, gm_40, gy_41, gl_41, gm_41, gy_42, gl_42, gm_42, gy_43, gl_43, gm_43, gy_44, gl_44, gm_44, gy_45, gl_45, gm_45, gy_46, gl_46, gm_46, gy_47, gl_47, gm_47, gy_48, gl_48, gm_48, gy_49, gl_49, gm_49, gy_50, gl_50, gm_50, gy_51, gl_51, gm_51, gy_52, gl_52, gm_52, gy_53, gl_53, gm_53, gy_54, gl_54, gm_54, gy_55, gl_55, gm_55, gy_56, gl_56, gm_56, gy_57, gl_57, gm_57, gm_999, gr_30_10, gf_5_1, gn_5_1, gq_5_1, gf_5_2, gn_5_2, gq_5_2, gf_5_3, gn_5_3, gq_5_3, gf_5_10, gn_5_10, gq_5_10, gs_1, gs_2, gs_3, gg_i, gg_z, gg_l, gg_o, gg_a, gi_s, gi_a, List.toList_toArray, Nat.reduceAdd, Int.reduceAdd, Nat.reduceLeDiff, Nat.reduceLT, Nat.reduceEqDiff, ↓reduceIte, ne_eq, not_false_eq_true, true_imp_iff, false_imp_iff, not_true_eq_false, implies_true, Jvm.ClassFile.FieldType.object.injEq, exists_eq_left', exists_eq_left, decide_eq_true_eq, true_and, and_true, true_or, or_true, false_or, or_false, Nat.le_refl, forall_const, Fin.isValue, Fin.val_zero, Fin.val_one, reduceCtorEq, Nat.zero_add, Int.zero_add, Int.add_zero, Option.some.injEq, Sum.inl.injEq, Sum.inr.injEq, Prod.mk.injEq, and_self, eq_self, xg_f fl_5_13, xg_f fl_5_19, xg_f fl_5_41, xp_f fl_5_13, xp_f fl_5_16, xp_f fl_5_19, xv_f mt_5_196, xv_f mt_5_226, d91_0, d91_1, d91_4, d91_5, d91_7, d91_10, d91_11, d91_14, d91_15, d91_16, d91_19, d91_20, d91_21, d91_22, d91_23, d91_26, d91_27, d91_28, d91_31, d91_32, d91_33, d91_36, d91_37, d91_38, d91_40, d91_41, d91_42, d91_43, d91_44, d91_45, d91_48, d91_49, d91_50, d91_52, d91_54, d91_55, d91_58, d91_61, d91_62, d91_65, d91_68, d91_69, d91_71, d91_74, d91_77, d91_80, d91_81, d91_84, d91_87, d91_88, d91_91, d91_92, d91_93, d91_94, d91_97, d91_98, d91_101, fl_5_13, fl_5_16, fl_5_19, fl_5_41, mt_5_196, mt_5_226, jt_16_5, jt_1_18, jt_58_22, jt_65_15, jt_77_m25, jt_7_12, jt_84_8, jp_16_5, jp_1_18, jp_58_22, jp_65_15, jp_77_m25, jp_7_12, jp_84_8]
        first | exact go
      · have q' : s_hasFun M f = false := by simpa using q
        simp only [t_compile, q', if_false, Bool.false_eq_true] at h
        simp (config := { maxSteps := 2000000 }) only [hG, s0, s1, s2, s3, s4, s5, s6, s7, s8, s9, s10, ↓pr_f, ↓xs_cT, ↓xs_cF, ↓lf_0, ↓lf_1, ↓lf_2, ↓lf_3, Bool.not_eq_false, Bool.not_eq_true, kn_0, kn_1, Classical.not_not, bn_0, bn_1, bi_n, bi_0, bi_f, ↓xs_x, ↓xs_kk, xs_s, ↓xs_c, xs_o, ↓xs_p1, ↓xs_pI, ↓xs_pL, ↓xs_pR, ↓xs_vI, ↓xs_vL, ↓xs_vQ, ↓xs_lV0, ↓xs_lVs, ↓xs_pN0, ↓xs_pNs, xs_k0, xs_0eq, xs_0ne, xs_0lt, xs_0ge, xs_0gt, xs_0le, xs_2eq, xs_2ne, xs_2lt, xs_2ge, xs_2gt, xs_2le, xs_catI, xs_catL, xs_catR, xs_sm0, xs_sm1, xs_tl1, xs_tl0, xs_nI, xs_fI, ↓xs_putI, ↓xs_putL, ↓xs_putR, fv_0, fv_1, fv_2, fv_3, st1_0, st1_1I, st2_1I, st1_1L, st2_1L, st1_1R, st2_1R, st1_1N, st2_1N, st2_0, st1_s, st2_s, xi_iconst, xi_bipush, xi_iload_n, xi_iload, xi_aload_n, xi_istore, xi_iinc, xi_i2l, xi_pop, xi_ifCond, xi_if_icmp, xi_goto, xi_baload, xi_ireturn, xs_ivS, xs_ivN, xs_call, k_ic_m1, k_ic_0, k_ic_1, k_bi_7, k_bi_63, gy_30, gm_30, gy_31, gl_31, gm_31, gy_32, gl_32, gm_32, gy_33, gl_33, gm_33, gy_34, gl_34, gm_34, gy_35, gl_35, gm_35, gy_36, gl_36, gm_36, gy_37, gl_37, gm_37, gy_38, gl_38, gm_38, gy_39, gl_39, gm_39, gy_40, gl_40, gm_40, gy_41, gl_41, gm_41, gy_42, gl_42, gm_42, gy_43, gl_43, gm_43, gy_44, gl_44, gm_44, gy_45, gl_45, gm_45, gy_46, gl_46, gm_46, gy_47, gl_47, gm_47, gy_48, gl_48, gm_48, gy_49, gl_49, gm_49, gy_50, gl_50, gm_50, gy_51, gl_51, gm_51, gy_52, gl_52, gm_52, gy_53, gl_53, gm_53, gy_54, gl_54, gm_54, gy_55, gl_55, gm_55, gy_56, gl_56, gm_56, gy_57, gl_57, gm_57, gm_999, gr_30_10, gf_5_1, gn_5_1, gq_5_1, gf_5_2, gn_5_2, gq_5_2, gf_5_3, gn_5_3, gq_5_3, gf_5_10, gn_5_10, gq_5_10, gs_1, gs_2, gs_3, gg_i, gg_z, gg_l, gg_o, gg_a, gi_s, gi_a, List.toList_toArray, Nat.reduceAdd, Int.reduceAdd, Nat.reduceLeDiff, Nat.reduceLT, Nat.reduceEqDiff, ↓reduceIte, ne_eq, not_false_eq_true, true_imp_iff, false_imp_iff, not_true_eq_false, implies_true, Jvm.ClassFile.FieldType.object.injEq, exists_eq_left', exists_eq_left, decide_eq_true_eq, true_and, and_true, true_or, or_true, false_or, or_false, Nat.le_refl, forall_const, Fin.isValue, Fin.val_zero, Fin.val_one, reduceCtorEq, Nat.zero_add, Int.zero_add, Int.add_zero, Option.some.injEq, Sum.inl.injEq, Sum.inr.injEq, Prod.mk.injEq, and_self, eq_self, xg_f fl_5_13, xg_f fl_5_19, xg_f fl_5_41, xp_f fl_5_13, xp_f fl_5_16, xp_f fl_5_19, xv_f mt_5_196, xv_f mt_5_226, d91_0, d91_1, d91_4, d91_5, d91_7, d91_10, d91_11, d91_14, d91_15, d91_16, d91_19, d91_20, d91_21, d91_22, d91_23, d91_26, d91_27, d91_28, d91_31, d91_32, d91_33, d91_36, d91_37, d91_38, d91_40, d91_41, d91_42, d91_43, d91_44, d91_45, d91_48, d91_49, d91_50, d91_52, d91_54, d91_55, d91_58, d91_61, d91_62, d91_65, d91_68, d91_69, d91_71, d91_74, d91_77, d91_80, d91_81, d91_84, d91_87, d91_88, d91_91, d91_92, d91_93, d91_94, d91_97, d91_98, d91_101, fl_5_13, fl_5_16, fl_5_19, fl_5_41, mt_5_196, mt_5_226, jt_16_5, jt_1_18, jt_58_22, jt_65_15, jt_77_m25, jt_7_12, jt_84_8, jp_16_5, jp_1_18, jp_58_22, jp_65_15, jp_77_m25, jp_7_12, jp_84_8]
        repeat' (first | apply And.intro | with_reducible intro _)
        all_goals first | exact h | exact absurd (fun_c (by with_reducible assumption) (by with_reducible assumption) (by with_reducible assumption)) q | exact vin_d (by with_reducible assumption) (by with_reducible assumption) (by decide)
    · intro k pc ls st M' u' w' hpc hP
      obtain ⟨rfl, rfl, hP⟩ := hP
      obtain rfl : pc = 52 := of_decide_eq_true hpc
      · obtain ⟨rfl, hk, xJ, rfl, xT, h⟩ := hP
        show mm_x (5, 5, some .int, false, 0, 0, none, false) prog_10_method_31_code (mm_gl [(85, k_qwant), (90, k_qbody)]) (mm_cutI (fun pc => decide (pc = 52)) (p_qcompile f v w Post) (k)) Post 60 52 [some (.inr (.inr (some (30, 0)))), some (.inl f), some (.inl v), some (.inl w), some (.inl (nI (20 - k)))] [] M' 0 0
        have hG := xJ.1
        have fin : t_all k M' = M' → (M'.1 30 0 1 = 0 → Post (some (.inl (M'.1 30 0 3))) M') ∧ (¬ M'.1 30 0 1 = 0 → Post (some (.inl (M'.1 30 0 1))) (mm_sI M' 30 0 3 0)) := fun e => by
          rw [e] at h
          unfold t_cmpE at h
          exact ⟨fun z => by rw [if_pos z] at h; exact h, fun z => by rw [if_neg z] at h; exact h⟩
        by_cases q1 : nI (20 - k) < M'.1 30 0 3
        · have q1' : (M'.1 30 0 3 ≤ nI (20 - k)) = False := eq_false (Int32.not_le.mpr q1)
          cases k with
          | zero =>
            obtain ⟨c, hc1, hc2, -⟩ := xJ.2.2.2
            rw [hc2] at q1
            exact absurd q1 (nI_nlt (by omega) (by omega))
          | succ k =>
            by_cases q2 : M'.1 30 0 1 = 0
            · obtain ⟨t1, t2⟩ := xT q1 q2
              have e : t_all (k + 1) M' = t_all k (t_body M' (nI (20 - (k + 1)))) := if_pos ⟨q1, q2⟩
              rw [e] at h
              obtain ⟨a1, a2, a3⟩ := body_keep (by omega) xJ q1 t1
              have hq : ∃ j, nI (20 - (k + 1)) = nI j ∧ j ≤ 20 ∧ nI j < M'.1 30 0 3 := ⟨_, rfl, by omega, q1⟩
              have go : ∀ x, x = nI (20 - (k + 1)) + 1 → ∃ k1, k1 < k + 1 ∧ p_qcompile f v w Post k1 52 [some (.inr (.inr (some (30, 0)))), some (.inl f), some (.inl v), some (.inl w), some (.inl x)] [] (t_body M' (nI (20 - (k + 1)))) 0 0 := fun x ex => ⟨k, Nat.lt_succ_self k, rfl, rfl, rfl, by omega, a1, by rw [ex, nI_1, show 20 - (k + 1) + 1 = 20 - k by omega], t2, h⟩
              simp (config := { maxSteps := 2000000 }) only [hG, q1', q2, xJ, hq, t1, ↓g90, ↓e_qbody, mk_90, ↓pr_f, ↓xs_cT, ↓xs_cF, ↓lf_0, ↓lf_1, ↓lf_2, ↓lf_3, Bool.not_eq_false, Bool.not_eq_true, kn_0, kn_1, Classical.not_not, bn_0, bn_1, bi_n, bi_0, bi_f, ↓xs_x, ↓xs_kk, xs_s, ↓xs_c, xs_o, ↓xs_p1, ↓xs_pI, ↓xs_pL, ↓xs_pR, ↓xs_vI, ↓xs_vL, ↓xs_vQ, ↓xs_lV0, ↓xs_lVs, ↓xs_pN0, ↓xs_pNs, xs_k0, xs_0eq, xs_0ne, xs_0lt, xs_0ge, xs_0gt, xs_0le, xs_2eq, xs_2ne, xs_2lt, xs_2ge, xs_2gt, xs_2le, xs_catI, xs_catL, xs_catR, xs_sm0, xs_sm1, xs_tl1, xs_tl0, xs_nI, xs_fI, ↓xs_putI, ↓xs_putL, ↓xs_putR, fv_0, fv_1, fv_2, fv_3, st1_0, st1_1I, st2_1I, st1_1L, st2_1L, st1_1R, st2_1R, st1_1N, st2_1N, st2_0, st1_s, st2_s, xi_iconst, xi_bipush, xi_iload_n, xi_iload, xi_aload_n, xi_istore, xi_iinc, xi_i2l, xi_pop, xi_ifCond, xi_if_icmp, xi_goto, xi_baload, xi_ireturn, xs_ivS, xs_ivN, xs_call, k_ic_m1, k_ic_0, k_ic_1, k_bi_7, k_bi_63, gy_30, gm_30, gy_31, gl_31, gm_31, gy_32, gl_32, gm_32, gy_33, gl_33, gm_33, gy_34, gl_34, gm_34, gy_35, gl_35, gm_35, gy_36, gl_36, gm_36, gy_37, gl_37, gm_37, gy_38, gl_38, gm_38, gy_39, gl_39, gm_39, gy_40, gl_40, gm_40, gy_41, gl_41, gm_41, gy_42, gl_42, gm_42, gy_43, gl_43, gm_43, gy_44, gl_44, gm_44, gy_45, gl_45, gm_45, gy_46, gl_46, gm_46, gy_47, gl_47, gm_47, gy_48, gl_48, gm_48, gy_49, gl_49, gm_49, gy_50, gl_50, gm_50, gy_51, gl_51, gm_51, gy_52, gl_52, gm_52, gy_53, gl_53, gm_53, gy_54, gl_54, gm_54, gy_55, gl_55, gm_55, gy_56, gl_56, gm_56, gy_57, gl_57, gm_57, gm_999, gr_30_10, gf_5_1, gn_5_1, gq_5_1, gf_5_2, gn_5_2, gq_5_2, gf_5_3, gn_5_3, gq_5_3, gf_5_10, gn_5_10, gq_5_10, gs_1, gs_2, gs_3, gg_i, gg_z, gg_l, gg_o, gg_a, gi_s, gi_a, List.toList_toArray, Nat.reduceAdd, Int.reduceAdd, Nat.reduceLeDiff, Nat.reduceLT, Nat.reduceEqDiff, ↓reduceIte, ne_eq, not_false_eq_true, true_imp_iff, false_imp_iff, not_true_eq_false, implies_true, Jvm.ClassFile.FieldType.object.injEq, exists_eq_left', exists_eq_left, decide_eq_true_eq, true_and, and_true, true_or, or_true, false_or, or_false, Nat.le_refl, forall_const, Fin.isValue, Fin.val_zero, Fin.val_one, reduceCtorEq, Nat.zero_add, Int.zero_add, Int.add_zero, Option.some.injEq, Sum.inl.injEq, Sum.inr.injEq, Prod.mk.injEq, and_self, eq_self, xg_f fl_5_13, xg_f fl_5_19, xg_f fl_5_41, xp_f fl_5_13, xp_f fl_5_16, xp_f fl_5_19, xv_f mt_5_196, xv_f mt_5_226, d91_0, d91_1, d91_4, d91_5, d91_7, d91_10, d91_11, d91_14, d91_15, d91_16, d91_19, d91_20, d91_21, d91_22, d91_23, d91_26, d91_27, d91_28, d91_31, d91_32, d91_33, d91_36, d91_37, d91_38, d91_40, d91_41, d91_42, d91_43, d91_44, d91_45, d91_48, d91_49, d91_50, d91_52, d91_54, d91_55, d91_58, d91_61, d91_62, d91_65, d91_68, d91_69, d91_71, d91_74, d91_77, d91_80, d91_81, d91_84, d91_87, d91_88, d91_91, d91_92, d91_93, d91_94, d91_97, d91_98, d91_101, fl_5_13, fl_5_16, fl_5_19, fl_5_41, mt_5_196, mt_5_226, jt_16_5, jt_1_18, jt_58_22, jt_65_15, jt_77_m25, jt_7_12, jt_84_8, jp_16_5, jp_1_18, jp_58_22, jp_65_15, jp_77_m25, jp_7_12, jp_84_8]
              first | exact go _ rfl
            · have fin := (fin (if_neg fun z => q2 z.2)).2 q2
              simp (config := { maxSteps := 2000000 }) only [hG, q1', q2, ↓pr_f, ↓xs_cT, ↓xs_cF, ↓lf_0, ↓lf_1, ↓lf_2, ↓lf_3, Bool.not_eq_false, Bool.not_eq_true, kn_0, kn_1, Classical.not_not, bn_0, bn_1, bi_n, bi_0, bi_f, ↓xs_x, ↓xs_kk, xs_s, ↓xs_c, xs_o, ↓xs_p1, ↓xs_pI, ↓xs_pL, ↓xs_pR, ↓xs_vI, ↓xs_vL, ↓xs_vQ, ↓xs_lV0, ↓xs_lVs, ↓xs_pN0, ↓xs_pNs, xs_k0, xs_0eq, xs_0ne, xs_0lt, xs_0ge, xs_0gt, xs_0le, xs_2eq, xs_2ne, xs_2lt, xs_2ge, xs_2gt, xs_2le, xs_catI, xs_catL, xs_catR, xs_sm0, xs_sm1, xs_tl1, xs_tl0, xs_nI, xs_fI, ↓xs_putI, ↓xs_putL, ↓xs_putR, fv_0, fv_1, fv_2, fv_3, st1_0, st1_1I, st2_1I, st1_1L, st2_1L, st1_1R, st2_1R, st1_1N, st2_1N, st2_0, st1_s, st2_s, xi_iconst, xi_bipush, xi_iload_n, xi_iload, xi_aload_n, xi_istore, xi_iinc, xi_i2l, xi_pop, xi_ifCond, xi_if_icmp, xi_goto, xi_baload, xi_ireturn, xs_ivS, xs_ivN, xs_call, k_ic_m1, k_ic_0, k_ic_1, k_bi_7, k_bi_63, gy_30, gm_30, gy_31, gl_31, gm_31, gy_32, gl_32, gm_32, gy_33, gl_33, gm_33, gy_34, gl_34, gm_34, gy_35, gl_35, gm_35, gy_36, gl_36, gm_36, gy_37, gl_37, gm_37, gy_38, gl_38, gm_38, gy_39, gl_39, gm_39, gy_40, gl_40, gm_40, gy_41, gl_41, gm_41, gy_42, gl_42, gm_42, gy_43, gl_43, gm_43, gy_44, gl_44, gm_44, gy_45, gl_45, gm_45, gy_46, gl_46, gm_46, gy_47, gl_47, gm_47, gy_48, gl_48, gm_48, gy_49, gl_49, gm_49, gy_50, gl_50, gm_50, gy_51, gl_51, gm_51, gy_52, gl_52, gm_52, gy_53, gl_53, gm_53, gy_54, gl_54, gm_54, gy_55, gl_55, gm_55, gy_56, gl_56, gm_56, gy_57, gl_57, gm_57, gm_999, gr_30_10, gf_5_1, gn_5_1, gq_5_1, gf_5_2, gn_5_2, gq_5_2, gf_5_3, gn_5_3, gq_5_3, gf_5_10, gn_5_10, gq_5_10, gs_1, gs_2, gs_3, gg_i, gg_z, gg_l, gg_o, gg_a, gi_s, gi_a, List.toList_toArray, Nat.reduceAdd, Int.reduceAdd, Nat.reduceLeDiff, Nat.reduceLT, Nat.reduceEqDiff, ↓reduceIte, ne_eq, not_false_eq_true, true_imp_iff, false_imp_iff, not_true_eq_false, implies_true, Jvm.ClassFile.FieldType.object.injEq, exists_eq_left', exists_eq_left, decide_eq_true_eq, true_and, and_true, true_or, or_true, false_or, or_false, Nat.le_refl, forall_const, Fin.isValue, Fin.val_zero, Fin.val_one, reduceCtorEq, Nat.zero_add, Int.zero_add, Int.add_zero, Option.some.injEq, Sum.inl.injEq, Sum.inr.injEq, Prod.mk.injEq, and_self, eq_self, xg_f fl_5_13, xg_f fl_5_19, xg_f fl_5_41, xp_f fl_5_13, xp_f fl_5_16, xp_f fl_5_19, xv_f mt_5_196, xv_f mt_5_226, d91_0, d91_1, d91_4, d91_5, d91_7, d91_10, d91_11, d91_14, d91_15, d91_16, d91_19, d91_20, d91_21, d91_22, d91_23, d91_26, d91_27, d91_28, d91_31, d91_32, d91_33, d91_36, d91_37, d91_38, d91_40, d91_41, d91_42, d91_43, d91_44, d91_45, d91_48, d91_49, d91_50, d91_52, d91_54, d91_55, d91_58, d91_61, d91_62, d91_65, d91_68, d91_69, d91_71, d91_74, d91_77, d91_80, d91_81, d91_84, d91_87, d91_88, d91_91, d91_92, d91_93, d91_94, d91_97, d91_98, d91_101, fl_5_13, fl_5_16, fl_5_19, fl_5_41, mt_5_196, mt_5_226, jt_16_5, jt_1_18, jt_58_22, jt_65_15, jt_77_m25, jt_7_12, jt_84_8, jp_16_5, jp_1_18, jp_58_22, jp_65_15, jp_77_m25, jp_7_12, jp_84_8]
              first | exact fin
        · have q1' : (M'.1 30 0 3 ≤ nI (20 - k)) = True := eq_true (Int32.not_lt.mp q1)
          have e : t_all k M' = M' := by
            cases k with
            | zero => rfl
            | succ k => exact if_neg fun z => q1 z.1
          obtain ⟨f1, f2⟩ := fin e
          simp (config := { maxSteps := 2000000 }) only [hG, q1', ↓pr_f, ↓xs_cT, ↓xs_cF, ↓lf_0, ↓lf_1, ↓lf_2, ↓lf_3, Bool.not_eq_false, Bool.not_eq_true, kn_0, kn_1, Classical.not_not, bn_0, bn_1, bi_n, bi_0, bi_f, ↓xs_x, ↓xs_kk, xs_s, ↓xs_c, xs_o, ↓xs_p1, ↓xs_pI, ↓xs_pL, ↓xs_pR, ↓xs_vI, ↓xs_vL, ↓xs_vQ, ↓xs_lV0, ↓xs_lVs, ↓xs_pN0, ↓xs_pNs, xs_k0, xs_0eq, xs_0ne, xs_0lt, xs_0ge, xs_0gt, xs_0le, xs_2eq, xs_2ne, xs_2lt, xs_2ge, xs_2gt, xs_2le, xs_catI, xs_catL, xs_catR, xs_sm0, xs_sm1, xs_tl1, xs_tl0, xs_nI, xs_fI, ↓xs_putI, ↓xs_putL, ↓xs_putR, fv_0, fv_1, fv_2, fv_3, st1_0, st1_1I, st2_1I, st1_1L, st2_1L, st1_1R, st2_1R, st1_1N, st2_1N, st2_0, st1_s, st2_s, xi_iconst, xi_bipush, xi_iload_n, xi_iload, xi_aload_n, xi_istore, xi_iinc, xi_i2l, xi_pop, xi_ifCond, xi_if_icmp, xi_goto, xi_baload, xi_ireturn, xs_ivS, xs_ivN, xs_call, k_ic_m1, k_ic_0, k_ic_1, k_bi_7, k_bi_63, gy_30, gm_30, gy_31, gl_31, gm_31, gy_32, gl_32, gm_32, gy_33, gl_33, gm_33, gy_34, gl_34, gm_34, gy_35, gl_35, gm_35, gy_36, gl_36, gm_36, gy_37, gl_37, gm_37, gy_38, gl_38, gm_38, gy_39, gl_39, gm_39, gy_40, gl_40, gm_40, gy_41, gl_41, gm_41, gy_42, gl_42, gm_42, gy_43, gl_43, gm_43, gy_44, gl_44, gm_44, gy_45, gl_45, gm_45, gy_46, gl_46, gm_46, gy_47, gl_47, gm_47, gy_48, gl_48, gm_48, gy_49, gl_49, gm_49, gy_50, gl_50, gm_50, gy_51, gl_51, gm_51, gy_52, gl_52, gm_52, gy_53, gl_53, gm_53, gy_54, gl_54, gm_54, gy_55, gl_55, gm_55, gy_56, gl_56, gm_56, gy_57, gl_57, gm_57, gm_999, gr_30_10, gf_5_1, gn_5_1, gq_5_1, gf_5_2, gn_5_2, gq_5_2, gf_5_3, gn_5_3, gq_5_3, gf_5_10, gn_5_10, gq_5_10, gs_1, gs_2, gs_3, gg_i, gg_z, gg_l, gg_o, gg_a, gi_s, gi_a, List.toList_toArray, Nat.reduceAdd, Int.reduceAdd, Nat.reduceLeDiff, Nat.reduceLT, Nat.reduceEqDiff, ↓reduceIte, ne_eq, not_false_eq_true, true_imp_iff, false_imp_iff, not_true_eq_false, implies_true, Jvm.ClassFile.FieldType.object.injEq, exists_eq_left', exists_eq_left, decide_eq_true_eq, true_and, and_true, true_or, or_true, false_or, or_false, Nat.le_refl, forall_const, Fin.isValue, Fin.val_zero, Fin.val_one, reduceCtorEq, Nat.zero_add, Int.zero_add, Int.add_zero, Option.some.injEq, Sum.inl.injEq, Sum.inr.injEq, Prod.mk.injEq, and_self, eq_self, xg_f fl_5_13, xg_f fl_5_19, xg_f fl_5_41, xp_f fl_5_13, xp_f fl_5_16, xp_f fl_5_19, xv_f mt_5_196, xv_f mt_5_226, d91_0, d91_1, d91_4, d91_5, d91_7, d91_10, d91_11, d91_14, d91_15, d91_16, d91_19, d91_20, d91_21, d91_22, d91_23, d91_26, d91_27, d91_28, d91_31, d91_32, d91_33, d91_36, d91_37, d91_38, d91_40, d91_41, d91_42, d91_43, d91_44, d91_45, d91_48, d91_49, d91_50, d91_52, d91_54, d91_55, d91_58, d91_61, d91_62, d91_65, d91_68, d91_69, d91_71, d91_74, d91_77, d91_80, d91_81, d91_84, d91_87, d91_88, d91_91, d91_92, d91_93, d91_94, d91_97, d91_98, d91_101, fl_5_13, fl_5_16, fl_5_19, fl_5_41, mt_5_196, mt_5_226, jt_16_5, jt_1_18, jt_58_22, jt_65_15, jt_77_m25, jt_7_12, jt_84_8, jp_16_5, jp_1_18, jp_58_22, jp_65_15, jp_77_m25, jp_7_12, jp_84_8]
          first | exact ⟨f1, f2⟩ | exact ⟨f2, f1⟩
end MMD
