/-! the reference, lookAtBody -/
section MMD
variable {l : Launch} {D : va_G} {dA : FieldType → ClassId} {sz : Nat}
def t_descR (de : mm_M → Int32 → Int32 × mm_M) (n : Int32) (r : Int32 × mm_M) : Int32 × mm_M := if 0 ≤ r.1 then de r.2 r.1 else (n, r.2)
def t_desc (i : Int32) : Nat → mm_M → Int32 → Int32 × mm_M
  | 0, M, n => (n, M)
  | L + 1, M, n => t_descR (t_desc i L) n (t_needs M i n)
def t_turnE (i : Int32) (d : Int32 × mm_M) : mm_M := if d.2.1 30 0 1 = 0 then t_look d.2 i d.1 else d.2
def t_turns (i root : Int32) : Nat → mm_M → mm_M
  | 0, M => M
  | k + 1, M => if t_at M 44 i root = 0 ∧ M.1 30 0 1 = 0 then t_turns i root k (t_turnE i (t_desc i 8 M root)) else M
def t_bodyE (i root : Int32) (M : mm_M) : mm_M := if M.1 30 0 1 = 0 then (t_goes M i root root (t_typeIn M i (M.1 10 0 (M.1 41 0 i.toNatClampNeg).toNatClampNeg))).2 else M
def t_body (M : mm_M) (i : Int32) : mm_M := t_bodyE i (M.1 11 0 (M.1 41 0 i.toNatClampNeg).toNatClampNeg) (t_turns i (M.1 11 0 (M.1 41 0 i.toNatClampNeg).toNatClampNeg) 61 M)
/-- each look of the turns finds what it wants -/
def TE (i : Int32) (d : Int32 × mm_M) : Prop := d.2.1 30 0 1 = 0 → (¬ d.2.1 2 0 d.1.toNatClampNeg = 0 ∧ ¬ d.2.1 2 0 d.1.toNatClampNeg = 1 ∧ ¬ d.2.1 2 0 d.1.toNatClampNeg = 13 ∧ ¬ d.2.1 2 0 d.1.toNatClampNeg = 14 ∧ ¬ d.2.1 2 0 d.1.toNatClampNeg = 15 ∧ ¬ d.2.1 2 0 d.1.toNatClampNeg = 16 → ¬ t_sz (t_at d.2 46 i (d.2.1 3 0 d.1.toNatClampNeg)) = 0 ∧ ¬ t_sz (t_at d.2 46 i (d.2.1 4 0 d.1.toNatClampNeg)) = 0)
def TB (i root : Int32) : Nat → mm_M → Prop
  | 0, _ => True
  | k + 1, M => t_at M 44 i root = 0 → M.1 30 0 1 = 0 → TE i (t_desc i 8 M root) ∧ TB i root k (t_turnE i (t_desc i 8 M root))
def JR (M : mm_M) : Prop := M.2.2 = mm_gd ∧ IP M ∧ SP M ∧ IR M
theorem JR.nr {M : mm_M} (h : JR M) {j : Nat} (hj : nI j < M.1 30 0 3) (h20 : j ≤ 20) {n : Int32} (hn : s_hasNode M n = true) : NR M (nI j) n ∧ j < 20 ∧ s_hasFun M (M.1 41 0 j) = true := by
  obtain ⟨h1, h2, h3, c, c1, c2, c3⟩ := h
  have hlt : j < c := Nat.not_le.mp fun z => by
    rw [c2] at hj
    exact absurd hj (nI_nlt z (by omega))
  have hf := c3 j hlt
  refine ⟨⟨h1, h2, h3, vp_in_nI (by omega) (by decide), ?_, hn⟩, by omega, hf⟩
  rw [nI_clamp (by omega)]
  exact s_hasFun_in hf
theorem needs_keep {M : mm_M} {i n : Int32} : KO M (t_needs M i n).2 := by
  unfold t_needs t_needs13 t_needs15
  repeat' split
  all_goals first | exact KO.rf | exact KO.rf.fail
theorem nd1_ok {M : mm_M} {i b : Int32} (h : 0 ≤ t_nd1 M i b) : t_nd1 M i b = b := by
  unfold t_nd1 at h ⊢
  split
  · rfl
  · rename_i q
    rw [if_neg q] at h
    exact absurd h (by decide)
theorem nd_ok {M : mm_M} {i b c : Int32} (h : 0 ≤ t_nd M i b c) : t_nd M i b c = b ∨ t_nd M i b c = c := by
  unfold t_nd at h ⊢
  split
  · exact Or.inl rfl
  · rename_i q
    rw [if_neg q] at h
    split
    · exact Or.inr rfl
    · rename_i q'
      rw [if_neg q'] at h
      exact absurd h (by decide)
theorem ndA_ok {M : mm_M} {i b : Int32} (h : 0 ≤ t_ndA M i b) : t_ndA M i b = b ∧ 0 ≤ b := by
  unfold t_ndA at h ⊢
  split
  · rename_i q
    rw [if_pos q] at h
    exact absurd h (by decide)
  · rename_i q
    rw [if_neg q] at h
    exact ⟨nd1_ok h, Int32.not_lt.mp q⟩
theorem needs_ok {M : mm_M} {i n : Int32} (xN : NR M i n) (h : 0 ≤ (t_needs M i n).1) : okA M n (t_needs M i n).1 ∧ (t_needs M i n).2 = M := by
  have hnd := xN.2.1.2.2.1 n xN.2.2.2.2.2
  have m1 : ¬ (0 : Int32) ≤ -1 := by decide
  unfold t_needs at h ⊢
  by_cases z0 : M.1 2 0 n.toNatClampNeg = 0
  · rw [if_pos z0] at h
    exact absurd h m1
  rw [if_neg z0] at h ⊢
  by_cases z1 : M.1 2 0 n.toNatClampNeg = 1
  · rw [if_pos z1] at h
    exact absurd h m1
  rw [if_neg z1] at h ⊢
  by_cases z13 : M.1 2 0 n.toNatClampNeg = 13
  · rw [if_pos z13] at h ⊢
    obtain ⟨oa, ob, oc⟩ := hnd.2.2.2.2.1 z13
    unfold t_needs13 at h ⊢
    split
    · exact ⟨oa, rfl⟩
    · rename_i q
      rw [if_neg q] at h
      split
      · rename_i q2
        rw [if_pos q2] at h
        exact absurd h m1
      · rename_i q2
        rw [if_neg q2] at h
        split
        · rename_i q3
          rw [if_pos q3] at h
          exact ⟨by rcases nd_ok h with e | e <;> (show okA M n _; rw [e]; assumption), rfl⟩
        · rename_i q3
          rw [if_neg q3] at h
          split
          · rename_i q4
            rw [if_pos q4] at h
            exact ⟨by show okA M n _; rw [nd1_ok h]; exact ob, rfl⟩
          · rename_i q4
            rw [if_neg q4] at h
            exact ⟨by show okA M n _; rw [nd1_ok h]; exact oc, rfl⟩
  rw [if_neg z13] at h ⊢
  by_cases z14 : M.1 2 0 n.toNatClampNeg = 14
  · rw [if_pos z14] at h ⊢
    exact ⟨by show okA M n _; rw [nd1_ok h]; exact (hnd.2.2.2.2.2.1 z14).1, rfl⟩
  rw [if_neg z14] at h ⊢
  by_cases z15 : M.1 2 0 n.toNatClampNeg = 15
  · rw [if_pos z15] at h ⊢
    obtain ⟨f8, qb, qc⟩ := hnd.2.2.2.2.2.2.1 z15
    have nn : ∀ {b : Int32}, b = -1 ∨ okA M n b → 0 ≤ b → okA M n b := fun hb h0 => by
      rcases hb with e | hb
      · rw [e] at h0
        exact absurd h0 m1
      · exact hb
    unfold t_needs15 at h ⊢
    split
    · rename_i q
      rw [if_pos q] at h
      exact absurd h m1
    · rename_i q
      rw [if_neg q] at h
      split
      · rename_i q2
        rw [if_pos q2] at h
        obtain ⟨e, e0⟩ := ndA_ok h
        exact ⟨by show okA M n _; rw [e]; exact nn qc e0, rfl⟩
      · rename_i q2
        rw [if_neg q2] at h
        split
        · rename_i q3
          rw [if_pos q3] at h
          exact ⟨nn qb h, rfl⟩
        · rename_i q3
          rw [if_neg q3] at h
          obtain ⟨e, e0⟩ := ndA_ok h
          exact ⟨by show okA M n _; rw [e]; exact nn qc e0, rfl⟩
  rw [if_neg z15] at h ⊢
  by_cases z16 : M.1 2 0 n.toNatClampNeg = 16
  · rw [if_pos z16] at h ⊢
    exact ⟨by show okA M n _; rw [nd1_ok h]; exact hnd.2.2.2.2.2.2.2.1 z16, rfl⟩
  rw [if_neg z16] at h ⊢
  obtain ⟨oa, ob⟩ := hnd.2.2.2.2.2.2.2.2 z0 z1 z13 z14 z15 z16
  exact ⟨by rcases nd_ok h with e | e <;> (show okA M n _; rw [e]; assumption), rfl⟩
theorem needs_15 {M : mm_M} {i n : Int32} (h : (t_needs M i n).2.1 30 0 1 = 0) (z15 : M.1 2 0 n.toNatClampNeg = 15) : t_argsWrong (t_needs M i n).2 n = false := by
  have n0 : ¬ (15 : Int32) = 0 := by decide
  have n1 : ¬ (15 : Int32) = 1 := by decide
  have n13 : ¬ (15 : Int32) = 13 := by decide
  have n14 : ¬ (15 : Int32) = 14 := by decide
  unfold t_needs at h ⊢
  rw [z15, if_neg n0, if_neg n1, if_neg n13, if_neg n14, if_pos rfl] at h ⊢
  unfold t_needs15 at h ⊢
  by_cases q : t_argsWrong M n = true
  · rw [if_pos q] at h
    exact absurd (show (-6 : Int32) = 0 from h) (by decide)
  · rw [if_neg q]
    have q' : t_argsWrong M n = false := by simpa using q
    split
    · exact q'
    · split <;> exact q'
theorem JR.ko {M M' : mm_M} (h : JR M) (k : KO M M') : JR M' := ⟨k.1.1.trans h.1, h.2.1.kp k.1.kp, k.1.sp h.2.2.1, k.ir h.2.2.2⟩
theorem JR.look {M : mm_M} {i n : Int32} (h : JR M) (xN : NR M i n) (hL : LQ M i n) : JR (t_look M i n) := by
  obtain ⟨k1, k2⟩ := look_keep xN hL
  exact ⟨k1.1.trans h.1, h.2.1.kp k1.kp, k1.sp h.2.2.1, k2 h.2.2.2⟩
theorem want_cnt {M : mm_M} {i n f : Int32} {v w : Int64} (q : IR M) {j : Nat} (hj : nI j < M.1 30 0 3) (h20 : j ≤ 20) : nI j < (t_want M i n f v w).2.1 30 0 3 := by
  obtain ⟨c, h1, h2, -⟩ := q
  unfold t_want
  rw [h2, nI_clamp (by omega)]
  generalize t_cut M 8 f v = v0
  generalize t_cut M 9 f w = v1
  have key : ∀ r, nI j < (t_wantL M i n f v w v0 v1 c r).2.1 30 0 3 := by
    intro r
    induction r with
    | zero =>
      unfold t_wantL t_wantN
      split
      · exact hj
      · have e3 : (t_wantW M f v w v0 v1 c).1 30 0 3 = nI c := by
          show mm_u (mm_u (mm_u M.1 41 0 c f) 42 0 c v0) 43 0 c v1 30 0 3 = _
          rw [mm_u_row' (by decide), mm_u_row' (by decide), mm_u_row' (by decide)]
          exact h2
        rw [h2] at hj
        generalize t_wantW M f v w v0 v1 c = M1 at *
        unfold t_wantB
        repeat' split
        all_goals first | (show nI j < M1.1 30 0 3; rw [e3]; exact hj) | skip
        show nI j < mm_u (t_clr c 60 M1).1 30 0 3 (nI c + 1) 30 0 3
        rw [mm_u_own, if_pos rfl, nI_1]
        exact nI_lt (Nat.lt_succ_of_lt (Nat.not_le.mp fun z => absurd hj (nI_nlt z (by omega)))) (by omega)
    | succ r ih =>
      unfold t_wantL
      split
      · exact hj
      · exact ih
  exact key c
theorem look_cnt {M : mm_M} {i n : Int32} (q : IR M) {j : Nat} (hj : nI j < M.1 30 0 3) (h20 : j ≤ 20) : nI j < (t_look M i n).1 30 0 3 := by
  have ko : ∀ {M' : mm_M}, KO M M' → nI j < M'.1 30 0 3 := fun h => by rw [h.2.2]; exact hj
  unfold t_look t_lookK
  split
  · exact ko KO.rf.found
  · split
    · unfold t_lookPar
      split
      · exact ko KO.rf.fail
      · exact ko KO.rf.found
    · split
      · exact ko KO.lookIf
      · split
        · exact ko KO.lookCast
        · split
          · unfold t_lookCall
            repeat' split
            · exact ko KO.rf.fail
            · exact ko KO.rf.fail
            · unfold t_lc1
              split
              · rw [KO.lc2.2.2]
                exact want_cnt q hj h20
              · exact want_cnt q hj h20
          · split
            · unfold t_lookWidth
              split
              · exact ko KO.rf.found
              · exact ko KO.rf.fail
            · exact ko KO.lookTwo
theorem lq_of {M : mm_M} {i n : Int32} (hE : M.1 30 0 1 = 0) (h1 : TE i (n, M)) (h2 : M.1 30 0 1 = 0 → M.1 2 0 n.toNatClampNeg = 15 → t_argsWrong M n = false) : LQ M i n := ⟨h1 hE, h2 hE⟩
def k_qbody : mm_Ct := fun As M Post => match As with
  | [.inr (.inr (some (30, 0))), .inl i] => (JR M) ∧ (∃ j, i = nI j ∧ j ≤ 20 ∧ nI j < M.1 30 0 3) ∧ (TB i (M.1 11 0 (M.1 41 0 i.toNatClampNeg).toNatClampNeg) 61 M) ∧ Post none (t_body M i)
  | _ => False
theorem e_qbody {M : mm_M} {Post : Option mm_V → mm_M → Prop} {i : Int32} : k_qbody [.inr (.inr (some (30, 0))), .inl i] M Post = ((JR M) ∧ (∃ j, i = nI j ∧ j ≤ 20 ∧ nI j < M.1 30 0 3) ∧ (TB i (M.1 11 0 (M.1 41 0 i.toNatClampNeg).toNatClampNeg) 61 M) ∧ Post none (t_body M i)) := rfl
def p_qbody (j : Nat) (root : Int32) (Post : Option mm_V → mm_M → Prop) : Nat → Nat → mm_X := fun m pc ls st M u w => u = 0 ∧ w = 0 ∧ st = [] ∧ JR M ∧ nI j < M.1 30 0 3 ∧ s_hasNode M root = true ∧ (match pc with
  | 14 => ∃ k z4 z5, m = 100 * k + 50 ∧ k ≤ 61 ∧ ls = [some (.inr (.inr (some (30, 0)))), some (.inl (nI j)), some (.inl root), some (.inl (nI (61 - k))), z4, z5] ∧ TB (nI j) root k M ∧ Post none (t_bodyE (nI j) root (t_turns (nI j) root k M))
  | 53 => ∃ k L n d, m = 100 * k + 60 + L ∧ k < 61 ∧ L ≤ 8 ∧ ls = [some (.inr (.inr (some (30, 0)))), some (.inl (nI j)), some (.inl root), some (.inl (nI (61 - (k + 1)))), some (.inl n), some (.inl d)] ∧ s_hasNode M n = true ∧ (0 ≤ d → s_hasNode M d = true ∧ lv M d ≤ (L : Int)) ∧ (M.1 30 0 1 = 0 → M.1 2 0 n.toNatClampNeg = 15 → t_argsWrong M n = false) ∧ TE (nI j) (t_descR (t_desc (nI j) L) n (d, M)) ∧ TB (nI j) root k (t_turnE (nI j) (t_descR (t_desc (nI j) L) n (d, M))) ∧ Post none (t_bodyE (nI j) root (t_turns (nI j) root k (t_turnE (nI j) (t_descR (t_desc (nI j) L) n (d, M)))))
  | 94 => m = 0 ∧ ∃ z3 z4 z5, ls = [some (.inr (.inr (some (30, 0)))), some (.inl (nI j)), some (.inl root), z3, z4, z5] ∧ Post none (t_bodyE (nI j) root M)
  | _ => False)
set_option maxRecDepth 100000 in
set_option maxHeartbeats 4000000 in
theorem v_qbody : mm_Vd l D dA sz 6 90 k_qbody := by
  intro As M Post h
  match As, h with
  | [.inr (.inr (some (30, 0))), .inl i], h =>
    obtain ⟨xJ, xj, xT, h⟩ := h
    obtain ⟨j, ei, hj20, hj⟩ := xj
    rw [ei] at h xT
    have hG := xJ.1
    obtain ⟨s0, s1, s2, s3, s4, s5, s6, s7, s8, s9, s10⟩ := xJ.2.2.1
    obtain ⟨c, hc1, hc2, hc3⟩ := xJ.2.2.2
    have hjc : j < c := Nat.not_le.mp fun z => absurd (hc2 ▸ hj) (nI_nlt z (by omega))
    have hf := hc3 j hjc
    have f8 := s_hasFun_in hf
    have ej : (nI j).toNatClampNeg = j := nI_clamp (by omega)
    have hi : vp_in (nI j) 20 := vp_in_nI (by omega) (by decide)
    have hroot := (xJ.2.1.2.2.2 _ hf).1
    unfold t_body at h
    rw [ej] at h xT
    obtain ⟨root, eroot⟩ : ∃ r, M.1 11 0 (M.1 41 0 j).toNatClampNeg = r := ⟨_, rfl⟩
    rw [eroot] at h xT hroot
    have g78 : ∀ As M P, mm_gl [(78, k_qneeds), (89, k_qlook), (70, k_qtypeIn), (87, k_qgoes)] 78 As M P = k_qneeds As M P := fun _ _ _ => rfl
    have g89 : ∀ As M P, mm_gl [(78, k_qneeds), (89, k_qlook), (70, k_qtypeIn), (87, k_qgoes)] 89 As M P = k_qlook As M P := fun _ _ _ => rfl
    have g70 : ∀ As M P, mm_gl [(78, k_qneeds), (89, k_qlook), (70, k_qtypeIn), (87, k_qgoes)] 70 As M P = k_qtypeIn As M P := fun _ _ _ => rfl
    have g87 : ∀ As M P, mm_gl [(78, k_qneeds), (89, k_qlook), (70, k_qtypeIn), (87, k_qgoes)] 87 As M P = k_qgoes As M P := fun _ _ _ => rfl
    refine mm_methL 90 (by decide) ⟨rfl, rfl, by decide, by decide⟩ (mm_okC v_qneeds (by decide) (by decide) (mm_okC v_qlook (by decide) (by decide) (mm_okC v_qtypeIn (by decide) (by decide) (mm_okC v_qgoes (by decide) (by decide) mm_okN)))) (Nat.le_of_ble_eq_true rfl) (fun pc => decide (pc = 14 ∨ pc = 53 ∨ pc = 94)) (p_qbody j root Post) 60 90 6200 ?_ ?_
    · show mm_x (5, 6, none, false, 0, 0, none, false) prog_10_method_30_code (mm_gl [(78, k_qneeds), (89, k_qlook), (70, k_qtypeIn), (87, k_qgoes)]) (mm_cutI (fun pc => decide (pc = 14 ∨ pc = 53 ∨ pc = 94)) (p_qbody j root Post) 6200) Post 60 0 [some (.inr (.inr (some (30, 0)))), some (.inl i), none, none, none, none] [] M 0 0
      subst ei
      have go : ∃ k1, k1 < 6200 ∧ p_qbody j root Post k1 14 [some (.inr (.inr (some (30, 0)))), some (.inl (nI j)), some (.inl root), some (.inl 0), none, none] [] M 0 0 := ⟨100 * 61 + 50, by decide, rfl, rfl, rfl, xJ, hj, hroot, 61, none, none, rfl, Nat.le_refl _, rfl, xT, h⟩
      simp (config := { maxSteps := 2000000 }) only [hG, hi, f8, eroot, ej, s0, s1, s2, s3, s4, s5, s6, s7, s8, s9, s10, ↓pr_f, ↓xs_cT, ↓xs_cF, ↓lf_0, ↓lf_1, ↓lf_2, ↓lf_3, Bool.not_eq_false, Bool.not_eq_true, kn_0, kn_1, Classical.not_not, bn_0, bn_1, bi_n, bi_0, bi_f, ↓xs_x, ↓xs_kk, xs_s, ↓xs_c, xs_o, ↓xs_p1, ↓xs_pI, ↓xs_pL, ↓xs_pR, ↓xs_vI, ↓xs_vL, ↓xs_vQ, ↓xs_lV0, ↓xs_lVs, ↓xs_pN0, ↓xs_pNs, xs_k0, xs_0eq, xs_0ne, xs_0lt, xs_0ge, xs_0gt, xs_0le, xs_2eq, xs_2ne, xs_2lt, xs_2ge, xs_2gt, xs_2le, xs_catI, xs_catL, xs_catR, xs_sm0, xs_sm1, xs_tl1, xs_tl0, xs_nI, xs_fI, ↓xs_putI, ↓xs_putL, ↓xs_putR, fv_0, fv_1, fv_2, fv_3, st1_0, st1_1I, st2_1I, st1_1L, st2_1L, st1_1R, st2_1R, st1_1N, st2_1N, st2_0, st1_s, st2_s, xi_iconst, xi_bipush, xi_iload_n, xi_iload, xi_aload_n, xi_istore_n, xi_istore, xi_iinc, xi_iadd, xi_imul, xi_pop, xi_ifCond, xi_if_icmp, xi_goto, xi_iaload, xi_baload, xi_return_, xs_ivS, xs_ivN, xs_call, k_ic_0, k_ic_1, k_bi_60, k_bi_61, gy_30, gm_30, gy_31, gl_31, gm_31, gy_32, gl_32, gm_32, gy_33, gl_33, gm_33, gy_34, gl_34, gm_34, gy_35, gl_35, gm_35, gy_36, gl_36, gm_36, gy_37, gl_37, gm_37, gy_38, gl_38, gm_38, gy_39, gl_39, gm_39, gy_40, gl_40, gm_40, gy_41, gl_41, gm_41, gy_42, gl_42, gm_42, gy_43, gl_43, gm_43, gy_44, gl_44, gm_44, gy_45, gl_45, gm_45, gy_46, gl_46, gm_46, gy_47, gl_47, gm_47, gy_48, gl_48, gm_48, gy_49, gl_49, gm_49, gy_50, gl_50, gm_50, gy_51, gl_51, gm_51, gy_52, gl_52, gm_52, gy_53, gl_53, gm_53, gy_54, gl_54, gm_54, gy_55, gl_55, gm_55, gy_56, gl_56, gm_56, gy_57, gl_57, gm_57, gm_999, gr_30_13, gr_30_14, gr_30_15, gr_30_18, gf_5_1, gf_5_13, gf_5_14, gf_5_15, gf_5_18, gs_1, gs_2, gs_3, gg_i, gg_z, gg_l, gg_o, gg_a, gi_s, gi_a, List.toList_toArray, Nat.reduceAdd, Int.reduceAdd, Nat.reduceLeDiff, Nat.reduceLT, Nat.reduceEqDiff, ↓reduceIte, ne_eq, not_false_eq_true, true_imp_iff, false_imp_iff, not_true_eq_false, implies_true, Jvm.ClassFile.FieldType.object.injEq, exists_eq_left', exists_eq_left, decide_eq_true_eq, true_and, and_true, true_or, or_true, false_or, or_false, Nat.le_refl, forall_const, Fin.isValue, Fin.val_zero, Fin.val_one, reduceCtorEq, Nat.zero_add, Int.zero_add, Int.add_zero, Option.some.injEq, Sum.inl.injEq, Sum.inr.injEq, Prod.mk.injEq, and_self, eq_self, xg_f fl_5_13, xg_f fl_5_51, xg_f fl_5_54, xg_f fl_5_57, xg_f fl_5_66, xv_f mt_5_188, xv_f mt_5_200, xv_f mt_5_220, xv_f mt_5_223, d90_0, d90_1, d90_4, d90_5, d90_8, d90_9, d90_10, d90_11, d90_12, d90_13, d90_14, d90_15, d90_17, d90_20, d90_21, d90_24, d90_25, d90_27, d90_28, d90_29, d90_30, d90_31, d90_34, d90_35, d90_38, d90_41, d90_42, d90_44, d90_45, d90_46, d90_48, d90_51, d90_53, d90_55, d90_58, d90_60, d90_62, d90_63, d90_64, d90_66, d90_69, d90_71, d90_74, d90_75, d90_78, d90_81, d90_82, d90_83, d90_85, d90_88, d90_91, d90_94, d90_95, d90_98, d90_101, d90_102, d90_103, d90_104, d90_105, d90_106, d90_107, d90_108, d90_109, d90_112, d90_113, d90_116, d90_117, d90_118, d90_119, d90_122, d90_125, d90_126, fl_5_13, fl_5_51, fl_5_54, fl_5_57, fl_5_66, mt_5_188, mt_5_200, mt_5_220, mt_5_223, jt_17_77, jt_31_63, jt_38_56, jt_55_19, jt_71_m18, jt_78_10, jt_91_m77, jt_98_4, jp_17_77, jp_31_63, jp_38_56, jp_55_19, jp_71_m18, jp_78_10, jp_91_m77, jp_98_4]
      first | exact go
    · intro k pc ls st M' u' w' hpc hP
      obtain ⟨rfl, rfl, hP⟩ := hP
      rcases of_decide_eq_true hpc with rfl | rfl | rfl
      · obtain ⟨rfl, xJ, hj, hroot, hP⟩ := hP
        obtain ⟨k, z4, z5, rfl, hk, rfl, xT, h⟩ := hP
        show mm_x (5, 6, none, false, 0, 0, none, false) prog_10_method_30_code (mm_gl [(78, k_qneeds), (89, k_qlook), (70, k_qtypeIn), (87, k_qgoes)]) (mm_cutI (fun pc => decide (pc = 14 ∨ pc = 53 ∨ pc = 94)) (p_qbody j root Post) (100 * k + 50)) Post 90 14 [some (.inr (.inr (some (30, 0)))), some (.inl (nI j)), some (.inl root), some (.inl (nI (61 - k))), z4, z5] [] M' 0 0
        obtain ⟨xN, j20, hf⟩ := xJ.nr hj hj20 hroot
        have hG := xN.1
        obtain ⟨s0, s1, s2, s3, s4, s5, s6, s7, s8, s9, s10⟩ := xN.2.2.1
        have hi := xN.2.2.2.1
        have ho := xN.2.2.2.2.1
        have hn6 := xN.2.1.in60 xN.2.2.2.2.2
        have hnd := xN.2.1.2.2.1 root xN.2.2.2.2.2
        have s36 := s6
        have r12 := in12 hi hn6
        have stop : ∀ k, t_turns (nI j) root k M' = M' → Post none (t_bodyE (nI j) root (t_turns (nI j) root k M')) → ∃ k1, k1 < 100 * k + 50 ∧ p_qbody j root Post k1 94 [some (.inr (.inr (some (30, 0)))), some (.inl (nI j)), some (.inl root), some (.inl (nI (61 - k))), z4, z5] [] M' 0 0 := fun k e h => ⟨0, by omega, rfl, rfl, rfl, xJ, hj, hroot, rfl, _, z4, z5, rfl, by rw [← e]; exact h⟩
        cases k with
        | zero =>
          have q1 : ((61 : Int32) ≤ nI (61 - 0)) = True := by decide
          have go := stop 0 rfl h
          simp (config := { maxSteps := 2000000 }) only [q1, ↓pr_f, ↓xs_cT, ↓xs_cF, ↓lf_0, ↓lf_1, ↓lf_2, ↓lf_3, Bool.not_eq_false, Bool.not_eq_true, kn_0, kn_1, Classical.not_not, bn_0, bn_1, bi_n, bi_0, bi_f, ↓xs_x, ↓xs_kk, xs_s, ↓xs_c, xs_o, ↓xs_p1, ↓xs_pI, ↓xs_pL, ↓xs_pR, ↓xs_vI, ↓xs_vL, ↓xs_vQ, ↓xs_lV0, ↓xs_lVs, ↓xs_pN0, ↓xs_pNs, xs_k0, xs_0eq, xs_0ne, xs_0lt, xs_0ge, xs_0gt, xs_0le, xs_2eq, xs_2ne, xs_2lt, xs_2ge, xs_2gt, xs_2le, xs_catI, xs_catL, xs_catR, xs_sm0, xs_sm1, xs_tl1, xs_tl0, xs_nI, xs_fI, ↓xs_putI, ↓xs_putL, ↓xs_putR, fv_0, fv_1, fv_2, fv_3, st1_0, st1_1I, st2_1I, st1_1L, st2_1L, st1_1R, st2_1R, st1_1N, st2_1N, st2_0, st1_s, st2_s, xi_iconst, xi_bipush, xi_iload_n, xi_iload, xi_aload_n, xi_istore_n, xi_istore, xi_iinc, xi_iadd, xi_imul, xi_pop, xi_ifCond, xi_if_icmp, xi_goto, xi_iaload, xi_baload, xi_return_, xs_ivS, xs_ivN, xs_call, k_ic_0, k_ic_1, k_bi_60, k_bi_61, gy_30, gm_30, gy_31, gl_31, gm_31, gy_32, gl_32, gm_32, gy_33, gl_33, gm_33, gy_34, gl_34, gm_34, gy_35, gl_35, gm_35, gy_36, gl_36, gm_36, gy_37, gl_37, gm_37, gy_38, gl_38, gm_38, gy_39, gl_39, gm_39, gy_40, gl_40, gm_40, gy_41, gl_41, gm_41, gy_42, gl_42, gm_42, gy_43, gl_43, gm_43, gy_44, gl_44, gm_44, gy_45, gl_45, gm_45, gy_46, gl_46, gm_46, gy_47, gl_47, gm_47, gy_48, gl_48, gm_48, gy_49, gl_49, gm_49, gy_50, gl_50, gm_50, gy_51, gl_51, gm_51, gy_52, gl_52, gm_52, gy_53, gl_53, gm_53, gy_54, gl_54, gm_54, gy_55, gl_55, gm_55, gy_56, gl_56, gm_56, gy_57, gl_57, gm_57, gm_999, gr_30_13, gr_30_14, gr_30_15, gr_30_18, gf_5_1, gf_5_13, gf_5_14, gf_5_15, gf_5_18, gs_1, gs_2, gs_3, gg_i, gg_z, gg_l, gg_o, gg_a, gi_s, gi_a, List.toList_toArray, Nat.reduceAdd, Int.reduceAdd, Nat.reduceLeDiff, Nat.reduceLT, Nat.reduceEqDiff, ↓reduceIte, ne_eq, not_false_eq_true, true_imp_iff, false_imp_iff, not_true_eq_false, implies_true, Jvm.ClassFile.FieldType.object.injEq, exists_eq_left', exists_eq_left, decide_eq_true_eq, true_and, and_true, true_or, or_true, false_or, or_false, Nat.le_refl, forall_const, Fin.isValue, Fin.val_zero, Fin.val_one, reduceCtorEq, Nat.zero_add, Int.zero_add, Int.add_zero, Option.some.injEq, Sum.inl.injEq, Sum.inr.injEq, Prod.mk.injEq, and_self, eq_self, xg_f fl_5_13, xg_f fl_5_51, xg_f fl_5_54, xg_f fl_5_57, xg_f fl_5_66, xv_f mt_5_188, xv_f mt_5_200, xv_f mt_5_220, xv_f mt_5_223, d90_0, d90_1, d90_4, d90_5, d90_8, d90_9, d90_10, d90_11, d90_12, d90_13, d90_14, d90_15, d90_17, d90_20, d90_21, d90_24, d90_25, d90_27, d90_28, d90_29, d90_30, d90_31, d90_34, d90_35, d90_38, d90_41, d90_42, d90_44, d90_45, d90_46, d90_48, d90_51, d90_53, d90_55, d90_58, d90_60, d90_62, d90_63, d90_64, d90_66, d90_69, d90_71, d90_74, d90_75, d90_78, d90_81, d90_82, d90_83, d90_85, d90_88, d90_91, d90_94, d90_95, d90_98, d90_101, d90_102, d90_103, d90_104, d90_105, d90_106, d90_107, d90_108, d90_109, d90_112, d90_113, d90_116, d90_117, d90_118, d90_119, d90_122, d90_125, d90_126, fl_5_13, fl_5_51, fl_5_54, fl_5_57, fl_5_66, mt_5_188, mt_5_200, mt_5_220, mt_5_223, jt_17_77, jt_31_63, jt_38_56, jt_55_19, jt_71_m18, jt_78_10, jt_91_m77, jt_98_4, jp_17_77, jp_31_63, jp_38_56, jp_55_19, jp_71_m18, jp_78_10, jp_91_m77, jp_98_4]
          first | exact go
        | succ k =>
          have q1 : ((61 : Int32) ≤ nI (61 - (k + 1))) = False := eq_false (nI_ge (b := 61) (by omega) (by decide))
          by_cases q2 : M'.1 44 0 (nI j * 60 + root).toNatClampNeg = 0
          · by_cases q3 : M'.1 30 0 1 = 0
            · have xE := q3
              obtain ⟨t1, t2⟩ := xT q2 q3
              have hh : t_turns (nI j) root (k + 1) M' = t_turns (nI j) root k (t_turnE (nI j) (t_desc (nI j) 8 M' root)) := if_pos ⟨q2, q3⟩
              rw [hh] at h
              have kn : KO M' (t_needs M' (nI j) root).2 := needs_keep
              have lr := hnd.2.1
              have go : ∃ k1, k1 < 100 * (k + 1) + 50 ∧ p_qbody j root Post k1 53 [some (.inr (.inr (some (30, 0)))), some (.inl (nI j)), some (.inl root), some (.inl (nI (61 - (k + 1)))), some (.inl root), some (.inl (t_needs M' (nI j) root).1)] [] (t_needs M' (nI j) root).2 0 0 := by
                refine ⟨100 * k + 60 + 7, by omega, rfl, rfl, rfl, xJ.ko kn, by rw [kn.2.2]; exact hj, (kp_hasNode kn.1.kp _).trans hroot, k, 7, root, (t_needs M' (nI j) root).1, rfl, by omega, by decide, rfl, (kp_hasNode kn.1.kp _).trans hroot, fun z => ?_, fun z z15 => ?_, t1, t2, h⟩
                · obtain ⟨ok, -⟩ := needs_ok xN z
                  refine ⟨(kp_hasNode kn.1.kp _).trans ok.1, ?_⟩
                  rw [kp_lv kn.1.kp]
                  have := ok.2
                  show _ ≤ (7 : Int)
                  omega
                · rw [kn.1.2.1 2 (by decide)] at z15
                  exact needs_15 z z15
              simp (config := { maxSteps := 2000000 }) only [hG, hi, r12, q1, q2, q3, xN, ↓g78, ↓e_qneeds, mk_78, ↓pr_f, ↓xs_cT, ↓xs_cF, ↓lf_0, ↓lf_1, ↓lf_2, ↓lf_3, Bool.not_eq_false, Bool.not_eq_true, kn_0, kn_1, Classical.not_not, bn_0, bn_1, bi_n, bi_0, bi_f, ↓xs_x, ↓xs_kk, xs_s, ↓xs_c, xs_o, ↓xs_p1, ↓xs_pI, ↓xs_pL, ↓xs_pR, ↓xs_vI, ↓xs_vL, ↓xs_vQ, ↓xs_lV0, ↓xs_lVs, ↓xs_pN0, ↓xs_pNs, xs_k0, xs_0eq, xs_0ne, xs_0lt, xs_0ge, xs_0gt, xs_0le, xs_2eq, xs_2ne, xs_2lt, xs_2ge, xs_2gt, xs_2le, xs_catI, xs_catL, xs_catR, xs_sm0, xs_sm1, xs_tl1, xs_tl0, xs_nI, xs_fI, ↓xs_putI, ↓xs_putL, ↓xs_putR, fv_0, fv_1, fv_2, fv_3, st1_0, st1_1I, st2_1I, st1_1L, st2_1L, st1_1R, st2_1R, st1_1N, st2_1N, st2_0, st1_s, st2_s, xi_iconst, xi_bipush, xi_iload_n, xi_iload, xi_aload_n, xi_istore_n, xi_istore, xi_iinc, xi_iadd, xi_imul, xi_pop, xi_ifCond, xi_if_icmp, xi_goto, xi_iaload, xi_baload, xi_return_, xs_ivS, xs_ivN, xs_call, k_ic_0, k_ic_1, k_bi_60, k_bi_61, gy_30, gm_30, gy_31, gl_31, gm_31, gy_32, gl_32, gm_32, gy_33, gl_33, gm_33, gy_34, gl_34, gm_34, gy_35, gl_35, gm_35, gy_36, gl_36, gm_36, gy_37, gl_37, gm_37, gy_38, gl_38, gm_38, gy_39, gl_39, gm_39, gy_40, gl_40, gm_40, gy_41, gl_41, gm_41, gy_42, gl_42, gm_42, gy_43, gl_43, gm_43, gy_44, gl_44, gm_44, gy_45, gl_45, gm_45, gy_46, gl_46, gm_46, gy_47, gl_47, gm_47, gy_48, gl_48, gm_48, gy_49, gl_49, gm_49, gy_50, gl_50, gm_50, gy_51, gl_51, gm_51, gy_52, gl_52, gm_52, gy_53, gl_53, gm_53, gy_54, gl_54, gm_54, gy_55, gl_55, gm_55, gy_56, gl_56, gm_56, gy_57, gl_57, gm_57, gm_999, gr_30_13, gr_30_14, gr_30_15, gr_30_18, gf_5_1, gf_5_13, gf_5_14, gf_5_15, gf_5_18, gs_1, gs_2, gs_3, gg_i, gg_z, gg_l, gg_o, gg_a, gi_s, gi_a, List.toList_toArray, Nat.reduceAdd, Int.reduceAdd, Nat.reduceLeDiff, Nat.reduceLT, Nat.reduceEqDiff, ↓reduceIte, ne_eq, not_false_eq_true, true_imp_iff, false_imp_iff, not_true_eq_false, implies_true, Jvm.ClassFile.FieldType.object.injEq, exists_eq_left', exists_eq_left, decide_eq_true_eq, true_and, and_true, true_or, or_true, false_or, or_false, Nat.le_refl, forall_const, Fin.isValue, Fin.val_zero, Fin.val_one, reduceCtorEq, Nat.zero_add, Int.zero_add, Int.add_zero, Option.some.injEq, Sum.inl.injEq, Sum.inr.injEq, Prod.mk.injEq, and_self, eq_self, xg_f fl_5_13, xg_f fl_5_51, xg_f fl_5_54, xg_f fl_5_57, xg_f fl_5_66, xv_f mt_5_188, xv_f mt_5_200, xv_f mt_5_220, xv_f mt_5_223, d90_0, d90_1, d90_4, d90_5, d90_8, d90_9, d90_10, d90_11, d90_12, d90_13, d90_14, d90_15, d90_17, d90_20, d90_21, d90_24, d90_25, d90_27, d90_28, d90_29, d90_30, d90_31, d90_34, d90_35, d90_38, d90_41, d90_42, d90_44, d90_45, d90_46, d90_48, d90_51, d90_53, d90_55, d90_58, d90_60, d90_62, d90_63, d90_64, d90_66, d90_69, d90_71, d90_74, d90_75, d90_78, d90_81, d90_82, d90_83, d90_85, d90_88, d90_91, d90_94, d90_95, d90_98, d90_101, d90_102, d90_103, d90_104, d90_105, d90_106, d90_107, d90_108, d90_109, d90_112, d90_113, d90_116, d90_117, d90_118, d90_119, d90_122, d90_125, d90_126, fl_5_13, fl_5_51, fl_5_54, fl_5_57, fl_5_66, mt_5_188, mt_5_200, mt_5_220, mt_5_223, jt_17_77, jt_31_63, jt_38_56, jt_55_19, jt_71_m18, jt_78_10, jt_91_m77, jt_98_4, jp_17_77, jp_31_63, jp_38_56, jp_55_19, jp_71_m18, jp_78_10, jp_91_m77, jp_98_4]
              first | exact go
            · have go := stop (k + 1) (if_neg fun z => q3 z.2) h
              simp (config := { maxSteps := 2000000 }) only [hG, hi, r12, q1, q2, q3, ↓pr_f, ↓xs_cT, ↓xs_cF, ↓lf_0, ↓lf_1, ↓lf_2, ↓lf_3, Bool.not_eq_false, Bool.not_eq_true, kn_0, kn_1, Classical.not_not, bn_0, bn_1, bi_n, bi_0, bi_f, ↓xs_x, ↓xs_kk, xs_s, ↓xs_c, xs_o, ↓xs_p1, ↓xs_pI, ↓xs_pL, ↓xs_pR, ↓xs_vI, ↓xs_vL, ↓xs_vQ, ↓xs_lV0, ↓xs_lVs, ↓xs_pN0, ↓xs_pNs, xs_k0, xs_0eq, xs_0ne, xs_0lt, xs_0ge, xs_0gt, xs_0le, xs_2eq, xs_2ne, xs_2lt, xs_2ge, xs_2gt, xs_2le, xs_catI, xs_catL, xs_catR, xs_sm0, xs_sm1, xs_tl1, xs_tl0, xs_nI, xs_fI, ↓xs_putI, ↓xs_putL, ↓xs_putR, fv_0, fv_1, fv_2, fv_3, st1_0, st1_1I, st2_1I, st1_1L, st2_1L, st1_1R, st2_1R, st1_1N, st2_1N, st2_0, st1_s, st2_s, xi_iconst, xi_bipush, xi_iload_n, xi_iload, xi_aload_n, xi_istore_n, xi_istore, xi_iinc, xi_iadd, xi_imul, xi_pop, xi_ifCond, xi_if_icmp, xi_goto, xi_iaload, xi_baload, xi_return_, xs_ivS, xs_ivN, xs_call, k_ic_0, k_ic_1, k_bi_60, k_bi_61, gy_30, gm_30, gy_31, gl_31, gm_31, gy_32, gl_32, gm_32, gy_33, gl_33, gm_33, gy_34, gl_34, gm_34, gy_35, gl_35, gm_35, gy_36, gl_36, gm_36, gy_37, gl_37, gm_37, gy_38, gl_38, gm_38, gy_39, gl_39, gm_39, gy_40, gl_40, gm_40, gy_41, gl_41, gm_41, gy_42, gl_42, gm_42, gy_43, gl_43, gm_43, gy_44, gl_44, gm_44, gy_45, gl_45, gm_45, gy_46, gl_46, gm_46, gy_47, gl_47, gm_47, gy_48, gl_48, gm_48, gy_49, gl_49, gm_49, gy_50, gl_50, gm_50, gy_51, gl_51, gm_51, gy_52, gl_52, gm_52, gy_53, gl_53, gm_53, gy_54, gl_54, gm_54, gy_55, gl_55, gm_55, gy_56, gl_56, gm_56, gy_57, gl_57, gm_57, gm_999, gr_30_13, gr_30_14, gr_30_15, gr_30_18, gf_5_1, gf_5_13, gf_5_14, gf_5_15, gf_5_18, gs_1, gs_2, gs_3, gg_i, gg_z, gg_l, gg_o, gg_a, gi_s, gi_a, List.toList_toArray, Nat.reduceAdd, Int.reduceAdd, Nat.reduceLeDiff, Nat.reduceLT, Nat.reduceEqDiff, ↓reduceIte, ne_eq, not_false_eq_true, true_imp_iff, false_imp_iff, not_true_eq_false, implies_true, Jvm.ClassFile.FieldType.object.injEq, exists_eq_left', exists_eq_left, decide_eq_true_eq, true_and, and_true, true_or, or_true, false_or, or_false, Nat.le_refl, forall_const, Fin.isValue, Fin.val_zero, Fin.val_one, reduceCtorEq, Nat.zero_add, Int.zero_add, Int.add_zero, Option.some.injEq, Sum.inl.injEq, Sum.inr.injEq, Prod.mk.injEq, and_self, eq_self, xg_f fl_5_13, xg_f fl_5_51, xg_f fl_5_54, xg_f fl_5_57, xg_f fl_5_66, xv_f mt_5_188, xv_f mt_5_200, xv_f mt_5_220, xv_f mt_5_223, d90_0, d90_1, d90_4, d90_5, d90_8, d90_9, d90_10, d90_11, d90_12, d90_13, d90_14, d90_15, d90_17, d90_20, d90_21, d90_24, d90_25, d90_27, d90_28, d90_29, d90_30, d90_31, d90_34, d90_35, d90_38, d90_41, d90_42, d90_44, d90_45, d90_46, d90_48, d90_51, d90_53, d90_55, d90_58, d90_60, d90_62, d90_63, d90_64, d90_66, d90_69, d90_71, d90_74, d90_75, d90_78, d90_81, d90_82, d90_83, d90_85, d90_88, d90_91, d90_94, d90_95, d90_98, d90_101, d90_102, d90_103, d90_104, d90_105, d90_106, d90_107, d90_108, d90_109, d90_112, d90_113, d90_116, d90_117, d90_118, d90_119, d90_122, d90_125, d90_126, fl_5_13, fl_5_51, fl_5_54, fl_5_57, fl_5_66, mt_5_188, mt_5_200, mt_5_220, mt_5_223, jt_17_77, jt_31_63, jt_38_56, jt_55_19, jt_71_m18, jt_78_10, jt_91_m77, jt_98_4, jp_17_77, jp_31_63, jp_38_56, jp_55_19, jp_71_m18, jp_78_10, jp_91_m77, jp_98_4]
              first | exact go
          · have go := stop (k + 1) (if_neg fun z => q2 z.1) h
            simp (config := { maxSteps := 2000000 }) only [hG, hi, r12, q1, q2, ↓pr_f, ↓xs_cT, ↓xs_cF, ↓lf_0, ↓lf_1, ↓lf_2, ↓lf_3, Bool.not_eq_false, Bool.not_eq_true, kn_0, kn_1, Classical.not_not, bn_0, bn_1, bi_n, bi_0, bi_f, ↓xs_x, ↓xs_kk, xs_s, ↓xs_c, xs_o, ↓xs_p1, ↓xs_pI, ↓xs_pL, ↓xs_pR, ↓xs_vI, ↓xs_vL, ↓xs_vQ, ↓xs_lV0, ↓xs_lVs, ↓xs_pN0, ↓xs_pNs, xs_k0, xs_0eq, xs_0ne, xs_0lt, xs_0ge, xs_0gt, xs_0le, xs_2eq, xs_2ne, xs_2lt, xs_2ge, xs_2gt, xs_2le, xs_catI, xs_catL, xs_catR, xs_sm0, xs_sm1, xs_tl1, xs_tl0, xs_nI, xs_fI, ↓xs_putI, ↓xs_putL, ↓xs_putR, fv_0, fv_1, fv_2, fv_3, st1_0, st1_1I, st2_1I, st1_1L, st2_1L, st1_1R, st2_1R, st1_1N, st2_1N, st2_0, st1_s, st2_s, xi_iconst, xi_bipush, xi_iload_n, xi_iload, xi_aload_n, xi_istore_n, xi_istore, xi_iinc, xi_iadd, xi_imul, xi_pop, xi_ifCond, xi_if_icmp, xi_goto, xi_iaload, xi_baload, xi_return_, xs_ivS, xs_ivN, xs_call, k_ic_0, k_ic_1, k_bi_60, k_bi_61, gy_30, gm_30, gy_31, gl_31, gm_31, gy_32, gl_32, gm_32, gy_33, gl_33, gm_33, gy_34, gl_34, gm_34, gy_35, gl_35, gm_35, gy_36, gl_36, gm_36, gy_37, gl_37, gm_37, gy_38, gl_38, gm_38, gy_39, gl_39, gm_39, gy_40, gl_40, gm_40, gy_41, gl_41, gm_41, gy_42, gl_42, gm_42, gy_43, gl_43, gm_43, gy_44, gl_44, gm_44, gy_45, gl_45, gm_45, gy_46, gl_46, gm_46, gy_47, gl_47, gm_47, gy_48, gl_48, gm_48, gy_49, gl_49, gm_49, gy_50, gl_50, gm_50, gy_51, gl_51, gm_51, gy_52, gl_52, gm_52, gy_53, gl_53, gm_53, gy_54, gl_54, gm_54, gy_55, gl_55, gm_55, gy_56, gl_56, gm_56, gy_57, gl_57, gm_57, gm_999, gr_30_13, gr_30_14, gr_30_15, gr_30_18, gf_5_1, gf_5_13, gf_5_14, gf_5_15, gf_5_18, gs_1, gs_2, gs_3, gg_i, gg_z, gg_l, gg_o, gg_a, gi_s, gi_a, List.toList_toArray, Nat.reduceAdd, Int.reduceAdd, Nat.reduceLeDiff, Nat.reduceLT, Nat.reduceEqDiff, ↓reduceIte, ne_eq, not_false_eq_true, true_imp_iff, false_imp_iff, not_true_eq_false, implies_true, Jvm.ClassFile.FieldType.object.injEq, exists_eq_left', exists_eq_left, decide_eq_true_eq, true_and, and_true, true_or, or_true, false_or, or_false, Nat.le_refl, forall_const, Fin.isValue, Fin.val_zero, Fin.val_one, reduceCtorEq, Nat.zero_add, Int.zero_add, Int.add_zero, Option.some.injEq, Sum.inl.injEq, Sum.inr.injEq, Prod.mk.injEq, and_self, eq_self, xg_f fl_5_13, xg_f fl_5_51, xg_f fl_5_54, xg_f fl_5_57, xg_f fl_5_66, xv_f mt_5_188, xv_f mt_5_200, xv_f mt_5_220, xv_f mt_5_223, d90_0, d90_1, d90_4, d90_5, d90_8, d90_9, d90_10, d90_11, d90_12, d90_13, d90_14, d90_15, d90_17, d90_20, d90_21, d90_24, d90_25, d90_27, d90_28, d90_29, d90_30, d90_31, d90_34, d90_35, d90_38, d90_41, d90_42, d90_44, d90_45, d90_46, d90_48, d90_51, d90_53, d90_55, d90_58, d90_60, d90_62, d90_63, d90_64, d90_66, d90_69, d90_71, d90_74, d90_75, d90_78, d90_81, d90_82, d90_83, d90_85, d90_88, d90_91, d90_94, d90_95, d90_98, d90_101, d90_102, d90_103, d90_104, d90_105, d90_106, d90_107, d90_108, d90_109, d90_112, d90_113, d90_116, d90_117, d90_118, d90_119, d90_122, d90_125, d90_126, fl_5_13, fl_5_51, fl_5_54, fl_5_57, fl_5_66, mt_5_188, mt_5_200, mt_5_220, mt_5_223, jt_17_77, jt_31_63, jt_38_56, jt_55_19, jt_71_m18, jt_78_10, jt_91_m77, jt_98_4, jp_17_77, jp_31_63, jp_38_56, jp_55_19, jp_71_m18, jp_78_10, jp_91_m77, jp_98_4]
            first | exact go
      · obtain ⟨rfl, xJ, hj, hroot, hP⟩ := hP
        obtain ⟨k, L, n, d, rfl, hk, hL, rfl, hn, hd, h15, t1, t2, h⟩ := hP
        show mm_x (5, 6, none, false, 0, 0, none, false) prog_10_method_30_code (mm_gl [(78, k_qneeds), (89, k_qlook), (70, k_qtypeIn), (87, k_qgoes)]) (mm_cutI (fun pc => decide (pc = 14 ∨ pc = 53 ∨ pc = 94)) (p_qbody j root Post) (100 * k + 60 + L)) Post 90 53 [some (.inr (.inr (some (30, 0)))), some (.inl (nI j)), some (.inl root), some (.inl (nI (61 - (k + 1)))), some (.inl n), some (.inl d)] [] M' 0 0
        have go : ∀ x M1 zd, x = nI (61 - (k + 1)) + 1 → t_turnE (nI j) (t_descR (t_desc (nI j) L) n (d, M')) = M1 → JR M1 → nI j < M1.1 30 0 3 → s_hasNode M1 root = true → ∃ k1, k1 < 100 * k + 60 + L ∧ p_qbody j root Post k1 14 [some (.inr (.inr (some (30, 0)))), some (.inl (nI j)), some (.inl root), some (.inl x), some (.inl n), zd] [] M1 0 0 := fun x M1 zd ex e j1 j2 j3 => ⟨100 * k + 50, by omega, rfl, rfl, rfl, j1, j2, j3, k, some (.inl n), zd, rfl, by omega, by rw [ex, nI_1, show 61 - (k + 1) + 1 = 61 - k by omega], e ▸ t2, e ▸ h⟩
        obtain ⟨xN, j20, hf⟩ := xJ.nr hj hj20 hn
        have hG := xJ.1
        by_cases q : 0 ≤ d
        · have q' : (d < 0) = False := eq_false (Int32.not_lt.mpr q)
          obtain ⟨nd, ld⟩ := hd q
          obtain ⟨xNd, -, -⟩ := xJ.nr hj hj20 nd
          have l1 := (xJ.2.1.2.2.1 d nd).1
          obtain ⟨L, rfl⟩ : ∃ L', L = L' + 1 := ⟨L - 1, by omega⟩
          have kn : KO M' (t_needs M' (nI j) d).2 := needs_keep
          have ed : t_descR (t_desc (nI j) (L + 1)) n (d, M') = t_descR (t_desc (nI j) L) d (t_needs M' (nI j) d) := if_pos q
          rw [ed] at t1 t2 h
          have go : ∃ k1, k1 < 100 * k + 60 + (L + 1) ∧ p_qbody j root Post k1 53 [some (.inr (.inr (some (30, 0)))), some (.inl (nI j)), some (.inl root), some (.inl (nI (61 - (k + 1)))), some (.inl d), some (.inl (t_needs M' (nI j) d).1)] [] (t_needs M' (nI j) d).2 0 0 := by
            refine ⟨100 * k + 60 + L, by omega, rfl, rfl, rfl, xJ.ko kn, by rw [kn.2.2]; exact hj, (kp_hasNode kn.1.kp _).trans hroot, k, L, d, (t_needs M' (nI j) d).1, rfl, hk, by omega, rfl, (kp_hasNode kn.1.kp _).trans nd, fun z => ?_, fun z z15 => ?_, t1, t2, h⟩
            · obtain ⟨ok, -⟩ := needs_ok xNd z
              refine ⟨(kp_hasNode kn.1.kp _).trans ok.1, ?_⟩
              rw [kp_lv kn.1.kp]
              have h1 := ok.2
              have h2 : ((L + 1 : Nat) : Int) = (L : Int) + 1 := by omega
              omega
            · rw [kn.1.2.1 2 (by decide)] at z15
              exact needs_15 z z15
          simp (config := { maxSteps := 2000000 }) only [hG, q', xNd, ↓g78, ↓e_qneeds, mk_78, ↓pr_f, ↓xs_cT, ↓xs_cF, ↓lf_0, ↓lf_1, ↓lf_2, ↓lf_3, Bool.not_eq_false, Bool.not_eq_true, kn_0, kn_1, Classical.not_not, bn_0, bn_1, bi_n, bi_0, bi_f, ↓xs_x, ↓xs_kk, xs_s, ↓xs_c, xs_o, ↓xs_p1, ↓xs_pI, ↓xs_pL, ↓xs_pR, ↓xs_vI, ↓xs_vL, ↓xs_vQ, ↓xs_lV0, ↓xs_lVs, ↓xs_pN0, ↓xs_pNs, xs_k0, xs_0eq, xs_0ne, xs_0lt, xs_0ge, xs_0gt, xs_0le, xs_2eq, xs_2ne, xs_2lt, xs_2ge, xs_2gt, xs_2le, xs_catI, xs_catL, xs_catR, xs_sm0, xs_sm1, xs_tl1, xs_tl0, xs_nI, xs_fI, ↓xs_putI, ↓xs_putL, ↓xs_putR, fv_0, fv_1, fv_2, fv_3, st1_0, st1_1I, st2_1I, st1_1L, st2_1L, st1_1R, st2_1R, st1_1N, st2_1N, st2_0, st1_s, st2_s, xi_iconst, xi_bipush, xi_iload_n, xi_iload, xi_aload_n, xi_istore_n, xi_istore, xi_iinc, xi_iadd, xi_imul, xi_pop, xi_ifCond, xi_if_icmp, xi_goto, xi_iaload, xi_baload, xi_return_, xs_ivS, xs_ivN, xs_call, k_ic_0, k_ic_1, k_bi_60, k_bi_61, gy_30, gm_30, gy_31, gl_31, gm_31, gy_32, gl_32, gm_32, gy_33, gl_33, gm_33, gy_34, gl_34, gm_34, gy_35, gl_35, gm_35, gy_36, gl_36, gm_36, gy_37, gl_37, gm_37, gy_38, gl_38, gm_38, gy_39, gl_39, gm_39, gy_40, gl_40, gm_40, gy_41, gl_41, gm_41, gy_42, gl_42, gm_42, gy_43, gl_43, gm_43, gy_44, gl_44, gm_44, gy_45, gl_45, gm_45, gy_46, gl_46, gm_46, gy_47, gl_47, gm_47, gy_48, gl_48, gm_48, gy_49, gl_49, gm_49, gy_50, gl_50, gm_50, gy_51, gl_51, gm_51, gy_52, gl_52, gm_52, gy_53, gl_53, gm_53, gy_54, gl_54, gm_54, gy_55, gl_55, gm_55, gy_56, gl_56, gm_56, gy_57, gl_57, gm_57, gm_999, gr_30_13, gr_30_14, gr_30_15, gr_30_18, gf_5_1, gf_5_13, gf_5_14, gf_5_15, gf_5_18, gs_1, gs_2, gs_3, gg_i, gg_z, gg_l, gg_o, gg_a, gi_s, gi_a, List.toList_toArray, Nat.reduceAdd, Int.reduceAdd, Nat.reduceLeDiff, Nat.reduceLT, Nat.reduceEqDiff, ↓reduceIte, ne_eq, not_false_eq_true, true_imp_iff, false_imp_iff, not_true_eq_false, implies_true, Jvm.ClassFile.FieldType.object.injEq, exists_eq_left', exists_eq_left, decide_eq_true_eq, true_and, and_true, true_or, or_true, false_or, or_false, Nat.le_refl, forall_const, Fin.isValue, Fin.val_zero, Fin.val_one, reduceCtorEq, Nat.zero_add, Int.zero_add, Int.add_zero, Option.some.injEq, Sum.inl.injEq, Sum.inr.injEq, Prod.mk.injEq, and_self, eq_self, xg_f fl_5_13, xg_f fl_5_51, xg_f fl_5_54, xg_f fl_5_57, xg_f fl_5_66, xv_f mt_5_188, xv_f mt_5_200, xv_f mt_5_220, xv_f mt_5_223, d90_0, d90_1, d90_4, d90_5, d90_8, d90_9, d90_10, d90_11, d90_12, d90_13, d90_14, d90_15, d90_17, d90_20, d90_21, d90_24, d90_25, d90_27, d90_28, d90_29, d90_30, d90_31, d90_34, d90_35, d90_38, d90_41, d90_42, d90_44, d90_45, d90_46, d90_48, d90_51, d90_53, d90_55, d90_58, d90_60, d90_62, d90_63, d90_64, d90_66, d90_69, d90_71, d90_74, d90_75, d90_78, d90_81, d90_82, d90_83, d90_85, d90_88, d90_91, d90_94, d90_95, d90_98, d90_101, d90_102, d90_103, d90_104, d90_105, d90_106, d90_107, d90_108, d90_109, d90_112, d90_113, d90_116, d90_117, d90_118, d90_119, d90_122, d90_125, d90_126, fl_5_13, fl_5_51, fl_5_54, fl_5_57, fl_5_66, mt_5_188, mt_5_200, mt_5_220, mt_5_223, jt_17_77, jt_31_63, jt_38_56, jt_55_19, jt_71_m18, jt_78_10, jt_91_m77, jt_98_4, jp_17_77, jp_31_63, jp_38_56, jp_55_19, jp_71_m18, jp_78_10, jp_91_m77, jp_98_4]
          first | exact go
        · have q' : (d < 0) = True := eq_true (Int32.not_le.mp q)
          have ed : t_descR (t_desc (nI j) L) n (d, M') = (n, M') := if_neg q
          rw [ed] at t1 go
          by_cases q3 : M'.1 30 0 1 = 0
          · have lq := lq_of q3 t1 h15
            obtain ⟨c, hc1, hc2, -⟩ := xJ.2.2.2
            have hc : ∃ c, c ≤ 20 ∧ M'.1 30 0 3 = nI c := ⟨c, hc1, hc2⟩
            have kl := look_keep xN lq
            have go := go _ (t_look M' (nI j) n) (some (.inl d)) rfl (if_pos q3) (xJ.look xN lq) (look_cnt xJ.2.2.2 hj hj20) ((kp_hasNode kl.1.kp _).trans hroot)
            simp (config := { maxSteps := 2000000 }) only [hG, q', q3, xN, lq, hc, ↓g89, ↓e_qlook, mk_89, ↓pr_f, ↓xs_cT, ↓xs_cF, ↓lf_0, ↓lf_1, ↓lf_2, ↓lf_3, Bool.not_eq_false, Bool.not_eq_true, kn_0, kn_1, Classical.not_not, bn_0, bn_1, bi_n, bi_0, bi_f, ↓xs_x, ↓xs_kk, xs_s, ↓xs_c, xs_o, ↓xs_p1, ↓xs_pI, ↓xs_pL, ↓xs_pR, ↓xs_vI, ↓xs_vL, ↓xs_vQ, ↓xs_lV0, ↓xs_lVs, ↓xs_pN0, ↓xs_pNs, xs_k0, xs_0eq, xs_0ne, xs_0lt, xs_0ge, xs_0gt, xs_0le, xs_2eq, xs_2ne, xs_2lt, xs_2ge, xs_2gt, xs_2le, xs_catI, xs_catL, xs_catR, xs_sm0, xs_sm1, xs_tl1, xs_tl0, xs_nI, xs_fI, ↓xs_putI, ↓xs_putL, ↓xs_putR, fv_0, fv_1, fv_2, fv_3, st1_0, st1_1I, st2_1I, st1_1L, st2_1L, st1_1R, st2_1R, st1_1N, st2_1N, st2_0, st1_s, st2_s, xi_iconst, xi_bipush, xi_iload_n, xi_iload, xi_aload_n, xi_istore_n, xi_istore, xi_iinc, xi_iadd, xi_imul, xi_pop, xi_ifCond, xi_if_icmp, xi_goto, xi_iaload, xi_baload, xi_return_, xs_ivS, xs_ivN, xs_call, k_ic_0, k_ic_1, k_bi_60, k_bi_61, gy_30, gm_30, gy_31, gl_31, gm_31, gy_32, gl_32, gm_32, gy_33, gl_33, gm_33, gy_34, gl_34, gm_34, gy_35, gl_35, gm_35, gy_36, gl_36, gm_36, gy_37, gl_37, gm_37, gy_38, gl_38, gm_38, gy_39, gl_39, gm_39, gy_40, gl_40, gm_40, gy_41, gl_41, gm_41, gy_42, gl_42, gm_42, gy_43, gl_43, gm_43, gy_44, gl_44, gm_44, gy_45, gl_45, gm_45, gy_46, gl_46, gm_46, gy_47, gl_47, gm_47, gy_48, gl_48, gm_48, gy_49, gl_49, gm_49, gy_50, gl_50, gm_50, gy_51, gl_51, gm_51, gy_52, gl_52, gm_52, gy_53, gl_53, gm_53, gy_54, gl_54, gm_54, gy_55, gl_55, gm_55, gy_56, gl_56, gm_56, gy_57, gl_57, gm_57, gm_999, gr_30_13, gr_30_14, gr_30_15, gr_30_18, gf_5_1, gf_5_13, gf_5_14, gf_5_15, gf_5_18, gs_1, gs_2, gs_3, gg_i, gg_z, gg_l, gg_o, gg_a, gi_s, gi_a, List.toList_toArray, Nat.reduceAdd, Int.reduceAdd, Nat.reduceLeDiff, Nat.reduceLT, Nat.reduceEqDiff, ↓reduceIte, ne_eq, not_false_eq_true, true_imp_iff, false_imp_iff, not_true_eq_false, implies_true, Jvm.ClassFile.FieldType.object.injEq, exists_eq_left', exists_eq_left, decide_eq_true_eq, true_and, and_true, true_or, or_true, false_or, or_false, Nat.le_refl, forall_const, Fin.isValue, Fin.val_zero, Fin.val_one, reduceCtorEq, Nat.zero_add, Int.zero_add, Int.add_zero, Option.some.injEq, Sum.inl.injEq, Sum.inr.injEq, Prod.mk.injEq, and_self, eq_self, xg_f fl_5_13, xg_f fl_5_51, xg_f fl_5_54, xg_f fl_5_57, xg_f fl_5_66, xv_f mt_5_188, xv_f mt_5_200, xv_f mt_5_220, xv_f mt_5_223, d90_0, d90_1, d90_4, d90_5, d90_8, d90_9, d90_10, d90_11, d90_12, d90_13, d90_14, d90_15, d90_17, d90_20, d90_21, d90_24, d90_25, d90_27, d90_28, d90_29, d90_30, d90_31, d90_34, d90_35, d90_38, d90_41, d90_42, d90_44, d90_45, d90_46, d90_48, d90_51, d90_53, d90_55, d90_58, d90_60, d90_62, d90_63, d90_64, d90_66, d90_69, d90_71, d90_74, d90_75, d90_78, d90_81, d90_82, d90_83, d90_85, d90_88, d90_91, d90_94, d90_95, d90_98, d90_101, d90_102, d90_103, d90_104, d90_105, d90_106, d90_107, d90_108, d90_109, d90_112, d90_113, d90_116, d90_117, d90_118, d90_119, d90_122, d90_125, d90_126, fl_5_13, fl_5_51, fl_5_54, fl_5_57, fl_5_66, mt_5_188, mt_5_200, mt_5_220, mt_5_223, jt_17_77, jt_31_63, jt_38_56, jt_55_19, jt_71_m18, jt_78_10, jt_91_m77, jt_98_4, jp_17_77, jp_31_63, jp_38_56, jp_55_19, jp_71_m18, jp_78_10, jp_91_m77, jp_98_4]
            first | exact go
          · have go := go _ M' (some (.inl d)) rfl (if_neg q3) xJ hj hroot
            simp (config := { maxSteps := 2000000 }) only [hG, q', q3, ↓pr_f, ↓xs_cT, ↓xs_cF, ↓lf_0, ↓lf_1, ↓lf_2, ↓lf_3, Bool.not_eq_false, Bool.not_eq_true, kn_0, kn_1, Classical.not_not, bn_0, bn_1, bi_n, bi_0, bi_f, ↓xs_x, ↓xs_kk, xs_s, ↓xs_c, xs_o, ↓xs_p1, ↓xs_pI, ↓xs_pL, ↓xs_pR, ↓xs_vI, ↓xs_vL, ↓xs_vQ, ↓xs_lV0, ↓xs_lVs, ↓xs_pN0, ↓xs_pNs, xs_k0, xs_0eq, xs_0ne, xs_0lt, xs_0ge, xs_0gt, xs_0le, xs_2eq, xs_2ne, xs_2lt, xs_2ge, xs_2gt, xs_2le, xs_catI, xs_catL, xs_catR, xs_sm0, xs_sm1, xs_tl1, xs_tl0, xs_nI, xs_fI, ↓xs_putI, ↓xs_putL, ↓xs_putR, fv_0, fv_1, fv_2, fv_3, st1_0, st1_1I, st2_1I, st1_1L, st2_1L, st1_1R, st2_1R, st1_1N, st2_1N, st2_0, st1_s, st2_s, xi_iconst, xi_bipush, xi_iload_n, xi_iload, xi_aload_n, xi_istore_n, xi_istore, xi_iinc, xi_iadd, xi_imul, xi_pop, xi_ifCond, xi_if_icmp, xi_goto, xi_iaload, xi_baload, xi_return_, xs_ivS, xs_ivN, xs_call, k_ic_0, k_ic_1, k_bi_60, k_bi_61, gy_30, gm_30, gy_31, gl_31, gm_31, gy_32, gl_32, gm_32, gy_33, gl_33, gm_33, gy_34, gl_34, gm_34, gy_35, gl_35, gm_35, gy_36, gl_36, gm_36, gy_37, gl_37, gm_37, gy_38, gl_38, gm_38, gy_39, gl_39, gm_39, gy_40, gl_40, gm_40, gy_41, gl_41, gm_41, gy_42, gl_42, gm_42, gy_43, gl_43, gm_43, gy_44, gl_44, gm_44, gy_45, gl_45, gm_45, gy_46, gl_46, gm_46, gy_47, gl_47, gm_47, gy_48, gl_48, gm_48, gy_49, gl_49, gm_49, gy_50, gl_50, gm_50, gy_51, gl_51, gm_51, gy_52, gl_52, gm_52, gy_53, gl_53, gm_53, gy_54, gl_54, gm_54, gy_55, gl_55, gm_55, gy_56, gl_56, gm_56, gy_57, gl_57, gm_57, gm_999, gr_30_13, gr_30_14, gr_30_15, gr_30_18, gf_5_1, gf_5_13, gf_5_14, gf_5_15, gf_5_18, gs_1, gs_2, gs_3, gg_i, gg_z, gg_l, gg_o, gg_a, gi_s, gi_a, List.toList_toArray, Nat.reduceAdd, Int.reduceAdd, Nat.reduceLeDiff, Nat.reduceLT, Nat.reduceEqDiff, ↓reduceIte, ne_eq, not_false_eq_true, true_imp_iff, false_imp_iff, not_true_eq_false, implies_true, Jvm.ClassFile.FieldType.object.injEq, exists_eq_left', exists_eq_left, decide_eq_true_eq, true_and, and_true, true_or, or_true, false_or, or_false, Nat.le_refl, forall_const, Fin.isValue, Fin.val_zero, Fin.val_one, reduceCtorEq, Nat.zero_add, Int.zero_add, Int.add_zero, Option.some.injEq, Sum.inl.injEq, Sum.inr.injEq, Prod.mk.injEq, and_self, eq_self, xg_f fl_5_13, xg_f fl_5_51, xg_f fl_5_54, xg_f fl_5_57, xg_f fl_5_66, xv_f mt_5_188, xv_f mt_5_200, xv_f mt_5_220, xv_f mt_5_223, d90_0, d90_1, d90_4, d90_5, d90_8, d90_9, d90_10, d90_11, d90_12, d90_13, d90_14, d90_15, d90_17, d90_20, d90_21, d90_24, d90_25, d90_27, d90_28, d90_29, d90_30, d90_31, d90_34, d90_35, d90_38, d90_41, d90_42, d90_44, d90_45, d90_46, d90_48, d90_51, d90_53, d90_55, d90_58, d90_60, d90_62, d90_63, d90_64, d90_66, d90_69, d90_71, d90_74, d90_75, d90_78, d90_81, d90_82, d90_83, d90_85, d90_88, d90_91, d90_94, d90_95, d90_98, d90_101, d90_102, d90_103, d90_104, d90_105, d90_106, d90_107, d90_108, d90_109, d90_112, d90_113, d90_116, d90_117, d90_118, d90_119, d90_122, d90_125, d90_126, fl_5_13, fl_5_51, fl_5_54, fl_5_57, fl_5_66, mt_5_188, mt_5_200, mt_5_220, mt_5_223, jt_17_77, jt_31_63, jt_38_56, jt_55_19, jt_71_m18, jt_78_10, jt_91_m77, jt_98_4, jp_17_77, jp_31_63, jp_38_56, jp_55_19, jp_71_m18, jp_78_10, jp_91_m77, jp_98_4]
            first | exact go
      · obtain ⟨rfl, xJ, hj, hroot, hP⟩ := hP
        obtain ⟨rfl, z3, z4, z5, rfl, h⟩ := hP
        show mm_x (5, 6, none, false, 0, 0, none, false) prog_10_method_30_code (mm_gl [(78, k_qneeds), (89, k_qlook), (70, k_qtypeIn), (87, k_qgoes)]) (mm_cutI (fun pc => decide (pc = 14 ∨ pc = 53 ∨ pc = 94)) (p_qbody j root Post) (0)) Post 90 94 [some (.inr (.inr (some (30, 0)))), some (.inl (nI j)), some (.inl root), z3, z4, z5] [] M' 0 0
        obtain ⟨xN, j20, hf⟩ := xJ.nr hj hj20 hroot
        have hG := xN.1
        obtain ⟨s0, s1, s2, s3, s4, s5, s6, s7, s8, s9, s10⟩ := xN.2.2.1
        have hi := xN.2.2.2.1
        have ho := xN.2.2.2.2.1
        have hn6 := xN.2.1.in60 xN.2.2.2.2.2
        have hnd := xN.2.1.2.2.1 root xN.2.2.2.2.2
        have s36 := s6
        have xS := xN.2.2.1
        have r12 := in12 hi hn6
        by_cases q3 : M'.1 30 0 1 = 0
        · simp only [t_bodyE, q3, if_true] at h
          simp (config := { maxSteps := 2000000 }) only [hG, hi, ho, xS, r12, q3, ↓g70, ↓g87, ↓e_qtypeIn, ↓e_qgoes, mk_70, mk_87, s0, s1, s2, s3, s4, s5, s6, s7, s8, s9, s10, ↓pr_f, ↓xs_cT, ↓xs_cF, ↓lf_0, ↓lf_1, ↓lf_2, ↓lf_3, Bool.not_eq_false, Bool.not_eq_true, kn_0, kn_1, Classical.not_not, bn_0, bn_1, bi_n, bi_0, bi_f, ↓xs_x, ↓xs_kk, xs_s, ↓xs_c, xs_o, ↓xs_p1, ↓xs_pI, ↓xs_pL, ↓xs_pR, ↓xs_vI, ↓xs_vL, ↓xs_vQ, ↓xs_lV0, ↓xs_lVs, ↓xs_pN0, ↓xs_pNs, xs_k0, xs_0eq, xs_0ne, xs_0lt, xs_0ge, xs_0gt, xs_0le, xs_2eq, xs_2ne, xs_2lt, xs_2ge, xs_2gt, xs_2le, xs_catI, xs_catL, xs_catR, xs_sm0, xs_sm1, xs_tl1, xs_tl0, xs_nI, xs_fI, ↓xs_putI, ↓xs_putL, ↓xs_putR, fv_0, fv_1, fv_2, fv_3, st1_0, st1_1I, st2_1I, st1_1L, st2_1L, st1_1R, st2_1R, st1_1N, st2_1N, st2_0, st1_s, st2_s, xi_iconst, xi_bipush, xi_iload_n, xi_iload, xi_aload_n, xi_istore_n, xi_istore, xi_iinc, xi_iadd, xi_imul, xi_pop, xi_ifCond, xi_if_icmp, xi_goto, xi_iaload, xi_baload, xi_return_, xs_ivS, xs_ivN, xs_call, k_ic_0, k_ic_1, k_bi_60, k_bi_61, gy_30, gm_30, gy_31, gl_31, gm_31, gy_32, gl_32, gm_32, gy_33, gl_33, gm_33, gy_34, gl_34, gm_34, gy_35, gl_35, gm_35, gy_36, gl_36, gm_36, gy_37, gl_37, gm_37, gy_38, gl_38, gm_38, gy_39, gl_39, gm_39, gy_40, gl_40, gm_40, gy_41, gl_41, gm_41, gy_42, gl_42, gm_42, gy_43, gl_43, gm_43, gy_44, gl_44, gm_44, gy_45, gl_45, gm_45, gy_46, gl_46, gm_46, gy_47, gl_47, gm_47, gy_48, gl_48, gm_48, gy_49, gl_49, gm_49, gy_50, gl_50, gm_50, gy_51, gl_51, gm_51, gy_52, gl_52, gm_52, gy_53, gl_53, gm_53, gy_54, gl_54, gm_54, gy_55, gl_55, gm_55, gy_56, gl_56, gm_56, gy_57, gl_57, gm_57, gm_999, gr_30_13, gr_30_14, gr_30_15, gr_30_18, gf_5_1, gf_5_13, gf_5_14, gf_5_15, gf_5_18, gs_1, gs_2, gs_3, gg_i, gg_z, gg_l, gg_o, gg_a, gi_s, gi_a, List.toList_toArray, Nat.reduceAdd, Int.reduceAdd, Nat.reduceLeDiff, Nat.reduceLT, Nat.reduceEqDiff, ↓reduceIte, ne_eq, not_false_eq_true, true_imp_iff, false_imp_iff, not_true_eq_false, implies_true, Jvm.ClassFile.FieldType.object.injEq, exists_eq_left', exists_eq_left, decide_eq_true_eq, true_and, and_true, true_or, or_true, false_or, or_false, Nat.le_refl, forall_const, Fin.isValue, Fin.val_zero, Fin.val_one, reduceCtorEq, Nat.zero_add, Int.zero_add, Int.add_zero, Option.some.injEq, Sum.inl.injEq, Sum.inr.injEq, Prod.mk.injEq, and_self, eq_self, xg_f fl_5_13, xg_f fl_5_51, xg_f fl_5_54, xg_f fl_5_57, xg_f fl_5_66, xv_f mt_5_188, xv_f mt_5_200, xv_f mt_5_220, xv_f mt_5_223, d90_0, d90_1, d90_4, d90_5, d90_8, d90_9, d90_10, d90_11, d90_12, d90_13, d90_14, d90_15, d90_17, d90_20, d90_21, d90_24, d90_25, d90_27, d90_28, d90_29, d90_30, d90_31, d90_34, d90_35, d90_38, d90_41, d90_42, d90_44, d90_45, d90_46, d90_48, d90_51, d90_53, d90_55, d90_58, d90_60, d90_62, d90_63, d90_64, d90_66, d90_69, d90_71, d90_74, d90_75, d90_78, d90_81, d90_82, d90_83, d90_85, d90_88, d90_91, d90_94, d90_95, d90_98, d90_101, d90_102, d90_103, d90_104, d90_105, d90_106, d90_107, d90_108, d90_109, d90_112, d90_113, d90_116, d90_117, d90_118, d90_119, d90_122, d90_125, d90_126, fl_5_13, fl_5_51, fl_5_54, fl_5_57, fl_5_66, mt_5_188, mt_5_200, mt_5_220, mt_5_223, jt_17_77, jt_31_63, jt_38_56, jt_55_19, jt_71_m18, jt_78_10, jt_91_m77, jt_98_4, jp_17_77, jp_31_63, jp_38_56, jp_55_19, jp_71_m18, jp_78_10, jp_91_m77, jp_98_4]
          first | exact h
        · simp only [t_bodyE, q3, if_false] at h
          simp (config := { maxSteps := 2000000 }) only [hG, q3, ↓pr_f, ↓xs_cT, ↓xs_cF, ↓lf_0, ↓lf_1, ↓lf_2, ↓lf_3, Bool.not_eq_false, Bool.not_eq_true, kn_0, kn_1, Classical.not_not, bn_0, bn_1, bi_n, bi_0, bi_f, ↓xs_x, ↓xs_kk, xs_s, ↓xs_c, xs_o, ↓xs_p1, ↓xs_pI, ↓xs_pL, ↓xs_pR, ↓xs_vI, ↓xs_vL, ↓xs_vQ, ↓xs_lV0, ↓xs_lVs, ↓xs_pN0, ↓xs_pNs, xs_k0, xs_0eq, xs_0ne, xs_0lt, xs_0ge, xs_0gt, xs_0le, xs_2eq, xs_2ne, xs_2lt, xs_2ge, xs_2gt, xs_2le, xs_catI, xs_catL, xs_catR, xs_sm0, xs_sm1, xs_tl1, xs_tl0, xs_nI, xs_fI, ↓xs_putI, ↓xs_putL, ↓xs_putR, fv_0, fv_1, fv_2, fv_3, st1_0, st1_1I, st2_1I, st1_1L, st2_1L, st1_1R, st2_1R, st1_1N, st2_1N, st2_0, st1_s, st2_s, xi_iconst, xi_bipush, xi_iload_n, xi_iload, xi_aload_n, xi_istore_n, xi_istore, xi_iinc, xi_iadd, xi_imul, xi_pop, xi_ifCond, xi_if_icmp, xi_goto, xi_iaload, xi_baload, xi_return_, xs_ivS, xs_ivN, xs_call, k_ic_0, k_ic_1, k_bi_60, k_bi_61, gy_30, gm_30, gy_31, gl_31, gm_31, gy_32, gl_32, gm_32, gy_33, gl_33, gm_33, gy_34, gl_34, gm_34, gy_35, gl_35, gm_35, gy_36, gl_36, gm_36, gy_37, gl_37, gm_37, gy_38, gl_38, gm_38, gy_39, gl_39, gm_39, gy_40, gl_40, gm_40, gy_41, gl_41, gm_41, gy_42, gl_42, gm_42, gy_43, gl_43, gm_43, gy_44, gl_44, gm_44, gy_45, gl_45, gm_45, gy_46, gl_46, gm_46, gy_47, gl_47, gm_47, gy_48, gl_48, gm_48, gy_49, gl_49, gm_49, gy_50, gl_50, gm_50, gy_51, gl_51, gm_51, gy_52, gl_52, gm_52, gy_53, gl_53, gm_53, gy_54, gl_54, gm_54, gy_55, gl_55, gm_55, gy_56, gl_56, gm_56, gy_57, gl_57, gm_57, gm_999, gr_30_13, gr_30_14, gr_30_15, gr_30_18, gf_5_1, gf_5_13, gf_5_14, gf_5_15, gf_5_18, gs_1, gs_2, gs_3, gg_i, gg_z, gg_l, gg_o, gg_a, gi_s, gi_a, List.toList_toArray, Nat.reduceAdd, Int.reduceAdd, Nat.reduceLeDiff, Nat.reduceLT, Nat.reduceEqDiff, ↓reduceIte, ne_eq, not_false_eq_true, true_imp_iff, false_imp_iff, not_true_eq_false, implies_true, Jvm.ClassFile.FieldType.object.injEq, exists_eq_left', exists_eq_left, decide_eq_true_eq, true_and, and_true, true_or, or_true, false_or, or_false, Nat.le_refl, forall_const, Fin.isValue, Fin.val_zero, Fin.val_one, reduceCtorEq, Nat.zero_add, Int.zero_add, Int.add_zero, Option.some.injEq, Sum.inl.injEq, Sum.inr.injEq, Prod.mk.injEq, and_self, eq_self, xg_f fl_5_13, xg_f fl_5_51, xg_f fl_5_54, xg_f fl_5_57, xg_f fl_5_66, xv_f mt_5_188, xv_f mt_5_200, xv_f mt_5_220, xv_f mt_5_223, d90_0, d90_1, d90_4, d90_5, d90_8, d90_9, d90_10, d90_11, d90_12, d90_13, d90_14, d90_15, d90_17, d90_20, d90_21, d90_24, d90_25, d90_27, d90_28, d90_29, d90_30, d90_31, d90_34, d90_35, d90_38, d90_41, d90_42, d90_44, d90_45, d90_46, d90_48, d90_51, d90_53, d90_55, d90_58, d90_60, d90_62, d90_63, d90_64, d90_66, d90_69, d90_71, d90_74, d90_75, d90_78, d90_81, d90_82, d90_83, d90_85, d90_88, d90_91, d90_94, d90_95, d90_98, d90_101, d90_102, d90_103, d90_104, d90_105, d90_106, d90_107, d90_108, d90_109, d90_112, d90_113, d90_116, d90_117, d90_118, d90_119, d90_122, d90_125, d90_126, fl_5_13, fl_5_51, fl_5_54, fl_5_57, fl_5_66, mt_5_188, mt_5_200, mt_5_220, mt_5_223, jt_17_77, jt_31_63, jt_38_56, jt_55_19, jt_71_m18, jt_78_10, jt_91_m77, jt_98_4, jp_17_77, jp_31_63, jp_38_56, jp_55_19, jp_71_m18, jp_78_10, jp_91_m77, jp_98_4]
          first | exact h
end MMD
