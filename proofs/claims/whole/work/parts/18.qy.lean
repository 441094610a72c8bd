/-! running, all nodes -/
theorem e1_iff {e : Nat} (h : e ≤ 3000) : (nI e + 1 ≤ 3000 ↔ e < 3000) ∧ (nI e < 3000 ↔ e < 3000) := by
  rw [nI_1, Int32.le_iff_toInt_le, Int32.lt_iff_toInt_lt, nI_ti (by omega), nI_ti (by omega), show (3000 : Int32).toInt = 3000 by decide]
  omega
theorem runs_0 {C R0 : mm_M} (hR : SR C R0) : RUNS C R0 0 := fun M R j n x y u d e g hN hL l1 l2 => by
  have := (hR.2.2.1.2.2.1 n hN).1
  obtain ⟨-, -, -, -, hu, -⟩ := g
  omega
theorem tv_nt {t : Int32} {v : Int64} (ht : TV t) (h : s_holds t v = true) : s_isTrap v = false := by
  have s := ht.sm h
  unfold s_isTrap
  rw [decide_eq_false_iff_not, Int64.lt_iff_toInt_lt, show (1000000000000000 : Int64).toInt = 1000000000000000 by decide]
  have := s.2
  omega
theorem runs_s {C R0 : mm_M} {F : Nat} (hR : SR C R0) (ih : RUNS C R0 F) : RUNS C R0 (F + 1) := fun M R j n x y u d e g hN hL l1 l2 => by
  obtain ⟨hM, hZ, hj, hc, hu, hW, he, hn2, hcc, h49, hA⟩ := g
  have n6 := hR.2.2.1.in60 hN
  have hnd := hR.2.2.1.2.2.1 n hN
  have ln := hnd.1
  obtain ⟨i1, i2⟩ := e1_iff he
  unfold s_rn t_enter
  rw [hW.2.2.2, hn2]
  by_cases q : e < 3000
  · rw [if_pos (i1.mpr q), if_pos (i2.mpr q), nI_1]
    have hM1 : KM C (mm_sI M 21 0 2 (nI (e + 1))) := hM.tr KM.s
    have M2 : (mm_sI M 21 0 2 (nI (e + 1))).1 21 0 2 = nI (e + 1) := by
      show mm_u M.1 21 0 2 (nI (e + 1)) 21 0 2 = _
      rw [mm_u_own, if_pos rfl]
    have M3 : (mm_sI M 21 0 2 (nI (e + 1))).1 21 0 3 = M.1 21 0 3 := by
      show mm_u M.1 21 0 2 (nI (e + 1)) 21 0 3 = _
      rw [mm_u_own, if_neg (by decide)]
    generalize mm_sI M 21 0 2 (nI (e + 1)) = M1 at *
    have a1 : ∀ g, g ≠ 30 → (mm_sI R 30 0 32 (nI (e + 1))).1 g = R.1 g := fun g hg => mm_u_row' hg
    have a2 : ∀ k, (mm_sI R 30 0 32 (nI (e + 1))).1 30 0 k = if k = 32 then nI (e + 1) else R.1 30 0 k := fun k => by
      show mm_u R.1 30 0 32 _ 30 0 k = _
      rw [mm_u_own]
    have a3 : (mm_sI R 30 0 32 (nI (e + 1))).2 = R.2 := rfl
    have a4 : KZ R0 (mm_sI R 30 0 32 (nI (e + 1))) := hZ.sI (Or.inr ⟨rfl, by decide⟩)
    generalize mm_sI R 30 0 32 (nI (e + 1)) = R1 at *
    obtain ⟨t1, t2, t3, -, tw⟩ := hR.at a4 hj hc n6 hL
    have e31 : (R1.1 30 0 31).toNatClampNeg = u := by
      rw [a2, if_neg (by decide), hW.2.1, nI_clamp (by omega)]
    have e49 : R1.1 49 0 u = nI j := by rw [a1 49 (by decide)]; exact h49
    have ws1 : WS R1 d u (e + 1) := by
      refine ⟨?_, ?_, ?_, ?_⟩
      · rw [a2, if_neg (by decide)]
        exact hW.1
      · rw [a2, if_neg (by decide)]
        exact hW.2.1
      · rw [a3]
        exact hW.2.2.1
      · rw [a2, if_pos rfl]
    have c4 : R1.1 30 0 4 = M1.1 21 0 3 := by
      rw [a2, if_neg (by decide), M3]
      exact hcc
    have kb1 : KB d u R R1 := ⟨fun k _ => ⟨by rw [a1 50 (by decide)], by rw [a1 51 (by decide)], by rw [a3]⟩, fun k _ => ⟨by rw [a1 49 (by decide)], by rw [a3], by rw [a3]⟩⟩
    -- a value that is there at once
    have now : ∀ v : Int64, VL C j n v → OUT C R0 d u e 0 R (mm_sL R1 30 0 33 v) (v, M1) (VL C j n) := fun v hv => by
      have nt : s_isTrap v = false := tv_nt (tw.2.2 hL).1 hv.1
      have b1 : (mm_sL R1 30 0 33 v).1 = R1.1 := rfl
      have b2 : ∀ g, g ≠ 30 → (mm_sL R1 30 0 33 v).2.1 g = R1.2.1 g := fun g hg => mm_u_row' hg
      have b3 : ∀ k, (mm_sL R1 30 0 33 v).2.1 30 0 k = if k = 33 then v else R1.2.1 30 0 k := fun k => by
        show mm_u R1.2.1 30 0 33 _ 30 0 k = _
        rw [mm_u_own]
      have b4 : KZ R0 (mm_sL R1 30 0 33 v) := a4.sL (Or.inr rfl)
      generalize mm_sL R1 30 0 33 v = Y at *
      refine OUT.ent (OUT.val b4 hM1 (by omega) (by rw [b1]; exact c4) nt hv (by rw [b3, if_pos rfl]) M2 ⟨by rw [b1]; exact ws1.1, by rw [b1]; exact ws1.2.1, ?_, by rw [b1]; exact ws1.2.2.2⟩ (kb1.tr ⟨fun k _ => ⟨by rw [b1], by rw [b1], by rw [b2 54 (by decide)]⟩, fun k _ => ⟨by rw [b1], by rw [b2 52 (by decide)], by rw [b2 53 (by decide)]⟩⟩))
      rw [b3, if_neg (by decide)]
      exact ws1.2.2.1
    unfold s_rk t_ent2
    rw [hM1.2 18 (by decide), hM1.2 2 (by decide), hM1.2 3 (by decide), hM1.1, e31, e49, t2]
    by_cases k0 : C.1 18 j n.toNatClampNeg = 0
    · rw [if_pos k0, if_pos k0]
      have nc := (hR.2.1.1 j hj hc _ (clamp_i n6).2 hL).2 k0
      have s31 : R1.1 31 0 = C.1 2 0 := by
        have := (a4.sp hR.2.2.2.2.2).2.1
        rw [this, hR.row a4 2 (by decide)]
      have s32 : R1.1 32 0 = C.1 3 0 := by
        have := (a4.sp hR.2.2.2.2.2).2.2.1
        rw [this, hR.row a4 3 (by decide)]
      rw [s31, s32]
      by_cases k1 : C.1 2 0 n.toNatClampNeg = 1
      · rw [if_pos k1, if_pos k1]
        obtain ⟨p1, p2⟩ : N1 C j n.toNatClampNeg := by
          rcases nc with ⟨-, q⟩ | ⟨q, -⟩ | ⟨q, -⟩ | ⟨q, -⟩ | ⟨q, -⟩
          · exact q
          · rw [k1] at q
            exact absurd q (by decide)
          · rw [k1] at q
            exact absurd q (by decide)
          · rw [k1] at q
            exact absurd q (by decide)
          · exact absurd k1 q.2.1
        have h01 := hnd.2.2.2.1 k1
        have l4 : ¬ C.1 17 j n.toNatClampNeg = 400 := hL
        rw [p1] at p2 l4
        rw [a3]
        rcases h01 with z | z
        · rw [if_pos z, if_pos z]
          rw [z] at p1 p2 l4
          obtain ⟨v1, v2⟩ := hA.1 (isRun_iff.mpr ⟨p2, l4⟩)
          rw [v1]
          exact now x ⟨by rw [p1]; exact v2, fun y => absurd k0 y⟩
        · have z1 : ¬ C.1 3 0 n.toNatClampNeg = 0 := by rw [z]; decide
          rw [if_neg z1, if_neg z1]
          rw [z] at p1 p2 l4
          obtain ⟨v1, v2⟩ := hA.2 (isRun_iff.mpr ⟨p2, l4⟩)
          rw [v1]
          exact now y ⟨by rw [p1]; exact v2, fun y => absurd k0 y⟩
      · rw [if_neg k1, if_neg k1]
        -- it is pushed
        have ed : (R1.1 30 0 30).toNatClampNeg = d := by rw [ws1.1, nI_clamp (by omega)]
        have X1 : (t_push R1 n).1 = mm_u (mm_u (mm_u R1.1 50 0 d n) 51 0 d 0) 30 0 30 (nI (d + 1)) := by
          unfold t_push
          rw [ed, ws1.1, nI_1]
          rfl
        have X2 : (t_push R1 n).2 = R1.2 := rfl
        have X3 : KZ R0 (t_push R1 n) := a4.push
        generalize t_push R1 n = X at *
        have r30 : ∀ k, X.1 30 0 k = if k = 30 then nI (d + 1) else R1.1 30 0 k := fun k => by rw [X1, mm_u_own, mm_u_row' (by decide), mm_u_row' (by decide)]
        have r50 : ∀ k, X.1 50 0 k = if k = d then n else R1.1 50 0 k := fun k => by rw [X1, mm_u_row' (by decide), mm_u_row' (by decide), mm_u_own]
        have r51 : ∀ k, X.1 51 0 k = if k = d then 0 else R1.1 51 0 k := fun k => by rw [X1, mm_u_row' (by decide), mm_u_own, mm_u_row' (by decide)]
        have r49 : X.1 49 = R1.1 49 := by rw [X1, mm_u_row' (by decide), mm_u_row' (by decide), mm_u_row' (by decide)]
        have ctx : CTX C R0 R X M1 F d u (e + 1) j n 0 x y := by
          refine ⟨hR, ih, ⟨X3, ⟨?_, ?_, ?_, ?_⟩, ?_, ?_, ?_, ?_, ?_, ?_⟩, hM1, hj, hc, hu, by omega, M2, hN, hL, k0, ?_, l2⟩
          · rw [r30, if_pos rfl]
          · rw [r30, if_neg (by decide)]
            exact ws1.2.1
          · rw [X2]
            exact ws1.2.2.1
          · rw [r30, if_neg (by decide)]
            exact ws1.2.2.2
          · rw [r50, if_pos rfl]
          · rw [r51, if_pos rfl]
          · exact kb1.tr ⟨fun k hk => ⟨by rw [r50, if_neg (by omega)], by rw [r51, if_neg (by omega)], by rw [X2]⟩, fun k _ => ⟨by rw [r49], by rw [X2], by rw [X2]⟩⟩
          · rw [r49]
            exact e49
          · unfold ARG at *
            rw [X2, a3]
            exact hA
          · rw [r30, if_neg (by decide)]
            exact c4
          · have : ((F + 1 : Nat) : Int) = (F : Int) + 1 := by omega
            omega
        refine OUT.ent ?_
        by_cases k13 : C.1 2 0 n.toNatClampNeg = 13
        · rw [if_pos k13]
          exact if_run ctx k13
        rw [if_neg k13]
        by_cases k14 : C.1 2 0 n.toNatClampNeg = 14
        · rw [if_pos k14]
          exact cast_run ctx k14
        rw [if_neg k14]
        by_cases k15 : C.1 2 0 n.toNatClampNeg = 15
        · rw [if_pos k15]
          exact call_run ctx k15
        rw [if_neg k15]
        refine pair_run ctx ?_
        rcases nc with ⟨q, -⟩ | ⟨q, -⟩ | ⟨q, -⟩ | ⟨q, -⟩ | ⟨q, -⟩
        · exact absurd q k1
        · exact absurd q k13
        · exact absurd q k14
        · exact absurd q k15
        · exact q
    · rw [if_neg k0, if_neg k0]
      have k1 := tw.2.1.resolve_left k0
      rw [t3 k1]
      exact now _ ⟨(tw.2.2 hL).2.2 k1, fun _ => rfl⟩
  · rw [if_neg (fun z => q (i1.mp z)), if_neg (fun z => q (i2.mp z))]
    refine ⟨0, 3001, _, RE.rf, (hZ.sI (Or.inr ⟨rfl, by decide⟩)).sL (Or.inr rfl), hM, by omega, by omega, Nat.le_refl _, ?_, Or.inl ⟨(by decide : s_isTrap 1000000000000004 = true), rfl⟩⟩
    show mm_u R.1 30 0 32 (nI e + 1) 30 0 4 = _
    rw [mm_u_own, if_neg (by decide)]
    exact hcc
theorem runs_all {C R0 : mm_M} (hR : SR C R0) : ∀ F, RUNS C R0 F
  | 0 => runs_0 hR
  | F + 1 => runs_s hR (runs_all hR F)
