/-! running: calls -/
theorem pB_rows {X : mm_M} : (t_pB X).1 = X.1 ∧ ∀ g, g ≠ 55 → (t_pB X).2.1 g = X.2.1 g := by
  unfold t_pB
  exact ⟨rfl, fun g hg => mm_u_row' hg⟩
theorem cal_rows {X : mm_M} {n : Int32} {d u : Nat} (e : (X.1 30 0 30 - 1).toNatClampNeg = d) (e31 : X.1 30 0 31 = nI u) (hu : u < 100) :
    (∀ g, g ≠ 30 → g ≠ 49 → g ≠ 51 → (t_cal X n).1 g = X.1 g) ∧ (∀ k, (t_cal X n).1 30 0 k = if k = 4 then X.1 30 0 4 + 1 else if k = 31 then nI (u + 1) else X.1 30 0 k) ∧ (∀ k, (t_cal X n).1 49 0 k = if k = u + 1 then t_at X 47 (t_ins X) n else X.1 49 0 k) ∧ (∀ k, (t_cal X n).1 51 0 k = if k = d then 3 else X.1 51 0 k) ∧
    (∀ g, g ≠ 52 → g ≠ 53 → g ≠ 55 → (t_cal X n).2.1 g = X.2.1 g) ∧ (∀ k, (t_cal X n).2.1 52 0 k = if k = u + 1 then X.2.1 54 0 d else X.2.1 52 0 k) ∧ (∀ k, (t_cal X n).2.1 53 0 k = if k = u + 1 then X.2.1 30 0 33 else X.2.1 53 0 k) ∧ KZ X (t_cal X n) := by
  obtain ⟨b1, b2⟩ := pB_rows (X := X)
  have e' : ((t_pB X).1 30 0 30 - 1).toNatClampNeg = d := by rw [b1]; exact e
  obtain ⟨s1, s2, s3⟩ := sp_rows (q := 3) e'
  have i1 : (X.1 30 0 31 + 1).toNatClampNeg = u + 1 := by rw [e31, nI_1, nI_clamp (by omega)]
  have i2 : X.1 30 0 31 + 1 = nI (u + 1) := by rw [e31, nI_1]
  have z : KZ X (t_sp (t_pB X) 3) := (KZ.rf.sL (Or.inl (by decide))).sI (Or.inl (by decide))
  unfold t_cal
  rw [i1, i2, e]
  generalize t_sp (t_pB X) 3 = S at *
  have E1 : (mm_sL (mm_sL (mm_sI (mm_sI (mm_sI S 30 0 31 (nI (u + 1))) 30 0 4 (X.1 30 0 4 + 1)) 49 0 (u + 1) (t_at X 47 (t_ins X) n)) 52 0 (u + 1) (X.2.1 54 0 d)) 53 0 (u + 1) (X.2.1 30 0 33)).1 = mm_u (mm_u (mm_u S.1 30 0 31 (nI (u + 1))) 30 0 4 (X.1 30 0 4 + 1)) 49 0 (u + 1) (t_at X 47 (t_ins X) n) := rfl
  have E2 : (mm_sL (mm_sL (mm_sI (mm_sI (mm_sI S 30 0 31 (nI (u + 1))) 30 0 4 (X.1 30 0 4 + 1)) 49 0 (u + 1) (t_at X 47 (t_ins X) n)) 52 0 (u + 1) (X.2.1 54 0 d)) 53 0 (u + 1) (X.2.1 30 0 33)).2.1 = mm_u (mm_u S.2.1 52 0 (u + 1) (X.2.1 54 0 d)) 53 0 (u + 1) (X.2.1 30 0 33) := rfl
  have zz := (((((z.sI (f := 30) (i := 0) (k := 31) (x := nI (u + 1)) (Or.inr ⟨rfl, by decide⟩)).sI (f := 30) (i := 0) (k := 4) (x := X.1 30 0 4 + 1) (Or.inr ⟨rfl, by decide⟩)).sI (f := 49) (i := 0) (k := u + 1) (x := t_at X 47 (t_ins X) n) (Or.inl (by decide))).sL (f := 52) (i := 0) (k := u + 1) (x := X.2.1 54 0 d) (Or.inl (by decide))).sL (f := 53) (i := 0) (k := u + 1) (x := X.2.1 30 0 33) (Or.inl (by decide)))
  generalize mm_sL (mm_sL (mm_sI (mm_sI (mm_sI S 30 0 31 (nI (u + 1))) 30 0 4 (X.1 30 0 4 + 1)) 49 0 (u + 1) (t_at X 47 (t_ins X) n)) 52 0 (u + 1) (X.2.1 54 0 d)) 53 0 (u + 1) (X.2.1 30 0 33) = T at *
  have l2 : ∀ g, g ≠ 55 → S.2.1 g = X.2.1 g := fun g hg => by rw [s3]; exact b2 g hg
  rw [b1] at s1 s2
  refine ⟨fun g h1 h2 h3 => ?_, fun k => ?_, fun k => ?_, fun k => ?_, fun g h1 h2 h3 => ?_, fun k => ?_, fun k => ?_, zz⟩
  · rw [E1, mm_u_row' h2, mm_u_row' h1, mm_u_row' h1, s1 g h3]
  · rw [E1, mm_u_row' (by decide), mm_u_own, mm_u_own, s1 30 (by decide)]
  · rw [E1, mm_u_own, mm_u_row' (by decide), mm_u_row' (by decide), s1 49 (by decide)]
  · rw [E1, mm_u_row' (by decide), mm_u_row' (by decide), mm_u_row' (by decide), s2]
  · rw [E2, mm_u_row' h2, mm_u_row' h1, l2 g h3]
  · rw [E2, mm_u_row' (by decide), mm_u_own, l2 52 (by decide)]
  · rw [E2, mm_u_own, mm_u_row' (by decide), l2 53 (by decide)]
section RUN
variable {C R0 R X M : mm_M} {F d u e j : Nat} {n p : Int32} {x y : Int64}
/-- what is known of a call -/
def CK (C R0 : mm_M) (j m : Nat) (n : Int32) : Prop := C.1 2 0 n.toNatClampNeg = 15 ∧ m < 20 ∧ nI m < C.1 12 0 2 ∧ C.1 20 j n.toNatClampNeg = nI m ∧ R0.1 47 0 (60 * j + n.toNatClampNeg) = nI m ∧ C.1 14 m 0 = C.1 3 0 n.toNatClampNeg ∧ (s_isRun C m 0 = true ↔ ¬ C.1 4 0 n.toNatClampNeg < 0 ∧ ¬ C.1 8 0 (C.1 3 0 n.toNatClampNeg).toNatClampNeg = 300) ∧ (s_isRun C m 1 = true ↔ ¬ C.1 5 0 n.toNatClampNeg < 0 ∧ ¬ C.1 9 0 (C.1 3 0 n.toNatClampNeg).toNatClampNeg = 300) ∧ (s_isRun C m 0 = true → okA C n (C.1 4 0 n.toNatClampNeg) ∧ PS C j (C.1 4 0 n.toNatClampNeg) (C.1 15 m 0)) ∧ (s_isRun C m 1 = true → okA C n (C.1 5 0 n.toNatClampNeg) ∧ PS C j (C.1 5 0 n.toNatClampNeg) (C.1 15 m 1)) ∧ C.1 17 j n.toNatClampNeg = C.1 14 m 1
theorem CTX.ck (h : CTX C R0 R X M F d u e j n p x y) (hk : C.1 2 0 n.toNatClampNeg = 15) : ∃ m, CK C R0 j m n := by
  have hR := h.1
  have hN := h.2.2.2.2.2.2.2.2.2.1
  obtain ⟨f8, ob, oc⟩ := (hR.2.2.1.2.2.1 n hN).2.2.2.2.2.2.1 hk
  obtain ⟨m, m1, m2, m3, m4, m5, m6, m7, m8, m9, m10⟩ : N15 C R0 j n.toNatClampNeg := by
    rcases h.nd with ⟨q, -⟩ | ⟨q, -⟩ | ⟨q, -⟩ | ⟨-, q⟩ | ⟨q, -⟩
    · rw [hk] at q
      exact absurd q (by decide)
    · rw [hk] at q
      exact absurd q (by decide)
    · rw [hk] at q
      exact absurd q (by decide)
    · exact q
    · exact absurd hk q.2.2.2.2.1
  obtain ⟨a1, a2, a3, a4, -⟩ := hR.1.face hR.2.2.1 m1 m2
  rw [m5] at a1 a2 a3 a4
  have neg : ∀ {a : Int32}, (a = -1 ∨ okA C n a) → (a < 0 ↔ a = -1) := fun {a} ho => by
    constructor
    · intro z
      rcases ho with q | q
      · exact q
      · exact absurd z (Int32.not_lt.mpr (nn60 (hR.2.2.1.in60 q.1)))
    · intro z
      rw [z]
      decide
  refine ⟨m, hk, m1, m2, m3, m4, m5, ?_, ?_, fun z => ?_, fun z => ?_, m10⟩
  · rw [isRun_iff, neg ob, m6, show (0 : Int32).toNatClampNeg = 0 from rfl, a3, a1]
    exact ⟨fun z => ⟨z.2, z.1⟩, fun z => ⟨z.2, z.1⟩⟩
  · rw [isRun_iff, neg oc, m7, show (1 : Int32).toNatClampNeg = 1 from rfl, a4, a2]
    exact ⟨fun z => ⟨z.2, z.1⟩, fun z => ⟨z.2, z.1⟩⟩
  · have nb : ¬ C.1 4 0 n.toNatClampNeg = -1 := fun y => (isRun_iff.mp z).2 (a1.mpr (m6.mp y))
    exact ⟨ob.resolve_left nb, m8 nb⟩
  · have nb : ¬ C.1 5 0 n.toNatClampNeg = -1 := fun y => (isRun_iff.mp z).2 (a2.mpr (m7.mp y))
    exact ⟨oc.resolve_left nb, m9 nb⟩
theorem CTX.cal {m : Nat} (h : CTX C R0 R X M F d u e j n p x y) (ck : CK C R0 j m n) (hp : p = 0 ∨ p = 1 ∨ p = 2 ∨ p = 3) (hu : p = 2 → u < 5) : SS X ∧ t_step X = t_stepCall X n := by
  obtain ⟨cm, en, ep, ei, -, -, row⟩ := h.cm
  obtain ⟨-, o2, -⟩ := h.own
  obtain ⟨hk, m1, m2, m3, m4, m5, -⟩ := ck
  have hf := (h.1.1.2.2.2.2 m m1 m2).1.2.1
  unfold SS t_step
  rw [en, ep, row 2 (by decide), hk]
  refine ⟨⟨cm, by decide, by decide, by decide, fun z => absurd z (by decide), fun z => absurd z (by decide), fun _ => ⟨hp, fun z => ⟨?_, ?_, ?_⟩⟩, fun _ _ z => absurd rfl z⟩, rfl⟩
  · rw [h.atn.2.1.2.1, nI_1]
    exact vp_in_nI (by have := hu z; omega) (by decide)
  · rw [o2, m4]
    exact vp_in_nI m1 (by decide)
  · rw [m5] at hf
    unfold s_hasFun at hf ⊢
    rw [row 7 (by decide), row 3 (by decide)]
    exact hf
/-- the callee runs -/
theorem call_p2 {m : Nat} {p' q' : Int64} (h : CTX C R0 R X M F d u e j n 2 x y) (ck : CK C R0 j m n) (hu : u < 5) (hp : s_isRun C m 0 = true → X.2.1 54 0 d = p' ∧ s_holds (C.1 15 m 0) p' = true) (hq : s_isRun C m 1 = true → X.2.1 30 0 33 = q' ∧ s_holds (C.1 15 m 1) q' = true) : OUT C R0 d u e 2 R X (s_rC3 (s_rn F) M m (nI u) p' q') (VL C j n) := by
  have hd := h.d6
  obtain ⟨-, -, ep, ei, c1, c2, row⟩ := h.cm
  obtain ⟨ss, st⟩ := h.cal ck (Or.inr (Or.inr (Or.inl rfl))) (fun _ => hu)
  obtain ⟨-, o2, -⟩ := h.own
  obtain ⟨hR, ih, hA, hM, hj, hc, -, he, hn2, hN, hL, h0, l1, l2⟩ := h
  obtain ⟨hk, m1, m2, m3, m4, m5, -, -, -, -, m10⟩ := ck
  obtain ⟨r1, r2, r3, r4, r5, r6, r7, r8⟩ := cal_rows (n := n) (hA.ix (by omega)) hA.2.1.2.1 (by omega)
  have s0 : t_step X = t_enter (t_cal X n) (C.1 11 0 (C.1 14 m 0).toNatClampNeg) := by
    rw [st]
    unfold t_stepCall
    rw [ep, if_neg (by decide), if_neg (by decide), if_pos rfl, row 3 (by decide), row 11 (by decide), m5]
  refine OUT.step c1 c2 ss s0 ?_
  rw [o2, m4] at r3
  obtain ⟨hZ, hW, h50, h51, hK, h49, hA', hcc⟩ := hA
  have kM : KM C (mm_sI M 21 0 3 (M.1 21 0 3 + 1)) := hM.tr KM.s
  have M2 : (mm_sI M 21 0 3 (M.1 21 0 3 + 1)).1 21 0 2 = nI e := by
    show mm_u M.1 21 0 3 (M.1 21 0 3 + 1) 21 0 2 = _
    rw [mm_u_own, if_neg (by decide)]
    exact hn2
  have M3 : (mm_sI M 21 0 3 (M.1 21 0 3 + 1)).1 21 0 3 = M.1 21 0 3 + 1 := by
    show mm_u M.1 21 0 3 (M.1 21 0 3 + 1) 21 0 3 = _
    rw [mm_u_own, if_pos rfl]
  unfold s_rC3
  rw [hM.2 11 (by decide), hM.2 14 (by decide), nI_1]
  generalize mm_sI M 21 0 3 (M.1 21 0 3 + 1) = M' at *
  generalize t_cal X n = T at *
  have wsT : WS T (d + 1) (u + 1) e := by
    refine ⟨?_, ?_, ?_, ?_⟩
    · rw [r2, if_neg (by decide), if_neg (by decide)]
      exact hW.1
    · rw [r2, if_neg (by decide), if_pos rfl]
    · rw [r5 30 (by decide) (by decide) (by decide)]
      exact hW.2.2.1
    · rw [r2, if_neg (by decide), if_neg (by decide)]
      exact hW.2.2.2
  have aT : ARG C T m (u + 1) p' q' := by
    refine ⟨fun z => ?_, fun z => ?_⟩
    · rw [r6, if_pos rfl]
      exact hp z
    · rw [r7, if_pos rfl]
      exact hq z
  have hf := (hR.1.2.2.2.2 m m1 m2).1.2.1
  have hbN := (hR.2.2.1.2.2.2 _ hf).1
  have hb := hR.2.1.2 m m1 m2
  have lb := (hR.2.2.1.2.2.1 _ hbN).2.1
  have ln := (hR.2.2.1.2.2.1 n hN).1
  have zT : KZ R0 T := hZ.tr r8
  have e49 : T.1 49 0 (u + 1) = nI m := by rw [r3, if_pos rfl]
  have eT4 : T.1 30 0 4 = M'.1 21 0 3 := by
    rw [r2, if_pos rfl, M3, hcc]
  have run := ih M' T m _ p' q' (u + 1) (d + 1) e ⟨kM, zT, m1, m2, by omega, wsT, he, M2, eT4, e49, aT⟩ hbN hb.1 (by omega) (by omega)
  rw [← s_tr_id (r := s_rn F M' m (C.1 11 0 (C.1 14 m 0).toNatClampNeg) p' q' (nI (u + 1)))]
  refine OUT.sub run fun e1 Y z1 z2 z3 z4 z5 z6 z7 z8 z9 z10 z11 => ?_
  have wm := (hR.at hZ m1 m2 (hR.2.2.1.in60 hbN) hb.1).2.2.2.2
  have vv := z7.ps hb wm
  generalize s_rn F M' m (C.1 11 0 (C.1 14 m 0).toNatClampNeg) p' q' (nI (u + 1)) = r at *
  -- back in the caller
  obtain ⟨k1, k2, k3⟩ := z11.1 d (by omega)
  obtain ⟨j1, j2, j3⟩ := z11.2 (u + 1) (Nat.le_refl _)
  have aY : ATN C R0 T Y d (u + 1) e1 m n 3 p' q' (r.2.1 21 0 3) := by
    refine ⟨z1, z10, ?_, ?_, z11.le (by omega) (Nat.le_refl _), j1.trans e49, ?_, z5⟩
    · rw [k1, r1 50 (by decide) (by decide) (by decide)]
      exact h50
    · rw [k2, r4, if_pos rfl]
    · unfold ARG at *
      rw [j2, j3]
      exact aT
  have cmY := aY.cm hR (by omega) (by omega) m1 hN
  obtain ⟨enY, epY⟩ := aY.n (by omega)
  obtain ⟨pY1, pY2⟩ := aY.pos (by omega)
  have rowY := fun f hf => hR.row z1 f hf
  have ssY : SS Y := by
    unfold SS
    rw [enY, epY, rowY 2 (by decide), hk]
    exact ⟨cmY, by decide, by decide, by decide, fun z => absurd z (by decide), fun z => absurd z (by decide), fun _ => ⟨Or.inr (Or.inr (Or.inr rfl)), fun z => absurd z (by decide)⟩, fun _ _ z => absurd rfl z⟩
  have sY : t_step Y = t_leave (mm_sI (t_sp Y 4) 30 0 31 (nI u)) r.1 := by
    unfold t_step
    rw [enY, rowY 2 (by decide), hk, if_neg (by decide), if_neg (by decide), if_pos rfl]
    unfold t_stepCall
    rw [epY, if_neg (by decide), if_neg (by decide), if_neg (by decide), z8, z10.2.1, nI_p]
  refine OUT.step pY1 pY2 ssY sY ?_
  obtain ⟨aS, aS2⟩ := aY.sp (q := 4) (by omega)
  generalize t_sp Y 4 = S at *
  have v1 : ∀ g, g ≠ 30 → (mm_sI S 30 0 31 (nI u)).1 g = S.1 g := fun g hg => mm_u_row' hg
  have v2 : ∀ k, (mm_sI S 30 0 31 (nI u)).1 30 0 k = if k = 31 then nI u else S.1 30 0 k := fun k => by
    show mm_u S.1 30 0 31 _ 30 0 k = _
    rw [mm_u_own]
  have v3 : (mm_sI S 30 0 31 (nI u)).2 = S.2 := rfl
  have v4 : KZ R0 (mm_sI S 30 0 31 (nI u)) := aS.1.sI (Or.inr ⟨rfl, by decide⟩)
  generalize mm_sI S 30 0 31 (nI u) = V at *
  have kTR : KB d u R T := hK.tr ⟨fun k hk => ⟨by rw [r1 50 (by decide) (by decide) (by decide)], by rw [r4, if_neg (by omega)], by rw [r5 54 (by decide) (by decide) (by decide)]⟩, fun k hk => ⟨by rw [r3, if_neg (by omega)], by rw [r6, if_neg (by omega)], by rw [r7, if_neg (by omega)]⟩⟩
  have kV : KB d u R V := (kTR.tr (aS.2.2.2.2.1.le (Nat.le_refl _) (by omega))).tr ⟨fun k _ => ⟨by rw [v1 50 (by decide)], by rw [v1 51 (by decide)], by rw [v3]⟩, fun k _ => ⟨by rw [v1 49 (by decide)], by rw [v3], by rw [v3]⟩⟩
  have aV : ATN C R0 R V d u e1 j n 4 x y (r.2.1 21 0 3) := by
    obtain ⟨-, sW, s50, s51, -, -, -, sc⟩ := aS
    obtain ⟨w1, w2, w3⟩ := kV.2 u (Nat.le_refl _)
    obtain ⟨y1, y2, y3⟩ := hK.2 u (Nat.le_refl _)
    refine ⟨v4, ⟨?_, ?_, ?_, ?_⟩, ?_, ?_, kV, ?_, ?_, ?_⟩
    · rw [v2, if_neg (by decide)]
      exact sW.1
    · rw [v2, if_pos rfl]
    · rw [v3]
      exact sW.2.2.1
    · rw [v2, if_neg (by decide)]
      exact sW.2.2.2
    · rw [v1 50 (by decide)]
      exact s50
    · rw [v1 51 (by decide)]
      exact s51
    · rw [w1, ← y1]
      exact h49
    · unfold ARG at *
      rw [w2, w3, ← y2, ← y3]
      exact hA'
    · rw [v2, if_neg (by decide)]
      exact sc
  exact OUT.leave aV (by omega) z2 z4 rfl z6 ⟨by rw [m10]; exact vv, fun z => absurd h0 z⟩ z9
theorem s_tr_v {v : Int64} {M : mm_M} {k : Int64 → mm_M → Int64 × mm_M} (h : s_isTrap v = false) : s_tr (v, M) k = k v M := by
  unfold s_tr
  rw [if_neg (by rw [h]; decide)]
theorem call_p1 {m : Nat} {p' : Int64} (h : CTX C R0 R X M F d u e j n 1 x y) (ck : CK C R0 j m n) (hu : u < 5) (hp : s_isRun C m 0 = true → X.2.1 30 0 33 = p' ∧ s_holds (C.1 15 m 0) p' = true) : OUT C R0 d u e 3 R X (s_rC2 (s_rn F) M j m n x y (nI u) p') (VL C j n) := by
  have hd := h.d6
  have hR := h.1
  have hj := h.2.2.2.2.1
  have hc := h.2.2.2.2.2.1
  have hM := h.2.2.2.1
  obtain ⟨-, -, ep, ei, c1, c2, row⟩ := h.cm
  obtain ⟨ss, st⟩ := h.cal ck (Or.inr (Or.inl rfl)) (fun z => absurd z (by decide))
  obtain ⟨h1, w1, w2⟩ := h.pA
  obtain ⟨h2, w3⟩ := h1.sp (q := 2)
  have ck' := ck
  obtain ⟨hk, m1, m2, m3, m4, m5, i0, i1, p0, p1, m10⟩ := ck'
  unfold s_rC2 s_rA
  rw [hM.isRun, hM.2 5 (by decide)]
  by_cases q : s_isRun C m 1 = true
  · obtain ⟨oc, pc⟩ := p1 q
    obtain ⟨n1, n2⟩ := i1.mp q
    have s0 : t_step X = t_enter (t_sp (t_pA X) 2) (C.1 5 0 n.toNatClampNeg) := by
      rw [st]
      unfold t_stepCall
      rw [ep, if_neg (by decide), if_pos rfl, row 5 (by decide), row 9 (by decide), row 3 (by decide), if_neg n1, if_neg n2]
    refine OUT.step c1 c2 ss s0 ?_
    rw [if_pos q]
    refine OUT.sub (h2.op oc pc.1) fun e1 Y z1 z2 z3 z4 z5 z6 z7 z8 z9 z10 z11 => ?_
    obtain ⟨h5, w4⟩ := h2.ret z1 z2 z4 z5 z9 z10 z11
    have wc := (hR.at h.atn.1 hj hc (hR.2.2.1.in60 oc.1) pc.1).2.2.2.2
    rw [w3, w1] at w4
    exact call_p2 h5 ck hu (fun z => by rw [w4]; exact hp z) (fun _ => ⟨z8, z7.ps pc wc⟩)
  · have s0 : t_step X = t_sp (t_pA X) 2 := by
      rw [st]
      unfold t_stepCall
      rw [ep, if_neg (by decide), if_pos rfl, row 5 (by decide), row 9 (by decide), row 3 (by decide)]
      by_cases a : C.1 5 0 n.toNatClampNeg < 0
      · rw [if_pos a]
      · rw [if_neg a, if_pos (Classical.byContradiction fun b => q (i1.mpr ⟨a, b⟩))]
    refine OUT.step c1 c2 ss s0 ?_
    rw [if_neg q, s_tr_v (by decide)]
    exact call_p2 h2 ck hu (fun z => by rw [w3, w1]; exact hp z) (fun z => absurd z q)
theorem call_run (h : CTX C R0 R X M F d u e j n 0 x y) (hk : C.1 2 0 n.toNatClampNeg = 15) : OUT C R0 d u e 4 R X (s_rCall (s_rn F) M j n x y (nI u)) (VL C j n) := by
  have hd := h.d6
  have hR := h.1
  have hj := h.2.2.2.2.1
  have hc := h.2.2.2.2.2.1
  have hM := h.2.2.2.1
  have hu5 := h.2.2.2.2.2.2.1
  have he := h.2.2.2.2.2.2.2.1
  obtain ⟨m, ck⟩ := h.ck hk
  obtain ⟨-, -, ep, ei, c1, c2, row⟩ := h.cm
  obtain ⟨ss, st⟩ := h.cal ck (Or.inl rfl) (fun z => absurd z (by decide))
  obtain ⟨h2, w3⟩ := h.sp (q := 1)
  have ck' := ck
  obtain ⟨-, m1, m2, m3, m4, m5, i0, i1, p0, p1, m10⟩ := ck'
  have e31 := h.atn.2.1.2.1
  have u5 : nI u < 5 ↔ u < 5 := by
    rw [Int32.lt_iff_toInt_lt, nI_ti (by omega), show (5 : Int32).toInt = 5 by decide]
    omega
  unfold s_rCall s_rC1 s_rA
  by_cases hu : u < 5
  · have n5 : ¬ X.1 30 0 31 = 5 := fun z => by
      rw [e31] at z
      have := u5.mpr hu
      rw [z] at this
      exact absurd this (by decide)
    rw [if_pos (u5.mpr hu), hM.2 20 (by decide), m3, nI_clamp (by omega), hM.isRun, hM.2 4 (by decide)]
    by_cases q : s_isRun C m 0 = true
    · obtain ⟨ob, pb⟩ := p0 q
      obtain ⟨n1, n2⟩ := i0.mp q
      have s0 : t_step X = t_enter (t_sp X 1) (C.1 4 0 n.toNatClampNeg) := by
        rw [st]
        unfold t_stepCall
        rw [ep, if_pos rfl, if_neg n5, row 4 (by decide), row 8 (by decide), row 3 (by decide), if_neg n1, if_neg n2]
      refine OUT.step c1 c2 ss s0 ?_
      rw [if_pos q]
      refine OUT.sub (h2.op ob pb.1) fun e1 Y z1 z2 z3 z4 z5 z6 z7 z8 z9 z10 z11 => ?_
      obtain ⟨h5, w4⟩ := h2.ret z1 z2 z4 z5 z9 z10 z11
      have wb := (hR.at h.atn.1 hj hc (hR.2.2.1.in60 ob.1) pb.1).2.2.2.2
      exact call_p1 h5 ck hu (fun _ => ⟨z8, z7.ps pb wb⟩)
    · have s0 : t_step X = t_sp X 1 := by
        rw [st]
        unfold t_stepCall
        rw [ep, if_pos rfl, if_neg n5, row 4 (by decide), row 8 (by decide), row 3 (by decide)]
        by_cases a : C.1 4 0 n.toNatClampNeg < 0
        · rw [if_pos a]
        · rw [if_neg a, if_pos (Classical.byContradiction fun b => q (i0.mpr ⟨a, b⟩))]
      refine OUT.step c1 c2 ss s0 ?_
      rw [if_neg q, s_tr_v (by decide)]
      exact call_p1 h2 ck hu (fun z => absurd z q)
  · have y5 : X.1 30 0 31 = 5 := by
      rw [e31, show u = 5 by omega]
      rfl
    have s0 : t_step X = mm_sL X 30 0 34 1000000000000003 := by
      rw [st]
      unfold t_stepCall
      rw [ep, if_pos rfl, if_pos y5]
    refine OUT.step c1 c2 ss s0 ?_
    rw [if_neg (fun z => hu (u5.mp z))]
    exact OUT.trap (h.atn.1.sL (Or.inr rfl)) hM (by omega) h.atn.2.2.2.2.2.2.2 (by decide) rfl
end RUN
