/-! running: nodes of two operands and casts -/
def GOOD (C R0 M R : mm_M) (j u d e : Nat) (x y : Int64) : Prop := KM C M ∧ KZ R0 R ∧ j < 20 ∧ nI j < C.1 12 0 2 ∧ u ≤ 5 ∧ WS R d u e ∧ e ≤ 3000 ∧ M.1 21 0 2 = nI e ∧ R.1 30 0 4 = M.1 21 0 3 ∧ R.1 49 0 u = nI j ∧ ARG C R j u x y
/-- entering a node comes to what the class's run comes to -/
def RUNS (C R0 : mm_M) (F : Nat) : Prop := ∀ (M R : mm_M) (j : Nat) (n : Int32) (x y : Int64) (u d e : Nat), GOOD C R0 M R j u d e x y → s_hasNode C n = true → LPc C j n → 9 * (5 - (u : Int)) + lv C n ≤ (F : Int) → (d : Int) + lv C n ≤ 8 * ((u : Int) + 1) → OUT C R0 d u e 0 R (t_enter R n) (s_rn F M j n x y (nI u)) (VL C j n)
def CTX (C R0 R X M : mm_M) (F d u e j : Nat) (n p : Int32) (x y : Int64) : Prop := SR C R0 ∧ RUNS C R0 F ∧ ATN C R0 R X d u e j n p x y (M.1 21 0 3) ∧ KM C M ∧ j < 20 ∧ nI j < C.1 12 0 2 ∧ u ≤ 5 ∧ e ≤ 3000 ∧ M.1 21 0 2 = nI e ∧ s_hasNode C n = true ∧ LPc C j n ∧ C.1 18 j n.toNatClampNeg = 0 ∧ 9 * (5 - (u : Int)) + lv C n ≤ (F : Int) + 1 ∧ (d : Int) + lv C n ≤ 8 * ((u : Int) + 1)
section RUN
variable {C R0 R X M : mm_M} {F d u e j : Nat} {n p : Int32} {x y : Int64}
theorem CTX.d6 (h : CTX C R0 R X M F d u e j n p x y) : d < 60 := by
  obtain ⟨hR, -, -, -, -, -, hu, -, -, hN, -, -, -, l2⟩ := h
  have := (hR.2.2.1.2.2.1 n hN).1
  omega
theorem CTX.in60 (h : CTX C R0 R X M F d u e j n p x y) : vp_in n 60 := h.1.2.2.1.in60 h.2.2.2.2.2.2.2.2.2.1
theorem CTX.atn (h : CTX C R0 R X M F d u e j n p x y) : ATN C R0 R X d u e j n p x y (M.1 21 0 3) := h.2.2.1
theorem CTX.op {a : Int32} (h : CTX C R0 R X M F d u e j n p x y) (oa : okA C n a) (la : LPc C j a) : OUT C R0 (d + 1) u e 0 X (t_enter X a) (s_rn F M j a x y (nI u)) (VL C j a) := by
  obtain ⟨hR, ih, hA, hM, hj, hc, hu, he, hn2, hN, hL, h0, l1, l2⟩ := h
  have o := oa.2
  refine ih M X j a x y u (d + 1) e ⟨hM, hA.1, hj, hc, hu, hA.2.1, he, hn2, hA.2.2.2.2.2.2.2, hA.2.2.2.2.2.1, hA.2.2.2.2.2.2.1⟩ oa.1 la (by omega) (by omega)
theorem CTX.sp {q : Int32} (h : CTX C R0 R X M F d u e j n p x y) : CTX C R0 R (t_sp X q) M F d u e j n q x y ∧ (t_sp X q).2 = X.2 := by
  have hd := h.d6
  obtain ⟨hR, ih, hA, rest⟩ := h
  obtain ⟨a1, a2⟩ := hA.sp (q := q) (by omega)
  exact ⟨⟨hR, ih, a1, rest⟩, a2⟩
theorem CTX.pA (h : CTX C R0 R X M F d u e j n p x y) : CTX C R0 R (t_pA X) M F d u e j n p x y ∧ (t_pA X).2.1 54 0 d = X.2.1 30 0 33 ∧ (t_pA X).2.1 30 = X.2.1 30 := by
  have hd := h.d6
  obtain ⟨hR, ih, hA, rest⟩ := h
  obtain ⟨a1, a2⟩ := hA.pA (by omega)
  exact ⟨⟨hR, ih, a1, rest⟩, a2⟩
theorem CTX.ret {Y M' : mm_M} {e' : Nat} (h : CTX C R0 R X M F d u e j n p x y) (hZ : KZ R0 Y) (hM : KM C M') (he : e' ≤ 3000) (hc : Y.1 30 0 4 = M'.1 21 0 3) (hn : M'.1 21 0 2 = nI e') (hW : WS Y (d + 1) u e') (hK : KB (d + 1) u X Y) : CTX C R0 R Y M' F d u e' j n p x y ∧ Y.2.1 54 0 d = X.2.1 54 0 d := by
  obtain ⟨hR, ih, hA, -, hj, hcc, hu, -, -, hN, hL, h0, l1, l2⟩ := h
  obtain ⟨a1, a2⟩ := hA.ret hZ hW hK hc
  exact ⟨⟨hR, ih, a1, hM, hj, hcc, hu, he, hn, hN, hL, h0, l1, l2⟩, a2⟩
theorem CTX.cm (h : CTX C R0 R X M F d u e j n p x y) : CM X n ∧ t_n X = n ∧ t_ph X = p ∧ t_ins X = nI j ∧ 0 < X.1 30 0 30 ∧ X.2.1 30 0 34 = 0 ∧ ∀ f, f < 12 → X.1 f = C.1 f := by
  have hd := h.d6
  have a := h.atn.cm h.1 hd h.2.2.2.2.2.2.1 h.2.2.2.2.1 h.2.2.2.2.2.2.2.2.2.1
  have b := h.atn.n (show d < 100 by omega)
  have c := h.atn.ins (show u < 100 by have := h.2.2.2.2.2.2.1; omega)
  have p := h.atn.pos (show d < 100 by omega)
  exact ⟨a, b.1, b.2, c, p.1, p.2, fun f hf => h.1.row h.atn.1 f hf⟩
/-- what stands of the operands -/
theorem CTX.nd (h : CTX C R0 R X M F d u e j n p x y) : NC C R0 j n.toNatClampNeg := (h.1.2.1.1 j h.2.2.2.2.1 h.2.2.2.2.2.1 _ (clamp_i h.in60).2 h.2.2.2.2.2.2.2.2.2.2.1).2 h.2.2.2.2.2.2.2.2.2.2.2.1
theorem CTX.own (h : CTX C R0 R X M F d u e j n p x y) : t_at X 46 (t_ins X) n = C.1 17 j n.toNatClampNeg ∧ t_at X 47 (t_ins X) n = R0.1 47 0 (60 * j + n.toNatClampNeg) ∧ WN C j n.toNatClampNeg := by
  obtain ⟨a1, -, -, a2, a3⟩ := h.1.at h.atn.1 h.2.2.2.2.1 h.2.2.2.2.2.1 h.in60 h.2.2.2.2.2.2.2.2.2.2.1
  rw [h.cm.2.2.2.1]
  exact ⟨a1, a2, a3⟩
theorem CTX.two (h : CTX C R0 R X M F d u e j n p x y) (hk : PK (C.1 2 0 n.toNatClampNeg)) (hp : p = 0 ∨ p = 1 ∨ p = 2) : SS X ∧ t_step X = t_stepTwo X n := by
  obtain ⟨cm, en, ep, ei, -, -, row⟩ := h.cm
  obtain ⟨o1, -, o3⟩ := h.own
  obtain ⟨k0, k1, k13, k14, k15, k16⟩ := hk
  have sz : ¬ t_sz (t_at X 46 (t_ins X) n) = 0 := by
    rw [o1]
    exact (o3.2.2 h.2.2.2.2.2.2.2.2.2.2.1).1.sz
  unfold SS t_step
  rw [en, ep, row 2 (by decide)]
  exact ⟨⟨cm, k0, k1, k16, fun z => absurd z k13, fun z => absurd z k14, fun z => absurd z k15, fun _ _ _ => ⟨hp, sz⟩⟩, by rw [if_neg k13, if_neg k14, if_neg k15]⟩
theorem CTX.cst (h : CTX C R0 R X M F d u e j n p x y) (hk : C.1 2 0 n.toNatClampNeg = 14) (hp : p = 0 ∨ p = 1) : SS X ∧ t_step X = t_stepCast X n := by
  obtain ⟨cm, en, ep, ei, -, -, row⟩ := h.cm
  unfold SS t_step
  rw [en, ep, row 2 (by decide), hk]
  exact ⟨⟨cm, by decide, by decide, by decide, fun z => absurd z (by decide), fun _ => hp, fun z => absurd z (by decide), fun _ z => absurd rfl z⟩, rfl⟩
theorem CTX.iff (h : CTX C R0 R X M F d u e j n p x y) (hk : C.1 2 0 n.toNatClampNeg = 13) (hp : p = 0 ∨ p = 1 ∨ p = 2) : SS X ∧ t_step X = t_stepIf X n := by
  obtain ⟨cm, en, ep, ei, -, -, row⟩ := h.cm
  unfold SS t_step
  rw [en, ep, row 2 (by decide), hk]
  exact ⟨⟨cm, by decide, by decide, by decide, fun _ => hp, fun z => absurd z (by decide), fun z => absurd z (by decide), fun z => absurd rfl z⟩, rfl⟩
theorem pair_run (h : CTX C R0 R X M F d u e j n 0 x y) (hk : PK (C.1 2 0 n.toNatClampNeg)) : OUT C R0 d u e 4 R X (s_rPair (s_rn F) M j n x y (nI u)) (VL C j n) := by
  have hR := h.1
  have hj := h.2.2.2.2.1
  have hc := h.2.2.2.2.2.1
  have hN := h.2.2.2.2.2.2.2.2.2.1
  have h0 := h.2.2.2.2.2.2.2.2.2.2.2.1
  have hd := h.d6
  obtain ⟨k0, k1, k13, k14, k15, k16⟩ := hk
  obtain ⟨oa, ob⟩ := (hR.2.2.1.2.2.1 n hN).2.2.2.2.2.2.2.2 k0 k1 k13 k14 k15 k16
  obtain ⟨t, pa, pb, tv, kt, et⟩ : N2 C j n.toNatClampNeg := by
    rcases h.nd with ⟨q, -⟩ | ⟨q, -⟩ | ⟨q, -⟩ | ⟨q, -⟩ | ⟨-, q⟩
    · exact absurd q k1
    · exact absurd q k13
    · exact absurd q k14
    · exact absurd q k15
    · exact q
  have hk : PK (C.1 2 0 n.toNatClampNeg) := ⟨k0, k1, k13, k14, k15, k16⟩
  -- the first operand
  obtain ⟨-, -, ep, -, c1, c2, row⟩ := h.cm
  obtain ⟨ss, st⟩ := h.two hk (Or.inl rfl)
  have s0 : t_step X = t_enter (t_sp X 1) (C.1 3 0 n.toNatClampNeg) := by
    rw [st]
    unfold t_stepTwo
    rw [ep, if_pos rfl, row 3 (by decide)]
  refine OUT.step c1 c2 ss s0 ?_
  unfold s_rPair
  rw [h.2.2.2.1.2 3 (by decide)]
  obtain ⟨h1, -⟩ := h.sp (q := 1)
  refine OUT.sub (h1.op oa pa.1) fun e1 Y z1 z2 z3 z4 z5 z6 z7 z8 z9 z10 z11 => ?_
  obtain ⟨h2, -⟩ := h1.ret z1 z2 z4 z5 z9 z10 z11
  generalize s_rn F M j (C.1 3 0 n.toNatClampNeg) x y (nI u) = r1 at *
  -- the second
  clear c1 c2 ss st s0 ep row
  obtain ⟨-, -, ep, -, c1, c2, row⟩ := h2.cm
  obtain ⟨ss, st⟩ := h2.two hk (Or.inr (Or.inl rfl))
  have s0 : t_step Y = t_enter (t_sp (t_pA Y) 2) (C.1 4 0 n.toNatClampNeg) := by
    rw [st]
    unfold t_stepTwo
    rw [ep, if_neg (by decide), if_pos rfl, row 4 (by decide)]
  refine OUT.step c1 c2 ss s0 ?_
  unfold s_rP2
  rw [z2.2 4 (by decide)]
  obtain ⟨h3, w1, w2⟩ := h2.pA
  obtain ⟨h4, w3⟩ := h3.sp (q := 2)
  refine OUT.sub (h4.op ob pb.1) fun e2 Z y1 y2 y3 y4 y5 y6 y7 y8 y9 y10 y11 => ?_
  obtain ⟨h5, w4⟩ := h4.ret y1 y2 y4 y5 y9 y10 y11
  generalize s_rn F r1.2 j (C.1 4 0 n.toNatClampNeg) x y (nI u) = r2 at *
  rw [w3, w1, z8] at w4
  -- the end
  clear c1 c2 ss st s0 ep row
  obtain ⟨-, -, ep, -, c1, c2, row⟩ := h5.cm
  obtain ⟨ss, st⟩ := h5.two hk (Or.inr (Or.inr rfl))
  obtain ⟨o1, -, -⟩ := h5.own
  have s0 : t_step Z = t_s2E (t_sp Z 3) (C.1 2 0 n.toNatClampNeg) (C.1 17 j n.toNatClampNeg) r1.1 r2.1 := by
    rw [st]
    unfold t_stepTwo
    rw [ep, if_neg (by decide), if_neg (by decide), row 2 (by decide), o1, h5.atn.ix (by omega), w4, y8]
  refine OUT.mono (OUT.step c1 c2 ss s0 ?_) (Nat.le_refl _)
  unfold s_rP3 t_s2E
  rw [y2.2 2 (by decide), y2.2 17 (by decide)]
  obtain ⟨h6, -⟩ := h5.sp (q := 3)
  have wa := (hR.at h.atn.1 hj hc (hR.2.2.1.in60 oa.1) pa.1).2.2.2.2
  have wb := (hR.at h.atn.1 hj hc (hR.2.2.1.in60 ob.1) pb.1).2.2.2.2
  have kt' : KT (C.1 2 0 n.toNatClampNeg) (C.1 17 j n.toNatClampNeg) := by
    rw [et]
    split
    · rename_i q
      unfold s_isComp at q
      simp only [Bool.or_eq_true, decide_eq_true_eq] at q
      rcases q with q | q
      · exact Or.inl q
      · exact Or.inr (Or.inl q)
    · exact kt
  obtain ⟨q1, q2⟩ := reck (M := t_sp Z 3) kt' (tv.sm (z7.ps pa wa)) (tv.sm (y7.ps pb wb))
  have tyw : (if s_isComp (C.1 2 0 n.toNatClampNeg) = true then 0 else C.1 17 j n.toNatClampNeg) = C.1 17 j n.toNatClampNeg := by
    rw [et]
    split <;> rfl
  rw [tyw] at q2
  have c6 := h6.2.2.2.2.2.2.2.1
  generalize s_work (C.1 2 0 n.toNatClampNeg) (C.1 17 j n.toNatClampNeg) r1.1 r2.1 = w at *
  generalize t_reck (t_sp Z 3) (C.1 2 0 n.toNatClampNeg) (C.1 17 j n.toNatClampNeg) r1.1 r2.1 = k at *
  by_cases q : s_isTrap w = true
  · obtain ⟨g1, g2⟩ := q1 q
    rw [g1]
    exact OUT.trap (KZ.leave (h6.atn.1.sL (Or.inr rfl))) y2 (by omega) h6.atn.2.2.2.2.2.2.2 q rfl
  · have q' : s_isTrap w = false := by simpa using q
    obtain ⟨g1, g2⟩ := q2 q'
    rw [g1]
    exact OUT.leave h6.atn (by omega) y2 y4 rfl q' ⟨g2, fun z => absurd h0 z⟩ y9
theorem cast_run (h : CTX C R0 R X M F d u e j n 0 x y) (hk : C.1 2 0 n.toNatClampNeg = 14) : OUT C R0 d u e 4 R X (s_rCast (s_rn F) M j n x y (nI u)) (VL C j n) := by
  have hR := h.1
  have hN := h.2.2.2.2.2.2.2.2.2.1
  have h0 := h.2.2.2.2.2.2.2.2.2.2.2.1
  have hd := h.d6
  obtain ⟨oa, -⟩ := (hR.2.2.1.2.2.1 n hN).2.2.2.2.2.1 hk
  obtain ⟨la, t0⟩ : N14 C j n.toNatClampNeg := by
    rcases h.nd with ⟨q, -⟩ | ⟨q, -⟩ | ⟨-, q⟩ | ⟨q, -⟩ | ⟨q, -⟩
    · rw [hk] at q
      exact absurd q (by decide)
    · rw [hk] at q
      exact absurd q (by decide)
    · exact q
    · rw [hk] at q
      exact absurd q (by decide)
    · exact absurd hk q.2.2.2.1
  obtain ⟨-, -, ep, -, c1, c2, row⟩ := h.cm
  obtain ⟨ss, st⟩ := h.cst hk (Or.inl rfl)
  have s0 : t_step X = t_enter (t_sp X 1) (C.1 3 0 n.toNatClampNeg) := by
    rw [st]
    unfold t_stepCast
    rw [ep, if_pos rfl, row 3 (by decide)]
  refine OUT.step c1 c2 ss s0 ?_
  unfold s_rCast
  rw [h.2.2.2.1.2 3 (by decide)]
  obtain ⟨h1, -⟩ := h.sp (q := 1)
  refine OUT.sub (h1.op oa la) fun e1 Y z1 z2 z3 z4 z5 z6 z7 z8 z9 z10 z11 => ?_
  obtain ⟨h2, -⟩ := h1.ret z1 z2 z4 z5 z9 z10 z11
  generalize s_rn F M j (C.1 3 0 n.toNatClampNeg) x y (nI u) = r1 at *
  clear c1 c2 ss st s0 ep row
  obtain ⟨-, -, ep, -, c1, c2, row⟩ := h2.cm
  obtain ⟨ss, st⟩ := h2.cst hk (Or.inr rfl)
  obtain ⟨o1, -, o3⟩ := h2.own
  have s0 : t_step Y = if s_holds (C.1 17 j n.toNatClampNeg) r1.1 = true then t_leave (t_sp Y 2) r1.1 else mm_sL (t_sp Y 2) 30 0 34 1000000000000001 := by
    rw [st]
    unfold t_stepCast
    rw [ep, if_neg (by decide), o1, z8, fits_eq t0]
  refine OUT.mono (b := 1) (OUT.step c1 c2 ss s0 ?_) (by omega)
  rw [z2.2 17 (by decide)]
  obtain ⟨h6, -⟩ := h2.sp (q := 2)
  unfold s_checked
  by_cases q : s_holds (C.1 17 j n.toNatClampNeg) r1.1 = true
  · rw [if_pos q, if_pos q]
    exact OUT.leave h6.atn (by omega) z2 z4 rfl z6 ⟨q, fun z => absurd h0 z⟩ z9
  · rw [if_neg q, if_neg q]
    exact OUT.trap (h6.atn.1.sL (Or.inr rfl)) z2 (by omega) h6.atn.2.2.2.2.2.2.2 (by decide) rfl
end RUN
