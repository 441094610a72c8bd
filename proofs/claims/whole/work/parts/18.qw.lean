/-! running: ifs and calls -/
section RUN
variable {C R0 R X M : mm_M} {F d u e j : Nat} {n p : Int32} {x y : Int64}
theorem hold0 {v : Int64} (h : s_holds 0 v = true) : (v = 0 ∨ v = 1) ∧ s_isTrap v = false := by
  rw [holds_iff, show (s_low 0).toInt = 0 by decide, show (s_high 0).toInt = 1 by decide] at h
  have e : v = 0 ∨ v = 1 := by
    rw [← Int64.toInt_inj, ← Int64.toInt_inj, show (0 : Int64).toInt = 0 by decide, show (1 : Int64).toInt = 1 by decide]
    omega
  refine ⟨e, ?_⟩
  rcases e with e | e <;> rw [e] <;> decide
theorem sel {v : Int64} {b c : Int32} (h : v = 0 ∨ v = 1) : (if v = 1 then b else c) = (if v = 0 then c else b) := by
  rcases h with h | h
  · rw [h, if_neg (by decide), if_pos rfl]
  · rw [h, if_pos rfl, if_neg (by decide)]
/-- the end of an if -/
theorem if_end {o : Int32} (h : CTX C R0 R X M F d u e j n 2 x y) (hk : C.1 2 0 n.toNatClampNeg = 13) (oo : okA C n o) (po : PS C j o (C.1 17 j n.toNatClampNeg)) : OUT C R0 d u e 1 R (t_enter X o) (s_rn F M j o x y (nI u)) (VL C j n) := by
  have hR := h.1
  have hj := h.2.2.2.2.1
  have hc := h.2.2.2.2.2.1
  have h0 := h.2.2.2.2.2.2.2.2.2.2.2.1
  have hd := h.d6
  rw [← s_tr_id (r := s_rn F M j o x y (nI u))]
  refine OUT.sub (h.op oo po.1) fun e1 Y z1 z2 z3 z4 z5 z6 z7 z8 z9 z10 z11 => ?_
  obtain ⟨h2, -⟩ := h.ret z1 z2 z4 z5 z9 z10 z11
  generalize s_rn F M j o x y (nI u) = r1 at *
  obtain ⟨-, -, ep, -, c1, c2, row⟩ := h2.cm
  obtain ⟨ss, st⟩ := h2.iff hk (Or.inr (Or.inr rfl))
  have s0 : t_step Y = t_leave (t_sp Y 3) r1.1 := by
    rw [st]
    unfold t_stepIf
    rw [ep, if_neg (by decide), if_neg (by decide), z8]
  refine OUT.step c1 c2 ss s0 ?_
  obtain ⟨h6, -⟩ := h2.sp (q := 3)
  have wo := (hR.at h.atn.1 hj hc (hR.2.2.1.in60 oo.1) po.1).2.2.2.2
  exact OUT.leave h6.atn (by omega) z2 z4 rfl z6 ⟨z7.ps po wo, fun z => absurd h0 z⟩ z9
theorem if_run (h : CTX C R0 R X M F d u e j n 0 x y) (hk : C.1 2 0 n.toNatClampNeg = 13) : OUT C R0 d u e 4 R X (s_rIf (s_rn F) M j n x y (nI u)) (VL C j n) := by
  have hR := h.1
  have hj := h.2.2.2.2.1
  have hc := h.2.2.2.2.2.1
  have hN := h.2.2.2.2.2.2.2.2.2.1
  have h0 := h.2.2.2.2.2.2.2.2.2.2.2.1
  have hM := h.2.2.2.1
  have hd := h.d6
  obtain ⟨oa, ob, oc⟩ := (hR.2.2.1.2.2.1 n hN).2.2.2.2.1 hk
  obtain ⟨la, ta, nn⟩ : N13 C j n.toNatClampNeg := by
    rcases h.nd with ⟨q, -⟩ | ⟨-, q⟩ | ⟨q, -⟩ | ⟨q, -⟩ | ⟨q, -⟩
    · rw [hk] at q
      exact absurd q (by decide)
    · exact q
    · rw [hk] at q
      exact absurd q (by decide)
    · rw [hk] at q
      exact absurd q (by decide)
    · exact absurd hk q.2.2.1
  obtain ⟨-, -, ep, ei, c1, c2, row⟩ := h.cm
  obtain ⟨ss, st⟩ := h.iff hk (Or.inl rfl)
  obtain ⟨a1, a2, a3, -, aw⟩ := hR.at h.atn.1 hj hc (hR.2.2.1.in60 oa.1) la
  unfold s_rIf s_rI1
  rw [hM.2 3 (by decide), hM.2 18 (by decide), hM.1]
  rcases nn with ⟨q18, pb, pc⟩ | ⟨q18, o, eo, lo, to, k0⟩
  · rw [if_pos q18]
    have s0 : t_step X = t_enter (t_sp X 1) (C.1 3 0 n.toNatClampNeg) := by
      rw [st]
      unfold t_stepIf
      rw [ep, if_pos rfl, row 3 (by decide), ei, a2, if_pos q18]
    refine OUT.step c1 c2 ss s0 ?_
    obtain ⟨h1, -⟩ := h.sp (q := 1)
    refine OUT.sub (h1.op oa la) fun e1 Y z1 z2 z3 z4 z5 z6 z7 z8 z9 z10 z11 => ?_
    obtain ⟨h2, -⟩ := h1.ret z1 z2 z4 z5 z9 z10 z11
    generalize s_rn F M j (C.1 3 0 n.toNatClampNeg) x y (nI u) = r1 at *
    have v0 := z7.1
    rw [ta] at v0
    obtain ⟨v1, -⟩ := hold0 v0
    clear c1 c2 ss st s0 ep ei row
    obtain ⟨-, -, ep, ei, c1, c2, row⟩ := h2.cm
    obtain ⟨ss, st⟩ := h2.iff hk (Or.inr (Or.inl rfl))
    have s0 : t_step Y = t_enter (t_sp Y 2) (if r1.1 = 0 then C.1 5 0 n.toNatClampNeg else C.1 4 0 n.toNatClampNeg) := by
      rw [st]
      unfold t_stepIf
      rw [ep, if_neg (by decide), if_pos rfl, row 4 (by decide), row 5 (by decide), z8, sel v1]
    refine OUT.mono (b := 2) (OUT.step c1 c2 ss s0 ?_) (by omega)
    unfold s_rI2
    rw [z2.2 4 (by decide), z2.2 5 (by decide)]
    obtain ⟨h4, -⟩ := h2.sp (q := 2)
    by_cases q : r1.1 = 0
    · rw [if_pos q]
      exact if_end h4 hk oc pc
    · rw [if_neg q]
      exact if_end h4 hk ob pb
  · rw [if_neg q18]
    have k1 : C.1 18 j (C.1 3 0 n.toNatClampNeg).toNatClampNeg = 1 := aw.2.1.resolve_left q18
    have v0 := (aw.2.2 la).2.2 k1
    rw [ta] at v0
    obtain ⟨v1, v2⟩ := hold0 v0
    have s0 : t_step X = t_enter (t_sp (t_sp X 1) 2) o := by
      rw [st]
      unfold t_stepIf
      rw [ep, if_pos rfl, row 3 (by decide), row 4 (by decide), row 5 (by decide), ei, a2, if_neg q18, a3 k1, sel v1, ← eo]
    refine OUT.mono (b := 2) (OUT.step c1 c2 ss s0 ?_) (by omega)
    unfold s_tr s_rI2
    rw [if_neg (by rw [v2]; decide)]
    show OUT C R0 d u e 1 R (t_enter (t_sp (t_sp X 1) 2) o) (s_rn F M j (if C.2.1 19 j (C.1 3 0 n.toNatClampNeg).toNatClampNeg = 0 then M.1 5 0 n.toNatClampNeg else M.1 4 0 n.toNatClampNeg) x y (nI u)) (VL C j n)
    rw [hM.2 4 (by decide), hM.2 5 (by decide), ← eo]
    obtain ⟨h1, -⟩ := h.sp (q := 1)
    obtain ⟨h4, -⟩ := h1.sp (q := 2)
    refine if_end h4 hk ?_ ⟨lo, Or.inl to⟩
    rw [eo]
    split
    · exact oc
    · exact ob
end RUN
