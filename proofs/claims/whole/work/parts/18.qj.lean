/-! compile on both sides -/
theorem look_kr {M : mm_M} {i n : Int32} : KR M (t_look M i n) := by
  unfold t_look t_lookK
  split
  · exact KO.rf.found.1
  · split
    · unfold t_lookPar
      split
      · exact KO.rf.fail.1
      · exact KO.rf.found.1
    · split
      · exact KO.lookIf.1
      · split
        · exact KO.lookCast.1
        · split
          · exact KW.lookCall.1
          · split
            · unfold t_lookWidth
              split
              · exact KO.rf.found.1
              · exact KO.rf.fail.1
            · exact KO.lookTwo.1
theorem desc_kr {i : Int32} : ∀ (L : Nat) (M : mm_M) (n : Int32), KR M (t_desc i L M n).2
  | 0, _, _ => KR.rf
  | L + 1, M, n => by
    show KR M (t_descR (t_desc i L) n (t_needs M i n)).2
    unfold t_descR
    split
    · exact needs_keep.1.tr (desc_kr L _ _)
    · exact needs_keep.1
theorem turnE_kr {i n : Int32} {L : Nat} {M : mm_M} : KR M (t_turnE i (t_desc i L M n)) := by
  unfold t_turnE
  split
  · exact (desc_kr L M n).tr look_kr
  · exact desc_kr L M n
theorem turns_kr {i root : Int32} : ∀ (k : Nat) (M : mm_M), KR M (t_turns i root k M)
  | 0, _ => KR.rf
  | k + 1, M => by
    unfold t_turns
    split
    · exact turnE_kr.tr (turns_kr k _)
    · exact KR.rf
theorem all_kr : ∀ (k : Nat) (M : mm_M), KR M (t_all k M)
  | 0, _ => KR.rf
  | k + 1, M => by
    unfold t_all
    split
    · refine KR.tr ?_ (all_kr k _)
      unfold t_body
      exact (turns_kr 61 M).tr bodyE_keep.1
    · exact KR.rf
theorem cmpE_kr {M : mm_M} : KR M (t_cmpE M).2 := by
  unfold t_cmpE
  split
  · exact KR.rf
  · exact KR.rf.sI (Or.inr ⟨rfl, by decide⟩)
theorem sc_none {C R : mm_M} (h : ∀ f, f < 12 → R.1 f = C.1 f) (e3 : R.1 30 0 3 = 0) (e2 : C.1 12 0 2 = 0) (ee : R.1 30 0 1 = C.1 12 0 3) (ep : R.1 30 0 2 = C.1 12 0 4) : SC C R := by
  refine ⟨h, by rw [e3, e2], ee, ep, fun j hj hc => ?_⟩
  rw [e2] at hc
  exact absurd hc (nI_nlt (b := 0) (Nat.zero_le j) (by omega))
/-- the ends of compile -/
theorem end_sim {r : Bool × mm_M} {R : mm_M} (h : RA r R) (hp : ∀ f, f < 12 → R.1 f = r.2.1 f) : (s_allE r).1 = (t_cmpE R).1 ∧ SC (s_allE r).2 (t_cmpE R).2 := by
  unfold s_allE t_cmpE
  by_cases q : r.1 = true
  · obtain ⟨s1, s2⟩ := h.1 q
    rw [if_pos q, if_pos s2]
    exact ⟨s1.2.1.symm, s1⟩
  · have se := h.2 (by simpa using q)
    rw [if_neg q, if_neg (fun z => se.2.2 (se.1.symm.trans z))]
    refine ⟨se.1.symm, sc_none (fun f hf => ?_) rfl rfl se.1 se.2.1⟩
    have a : (mm_sI R 30 0 3 0).1 f = R.1 f := mm_u_row' (by omega)
    have b : (mm_sI r.2 12 0 2 0).1 f = r.2.1 f := mm_u_row' (by omega)
    rw [a, b]
    exact hp f hf
theorem comp_sim {C R : mm_M} {f v w : Int32} (hpg : ∀ f, f < 12 → R.1 f = C.1 f) (hp : IP C) (hf : s_hasFun C f = true) : (s_comp C f v w).1 = (t_compile R f v w).1 ∧ SC (s_comp C f v w).2 (t_compile R f v w).2 ∧ TA 20 (t_want (t_cmp0 R) 0 63 f v.toInt64 w.toInt64).2 := by
  have hfR : s_hasFun R f = true := by
    unfold s_hasFun at hf ⊢
    rw [hpg 7 (by decide)]
    exact hf
  have kC : KP C (s_all0 C) := ((KP.rf.sI (by decide)).sI (by decide)).sI (by decide)
  have kR : KR R (t_cmp0 R) := KR.cmp0
  have hf0 : s_hasFun (s_all0 C) f = true := (kp_hasFun kC f).trans hf
  have S0 : SC (s_all0 C) (t_cmp0 R) := sc_none (fun g hg => by rw [kR.2.1 g (by omega), kC.2 g hg]; exact hpg g hg) rfl rfl rfl rfl
  have ws := want_sim (v := v.toInt64) (w := w.toInt64) (v' := v.toInt64) (w' := w.toInt64) 0 63 S0 (hp.kp kC) (c := 0) rfl (by decide) hf0 (fun _ => ⟨rfl, (i64 v).1⟩) (fun _ => ⟨rfl, (i64 w).1⟩)
  have k2 : K2 (s_all0 C) (s_wantR (s_all0 C) f v.toInt64 w.toInt64 0 0).2 := K2.wantR hf0 fun _ => rfl
  have kw : KR (t_cmp0 R) (t_want (t_cmp0 R) 0 63 f v.toInt64 w.toInt64).2 := KW.want.1
  have iq0 : IQ (s_all0 C) := ⟨0, by decide, rfl, fun j hj => absurd hj (Nat.not_lt_zero j)⟩
  have nq : ¬ (s_wantR (s_all0 C) f v.toInt64 w.toInt64 0 0).1 = -7 := by
    show ¬ (s_wantN (s_all0 C) f v.toInt64 w.toInt64 0).1 = -7
    unfold s_wantN
    rw [if_pos (by decide)]
    split
    · show ¬ (s_begM (s_all0 C) 0 f v.toInt64 w.toInt64).1 12 0 2 + 1 - 1 = -7
      rw [begM_row.2 12 (by decide), show (s_all0 C).1 12 0 2 = 0 from rfl]
      decide
    · exact (by decide : ¬ (-4 : Int32) = -7)
  have dead : ∀ (X Q : mm_M), SE X Q → KP (s_all0 C) X → KR (t_cmp0 R) Q → (s_allE (s_all 20 false X)).1 = (t_cmpE (t_all 20 Q)).1 ∧ SC (s_allE (s_all 20 false X)).2 (t_cmpE (t_all 20 Q)).2 ∧ TA 20 Q := fun X Q se kx kq => by
    have ne : ¬ Q.1 30 0 1 = 0 := fun z => se.2.2 (se.1.symm.trans z)
    have e1 : s_all 20 false X = (false, X) := if_neg fun z => absurd z.1 (by decide : ¬ (false : Bool) = true)
    have e2 : t_all 20 Q = Q := if_neg fun z => ne z.2
    rw [e1, e2]
    have es := end_sim (r := (false, X)) (R := Q) ⟨fun z => absurd z (by decide : ¬ (false : Bool) = true), fun _ => se⟩ (fun g hg => by
      show Q.1 g = X.1 g
      rw [kq.2.1 g (by omega), kx.2 g hg]
      exact S0.1 g hg)
    exact ⟨es.1, es.2, fun _ z => absurd z ne⟩
  unfold s_comp s_compAll t_compile s_allW
  rw [if_pos hf, if_pos hfR]
  have prog : ∀ (r : Bool × mm_M) (Q : mm_M), KP (s_all0 C) r.2 → KR (t_cmp0 R) Q → ∀ g, g < 12 → Q.1 g = r.2.1 g := fun r Q a b g hg => by
    rw [b.2.1 g (by omega), a.2 g hg]
    exact S0.1 g hg
  generalize s_wantR (s_all0 C) f v.toInt64 w.toInt64 0 0 = P at *
  rcases ws with ⟨m, hm, r1, r2, r3, r4, r5, r6, -⟩ | ⟨r1, r2, r3⟩ | ⟨r1, r2, R1, r3, r4, r5, r6⟩
  · have m0 : (0 : Int32) ≤ P.1 := by
      rw [r1]
      exact Int32.not_lt.mp fun z => by
        rw [Int32.lt_iff_toInt_lt, nI_ti (by omega), Int32.toInt_zero] at z
        omega
    rw [if_pos m0]
    obtain ⟨ra, ta, k3⟩ := all_sim 20 P.2 _ (Nat.le_refl _) r4 ((hp.kp kC).kp k2.1) (k2.2 iq0) (r6.trans rfl)
    have es := end_sim ra (prog _ _ (k2.1.tr k3.1) (kw.tr (all_kr 20 _)))
    exact ⟨es.1, es.2, ta⟩
  · exact absurd r1 nq
  · have n0 : ¬ (0 : Int32) ≤ P.1 := by
      rw [r1]
      decide
    rw [if_neg n0]
    have kf : KP (s_all0 C) (s_fail P.2 f 63 P.1) := k2.1.tr K3.rf.fail.1
    refine dead _ _ ⟨?_, ?_, ?_⟩ kf kw
    · rw [r3, r1]
      rfl
    · rw [r3, if_pos rfl]
      show 64 * R1.1 41 0 (nI 0).toNatClampNeg + 63 = 64 * f + 63
      rw [nI_clamp (by decide), r5]
    · rw [r1]
      exact (by decide : ¬ (-4 : Int32) = 0)
