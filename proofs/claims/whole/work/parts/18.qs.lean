/-! all stays closed while compiling -/
theorem turns_cl {j : Nat} {root : Int32} : ∀ (k : Nat) (C R : mm_M), SC C R → CL C R → JQ C j → C.1 12 0 3 = 0 → s_hasNode C root = true → unl C j 60 < k → (s_look 8 j C root).1 = true → CL (s_look 8 j C root).2 (t_turns (nI j) root k R) ∧ KX C R (s_look 8 j C root).2 (t_turns (nI j) root k R)
  | 0, _, _, _, _, _, _, _, hu, _ => absurd hu (Nat.not_lt_zero _)
  | k + 1, C, R, hS, hcl, hq, hE, hn, hun, ht => by
    have hj := hq.2.2.2
    have hc := hq.2.2.1
    have hre : R.1 30 0 1 = 0 := hS.2.2.1.trans hE
    have rd := (hS.rd hj hc (hq.1.in60 hn)).1
    by_cases q : C.1 17 j root.toNatClampNeg = 400
    · have q1 : t_at R 44 (nI j) root = 0 := rd.mpr q
      have hl : lv C root ≤ ((8 : Nat) : Int) := (hq.1.2.2.1 root hn).2.1
      obtain ⟨i1, i2, i3, i4, i5, i6⟩ := desc_eq 8 C R root hS hq hE hn q hl
      have eT : t_turns (nI j) root (k + 1) R = t_turns (nI j) root k (t_turnE (nI j) (t_desc (nI j) 8 R root)) := if_pos ⟨q1, hre⟩
      have eDD : t_desc (nI j) 8 R root = ((t_desc (nI j) 8 R root).1, (t_needs R (nI j) (t_desc (nI j) 8 R root).1).2) := Prod.ext rfl i5
      rw [i6] at ht
      rw [eT, i6]
      rw [eDD]
      generalize (t_desc (nI j) 8 R root).1 = d at *
      obtain ⟨cnt, c1, c2⟩ := hq.cnt
      have st : ST C R j d := ⟨hS, hj, hc, hq.1.in60 i1, hE, i2⟩
      have rs := one_sim st hq.1 i1 c2 c1 i4
      have rc := one_cl st hq.1 i1 hcl c2 c1 i4
      have kn : KN d j C (s_one C j d).2 := by
        rw [← ready_eq (L := 8) hS hq i1 i4]
        exact (lookK_ex (look_ex 8) hS hq hE i1 i2 (by omega)).1
      generalize t_turnE (nI j) (d, (t_needs R (nI j) d).2) = R1 at *
      obtain ⟨t, t2⟩ := seq_t ht
      obtain ⟨s1, s2, s3⟩ := rs.1 t
      obtain ⟨d1, d2⟩ := rc t
      have lt := unl_lt (fun k hk => (kn.2.2.1 k hk).1) i2 s3 60 (clamp_i (hq.1.in60 i1)).2
      rw [t2] at ht ⊢
      obtain ⟨r1, r2⟩ := turns_cl (root := root) k (s_one C j d).2 R1 s1 d1 (kn.2.1 hq) (s1.2.2.1.symm.trans s2) ((kp_hasNode kn.1 root).trans hn) (by omega) ht
      exact ⟨r1, d2.tr r2⟩
    · have q1 : ¬ t_at R 44 (nI j) root = 0 := fun z => q (rd.mp z)
      have eT : t_turns (nI j) root (k + 1) R = R := if_neg fun z => q1 z.1
      rw [eT, lk_was q]
      exact ⟨hcl, KX.rf⟩
/-- the body of instance j was looked at, and passes -/
def PB (C : mm_M) (j : Nat) : Prop := PS C j (C.1 11 0 (C.1 14 j 0).toNatClampNeg) (C.1 14 j 1)
theorem PB.kx {C R C' R' : mm_M} {i : Nat} (h : PB C i) (kx : KX C R C' R') (hi : i < 20) (hc : nI i < C.1 12 0 2) : PB C' i := by
  unfold PB at *
  rw [kx.1.2 11 (by decide), (kx.2 i hi hc).2.1]
  exact h.kx kx hi hc
theorem body_cl {j : Nat} {C R : mm_M} (hS : SC C R) (hcl : CL C R) (hq : JQ C j) (hE : C.1 12 0 3 = 0) (ht : (s_allB C j).1 = true) : CL (s_allB C j).2 (t_body R (nI j)) ∧ KX C R (s_allB C j).2 (t_body R (nI j)) ∧ PB (s_allB C j).2 j := by
  have hj := hq.2.2.2
  have hc := hq.2.2.1
  have ej : (nI j).toNatClampNeg = j := nI_clamp (by omega)
  obtain ⟨f1, f2, -⟩ := (hS.2.2.2.2 j hj hc).1
  have eroot : R.1 11 0 (R.1 41 0 (nI j).toNatClampNeg).toNatClampNeg = C.1 11 0 (C.1 14 j 0).toNatClampNeg := by
    rw [ej, f1, hS.1 11 (by decide)]
  have hroot := (hq.1.2.2.2 _ f2).1
  have ul := unl_le (C := C) (j := j) 60
  obtain ⟨rs, tb⟩ := turns_sim (root := C.1 11 0 (C.1 14 j 0).toNatClampNeg) 61 C R hS hq hE hroot (by omega)
  have tc := turns_cl (root := C.1 11 0 (C.1 14 j 0).toNatClampNeg) 61 C R hS hcl hq hE hroot (by omega)
  have kn := (look_ex (j := j) 8 C R _ hS hq hE hroot (hq.1.2.2.1 _ hroot).2.1).1
  unfold s_allB at ht ⊢
  unfold t_body
  rw [eroot]
  obtain ⟨t1, t2⟩ := seq_t ht
  rw [t2] at ht ⊢
  obtain ⟨c1, c2⟩ := tc t1
  obtain ⟨s1, s2, s3⟩ := rs.1 t1
  have e14 := (c2.2 j hj hc).2.1
  have e11 := c2.1.2 11 (by decide)
  generalize hroot' : C.1 11 0 (C.1 14 j 0).toNatClampNeg = root at *
  generalize t_turns (nI j) root 61 R = R1 at *
  generalize s_look 8 j C root = P at *
  obtain ⟨p, C1⟩ := P
  simp only at *
  have Q1 := kn.2.1 hq
  obtain ⟨ps, ps2⟩ := passes_ps (p := root) (show LPc C1 j root from s3) ht
  rw [ps2]
  unfold t_bodyE
  rw [if_pos s2]
  obtain ⟨g1, g2, g3, g4, g5, -⟩ := (s1.2.2.2.2 j hj Q1.2.2.1).1
  have ety : t_typeIn R1 (nI j) (R1.1 10 0 (R1.1 41 0 (nI j).toNatClampNeg).toNatClampNeg) = C1.1 14 j 1 := by
    rw [ej, g1, s1.1 10 (by decide), s1.ty hj Q1.2.2.1 (okC_res (Q1.1.2.2.2 _ g2).2.2.2), ← g5]
  rw [ety]
  obtain ⟨p1, p2⟩ := passes_sim (n := root) (t := C1.1 14 j 1) s1 hj Q1.2.2.1 (Q1.1.in60 ((kp_hasNode kn.1 root).trans hroot)) s3
  rw [(p1 ht).2]
  refine ⟨c1, c2, ?_⟩
  unfold PB
  rw [e11, e14, hroot', ← e14]
  exact ps
theorem all_cl : ∀ (k : Nat) (C R : mm_M), k ≤ 20 → SC C R → CL C R → IP C → IQ C → C.1 12 0 3 = 0 → (∀ i, i < 20 - k → nI i < C.1 12 0 2 → PB C i) → (s_all k true C).1 = true → CL (s_all k true C).2 (t_all k R) ∧ ∀ i, i < 20 → nI i < (s_all k true C).2.1 12 0 2 → PB (s_all k true C).2 i
  | 0, C, R, _, hS, hcl, _, _, hE, hb, _ => ⟨hcl, fun i hi hc => hb i (by omega) hc⟩
  | k + 1, C, R, hk, hS, hcl, hp, hi, hE, hb, ht => by
    have hre : R.1 30 0 1 = 0 := hS.2.2.1.trans hE
    by_cases q : nI (20 - (k + 1)) < C.1 12 0 2
    · have q' : nI (20 - (k + 1)) < R.1 30 0 3 := by rw [hS.2.1]; exact q
      have hq : JQ C (20 - (k + 1)) := ⟨hp, hi, q, by omega⟩
      obtain ⟨ra, tb, k2⟩ := body_sim hS hq hE
      have rc := body_cl hS hcl hq hE
      have e1 : s_all (k + 1) true C = s_all k (s_allB C (20 - (k + 1))).1 (s_allB C (20 - (k + 1))).2 := if_pos ⟨rfl, q⟩
      have e2 : t_all (k + 1) R = t_all k (t_body R (nI (20 - (k + 1)))) := if_pos ⟨q', hre⟩
      rw [e1] at ht ⊢
      rw [e2]
      generalize t_body R (nI (20 - (k + 1))) = R1 at *
      generalize s_allB C (20 - (k + 1)) = P at *
      obtain ⟨p, C1⟩ := P
      by_cases t : p = true
      · subst t
        obtain ⟨s1, s2⟩ := ra.1 rfl
        obtain ⟨c1, c2, c3⟩ := rc rfl
        refine all_cl k C1 R1 (by omega) s1 c1 (hp.kp k2.1) (k2.2 hi) (s1.2.2.1.symm.trans s2) (fun i h1 h2 => ?_) ht
        by_cases e : i = 20 - (k + 1)
        · rw [e]
          exact c3
        · have ilt : i < 20 - (k + 1) := by omega
          have hic : nI i < C.1 12 0 2 := by
            obtain ⟨cc, a1, a2, -⟩ := hi
            rw [a2] at q ⊢
            refine nI_lt ?_ (by omega)
            have : 20 - (k + 1) < cc := Nat.not_le.mp fun y => absurd q (nI_nlt y (by omega))
            omega
          exact (hb i ilt hic).kx c2 (by omega) hic
      · have t' : p = false := by simpa using t
        subst t'
        have e3 : s_all k false C1 = (false, C1) := by
          cases k with
          | zero => rfl
          | succ k => exact if_neg fun z => absurd z.1 (by decide : ¬ (false : Bool) = true)
        have ht : (s_all k false C1).1 = true := ht
        rw [e3] at ht
        exact absurd ht (by decide : ¬ (false : Bool) = true)
    · have q' : ¬ nI (20 - (k + 1)) < R.1 30 0 3 := by rw [hS.2.1]; exact q
      have e1 : s_all (k + 1) true C = (true, C) := if_neg fun z => q z.2
      have e2 : t_all (k + 1) R = R := if_neg fun z => q' z.1
      rw [e1, e2]
      refine ⟨hcl, fun i hi' hc => hb i ?_ hc⟩
      obtain ⟨cc, a1, a2, -⟩ := hi
      rw [a2] at q
      have hc : nI i < C.1 12 0 2 := hc
      rw [a2] at hc
      have : i < cc := Nat.not_le.mp fun y => absurd hc (nI_nlt y (by omega))
      have : ¬ 20 - (k + 1) < cc := fun y => q (nI_lt y (by omega))
      omega
/-- closed, and all bodies looked at -/
def CB (C R : mm_M) : Prop := CL C R ∧ ∀ i, i < 20 → nI i < C.1 12 0 2 → PB C i
theorem cb_none {C R : mm_M} (h : C.1 12 0 2 = 0) : CB C R := by
  have no : ∀ i, ¬ nI i < C.1 12 0 2 → True := fun _ _ => trivial
  refine ⟨fun j hj hc => ?_, fun j hj hc => ?_⟩
  all_goals
    rw [h] at hc
    exact absurd hc (nI_nlt (b := 0) (Nat.zero_le j) (by omega))
theorem comp_cl {C R : mm_M} {f v w : Int32} (hpg : ∀ f, f < 12 → R.1 f = C.1 f) (hp : IP C) (hf : s_hasFun C f = true) : CB (s_comp C f v w).2 (t_compile R f v w).2 := by
  have hfR : s_hasFun R f = true := by
    unfold s_hasFun at hf ⊢
    rw [hpg 7 (by decide)]
    exact hf
  have kC : KP C (s_all0 C) := ((KP.rf.sI (by decide)).sI (by decide)).sI (by decide)
  have kR : KR R (t_cmp0 R) := KR.cmp0
  have hf0 : s_hasFun (s_all0 C) f = true := (kp_hasFun kC f).trans hf
  have S0 : SC (s_all0 C) (t_cmp0 R) := sc_none (fun g hg => by rw [kR.2.1 g (by omega), kC.2 g hg]; exact hpg g hg) rfl rfl rfl rfl
  have ws := want_sim (v := v.toInt64) (w := w.toInt64) (v' := v.toInt64) (w' := w.toInt64) 0 63 S0 (hp.kp kC) (c := 0) rfl (by decide) hf0 (fun _ => ⟨rfl, (i64 v).1⟩) (fun _ => ⟨rfl, (i64 w).1⟩)
  have wun : ∀ i k, i < 20 → k < 60 → nI i < (s_wantR (s_all0 C) f v.toInt64 w.toInt64 0 0).2.1 12 0 2 → ¬ (s_wantR (s_all0 C) f v.toInt64 w.toInt64 0 0).2.1 17 i k = 400 → i < 0 := fun i k a1 a2 a3 a4 => want_un (C := s_all0 C) (c := 0) rfl (by decide) a1 a2 a3 a4
  have k2 : K2 (s_all0 C) (s_wantR (s_all0 C) f v.toInt64 w.toInt64 0 0).2 := K2.wantR hf0 fun _ => rfl
  have iq0 : IQ (s_all0 C) := ⟨0, by decide, rfl, fun j hj => absurd hj (Nat.not_lt_zero j)⟩
  have fin : ∀ (r : Bool × mm_M) (Q : mm_M), RA r Q → (r.1 = true → CB r.2 Q) → CB (s_allE r).2 (t_cmpE Q).2 := fun r Q ra hr => by
    unfold s_allE t_cmpE
    by_cases q : r.1 = true
    · obtain ⟨s1, s2⟩ := ra.1 q
      rw [if_pos q, if_pos s2]
      exact hr q
    · rw [if_neg q]
      exact cb_none rfl
  unfold s_comp s_compAll t_compile s_allW
  rw [if_pos hf, if_pos hfR]
  generalize s_wantR (s_all0 C) f v.toInt64 w.toInt64 0 0 = P at *
  have dead : ∀ X Q : mm_M, CB (s_allE (s_all 20 false X)).2 (t_cmpE (t_all 20 Q)).2 := fun X Q => by
    have e1 : s_all 20 false X = (false, X) := if_neg fun z => absurd z.1 (by decide : ¬ (false : Bool) = true)
    rw [e1]
    unfold s_allE
    rw [if_neg (by decide : ¬ (false : Bool) = true)]
    exact cb_none rfl
  by_cases m0 : (0 : Int32) ≤ P.1
  · rw [if_pos m0]
    rcases ws with ⟨m, hm, r1, r2, r3, r4, r5, r6, -⟩ | ⟨r1, r2, r3⟩ | ⟨r1, r2, R1, r3, r4, r5, r6⟩
    · obtain ⟨ra, ta, k3⟩ := all_sim 20 P.2 _ (Nat.le_refl _) r4 ((hp.kp kC).kp k2.1) (k2.2 iq0) (r6.trans rfl)
      refine fin _ _ ra fun ht => ?_
      exact all_cl 20 P.2 _ (Nat.le_refl _) r4 (fun i hi hc k hk hl => absurd (wun i k hi hk hc hl) (Nat.not_lt_zero _)) ((hp.kp kC).kp k2.1) (k2.2 iq0) (r6.trans rfl) (fun i h1 _ => absurd h1 (by omega)) ht
    · rw [r1] at m0
      exact absurd m0 (by decide)
    · rw [r1] at m0
      exact absurd m0 (by decide)
  · rw [if_neg m0]
    exact dead _ _
