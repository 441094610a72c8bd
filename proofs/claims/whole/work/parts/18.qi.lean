/-! bodies on both sides -/
def RA (r : Bool × mm_M) (R' : mm_M) : Prop := (r.1 = true → SC r.2 R' ∧ R'.1 30 0 1 = 0) ∧ (r.1 = false → SE r.2 R')
theorem body_sim {j : Nat} {C R : mm_M} (hS : SC C R) (hq : JQ C j) (hE : C.1 12 0 3 = 0) : RA (s_allB C j) (t_body R (nI j)) ∧ TB (nI j) (R.1 11 0 (R.1 41 0 (nI j).toNatClampNeg).toNatClampNeg) 61 R ∧ K2 C (s_allB C j).2 := by
  have hj := hq.2.2.2
  have hc := hq.2.2.1
  have ej : (nI j).toNatClampNeg = j := nI_clamp (by omega)
  obtain ⟨f1, f2, -⟩ := (hS.2.2.2.2 j hj hc).1
  have eroot : R.1 11 0 (R.1 41 0 (nI j).toNatClampNeg).toNatClampNeg = C.1 11 0 (C.1 14 j 0).toNatClampNeg := by
    rw [ej, f1, hS.1 11 (by decide)]
  have hroot := (hq.1.2.2.2 _ f2).1
  have ul := unl_le (C := C) (j := j) 60
  obtain ⟨rs, tb⟩ := turns_sim (root := C.1 11 0 (C.1 14 j 0).toNatClampNeg) 61 C R hS hq hE hroot (by omega)
  have kn := (look_ex (j := j) 8 C R _ hS hq hE hroot (hq.1.2.2.1 _ hroot).2.1).1
  have k2 : K2 C (s_allB C j).2 := K2.seq (K2.look 8 j C _) fun M1 => K3.passes.k2
  refine ⟨?_, by rw [eroot]; exact tb, k2⟩
  unfold s_allB t_body
  rw [eroot]
  generalize C.1 11 0 (C.1 14 j 0).toNatClampNeg = root at *
  generalize t_turns (nI j) root 61 R = R1 at *
  generalize s_look 8 j C root = P at *
  obtain ⟨p, C1⟩ := P
  unfold t_bodyE
  by_cases t : p = true
  · subst t
    obtain ⟨s1, s2, s3⟩ := rs.1 rfl
    have Q1 := kn.2.1 hq
    simp only at s1 s3
    rw [if_pos s2]
    show RA (s_passes C1 j root root (C1.1 14 j 1)) _
    obtain ⟨g1, g2, g3, g4, g5, -⟩ := (s1.2.2.2.2 j hj Q1.2.2.1).1
    have ety : t_typeIn R1 (nI j) (R1.1 10 0 (R1.1 41 0 (nI j).toNatClampNeg).toNatClampNeg) = C1.1 14 j 1 := by
      rw [ej, g1, s1.1 10 (by decide), s1.ty hj Q1.2.2.1 (okC_res (Q1.1.2.2.2 _ g2).2.2.2), ← g5]
    rw [ety]
    obtain ⟨p1, p2⟩ := passes_sim (n := root) (t := C1.1 14 j 1) s1 hj Q1.2.2.1 (Q1.1.in60 ((kp_hasNode kn.1 root).trans hroot)) s3
    refine ⟨fun z => ?_, fun z => (p2 z).1⟩
    obtain ⟨y1, y2⟩ := p1 z
    rw [y1, y2]
    exact ⟨s1, s2⟩
  · have t' : p = false := by simpa using t
    subst t'
    have se := rs.2 rfl
    rw [if_neg (fun z => se.2.2 (se.1.symm.trans z))]
    show RA (false, C1) R1
    exact ⟨fun z => absurd z (by decide : ¬ (false : Bool) = true), fun _ => se⟩
theorem all_sim : ∀ (k : Nat) (C R : mm_M), k ≤ 20 → SC C R → IP C → IQ C → C.1 12 0 3 = 0 → RA (s_all k true C) (t_all k R) ∧ TA k R ∧ K2 C (s_all k true C).2
  | 0, C, R, _, hS, _, _, hE => ⟨⟨fun _ => ⟨hS, hS.2.2.1.trans hE⟩, fun z => absurd z (by decide : ¬ (true : Bool) = false)⟩, trivial, K2.rf⟩
  | k + 1, C, R, hk, hS, hp, hi, hE => by
    have hre : R.1 30 0 1 = 0 := hS.2.2.1.trans hE
    by_cases q : nI (20 - (k + 1)) < C.1 12 0 2
    · have q' : nI (20 - (k + 1)) < R.1 30 0 3 := by rw [hS.2.1]; exact q
      have hq : JQ C (20 - (k + 1)) := ⟨hp, hi, q, by omega⟩
      obtain ⟨ra, tb, k2⟩ := body_sim hS hq hE
      have e1 : s_all (k + 1) true C = s_all k (s_allB C (20 - (k + 1))).1 (s_allB C (20 - (k + 1))).2 := if_pos ⟨rfl, q⟩
      have e2 : t_all (k + 1) R = t_all k (t_body R (nI (20 - (k + 1)))) := if_pos ⟨q', hre⟩
      rw [e1, e2]
      have ta : TA k (t_body R (nI (20 - (k + 1)))) → TA (k + 1) R := fun z _ _ => ⟨tb, z⟩
      generalize t_body R (nI (20 - (k + 1))) = R1 at *
      generalize s_allB C (20 - (k + 1)) = P at *
      obtain ⟨p, C1⟩ := P
      by_cases t : p = true
      · subst t
        obtain ⟨s1, s2⟩ := ra.1 rfl
        obtain ⟨r1, r2, r3⟩ := all_sim k C1 R1 (by omega) s1 (hp.kp k2.1) (k2.2 hi) (s1.2.2.1.symm.trans s2)
        exact ⟨r1, ta r2, k2.tr r3⟩
      · have t' : p = false := by simpa using t
        subst t'
        have se := ra.2 rfl
        have ne : ¬ R1.1 30 0 1 = 0 := fun z => se.2.2 (se.1.symm.trans z)
        have e3 : s_all k false C1 = (false, C1) := by
          cases k with
          | zero => rfl
          | succ k => exact if_neg fun z => absurd z.1 (by decide : ¬ (false : Bool) = true)
        have e4 : t_all k R1 = R1 ∧ TA k R1 := by
          cases k with
          | zero => exact ⟨rfl, trivial⟩
          | succ k => exact ⟨if_neg fun z => ne z.2, fun _ z => absurd z ne⟩
        show RA (s_all k false C1) (t_all k R1) ∧ TA (k + 1) R ∧ K2 C (s_all k false C1).2
        rw [e3, e4.1]
        exact ⟨⟨fun z => absurd z (by decide : ¬ (false : Bool) = true), fun _ => se⟩, ta e4.2, k2⟩
    · have q' : ¬ nI (20 - (k + 1)) < R.1 30 0 3 := by rw [hS.2.1]; exact q
      have e1 : s_all (k + 1) true C = (true, C) := if_neg fun z => q z.2
      have e2 : t_all (k + 1) R = R := if_neg fun z => q' z.1
      rw [e1, e2]
      exact ⟨⟨fun _ => ⟨hS, hre⟩, fun z => absurd z (by decide : ¬ (true : Bool) = false)⟩, fun z => absurd z q', K2.rf⟩
