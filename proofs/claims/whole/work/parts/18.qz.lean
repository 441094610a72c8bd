/-! run on both sides -/
theorem steps_end {Y : mm_M} (h : ¬ (0 < Y.1 30 0 30 ∧ Y.2.1 30 0 34 = 0)) : ∀ g, t_steps g Y = Y ∧ TS g Y
  | 0 => ⟨t_steps_0, by rw [TS]; trivial⟩
  | g + 1 => ⟨by rw [t_steps_s, if_neg h], by rw [TS]; exact fun a b => absurd ⟨a, b⟩ h⟩
theorem takes_eq {C : mm_M} {j : Nat} {k v t : Int32} (ht : C.1 15 j k.toNatClampNeg = t) (h : t = 300 ∨ t = 400 ∨ VT t) : (if t = 0 then (!decide (v = 0) && !decide (v = 1)) else t_isI t && !t_fitsIn t v.toInt64) = !s_takes C j k v.toInt64 := by
  unfold s_takes s_isRun
  rw [ht]
  by_cases q : t = 0
  · subst q
    rw [if_pos rfl]
    have e : s_holds 0 v.toInt64 = (decide (v = 0) || decide (v = 1)) := by
      rw [Bool.eq_iff_iff, holds_iff, show (s_low 0).toInt = 0 by decide, show (s_high 0).toInt = 1 by decide, Int32.toInt_toInt64]
      simp only [Bool.or_eq_true, decide_eq_true_eq, ← Int32.toInt_inj]
      rw [show (0 : Int32).toInt = 0 by decide, show (1 : Int32).toInt = 1 by decide]
      omega
    rw [e]
    cases decide (v = 0) <;> cases decide (v = 1) <;> rfl
  · rw [if_neg q, isI_eq]
    rcases h with h | h | h
    · subst h
      rfl
    · subst h
      rfl
    · have i : s_isInt t = true := isInt_iff.mpr ⟨h, q⟩
      have n3 : ¬ t = 300 := fun z => by rw [z] at h; exact absurd h.2 (by decide)
      have n4 : ¬ t = 400 := fun z => by rw [z] at h; exact absurd h.2 (by decide)
      rw [i, fits_eq q, decide_eq_false n3, decide_eq_false n4]
      cases s_holds t v.toInt64 <;> rfl
theorem misfits_eq {C R : mm_M} {j : Nat} (h : SC C R) (hp : IP C) (hj : j < 20) (hc : nI j < C.1 12 0 2) (v : Int32) : t_misfits R (nI j) (R.1 8 0 (R.1 41 0 j).toNatClampNeg) v = !s_takes C j 0 v.toInt64 ∧ t_misfits R (nI j) (R.1 9 0 (R.1 41 0 j).toNatClampNeg) v = !s_takes C j 1 v.toInt64 := by
  obtain ⟨f1, f2, f3, f4, -⟩ := (h.2.2.2.2 j hj hc).1
  obtain ⟨-, p8, p9, -⟩ := hp.2.2.2 _ f2
  obtain ⟨a1, a2, a3, a4, a5, a6⟩ := h.face hp hj hc
  have tri : ∀ {t : Int32}, (¬ t = 300 → ¬ t = 400 → VT t) → t = 300 ∨ t = 400 ∨ VT t := fun {t} z => by
    by_cases q : t = 300
    · exact Or.inl q
    · by_cases q2 : t = 400
      · exact Or.inr (Or.inl q2)
      · exact Or.inr (Or.inr (z q q2))
  unfold t_misfits
  rw [f1, h.1 8 (by decide), h.1 9 (by decide), h.ty hj hc (okC_par p8), h.ty hj hc (okC_par p9), ← f3, ← f4]
  exact ⟨takes_eq (k := 0) rfl (tri a5), takes_eq (k := 1) rfl (tri a6)⟩
theorem run_sim {C R : mm_M} {i a b : Int32} (hR : SR C R) (hc : R.1 30 0 4 = C.1 21 0 3) : (s_run C i a b).1 = (t_run R i a b).1 ∧ KM C (s_run C i a b).2 ∧ KZ R (t_run R i a b).2 ∧ (t_run R i a b).2.1 30 0 4 = (s_run C i a b).2.1 21 0 3 ∧ (t_none R i = false → t_misfits R i (R.1 8 0 (R.1 41 0 i.toNatClampNeg).toNatClampNeg) a = false → t_misfits R i (R.1 9 0 (R.1 41 0 i.toNatClampNeg).toNatClampNeg) b = false → TS 20000 (t_run0 R i a b)) := by
  obtain ⟨hS, hB, hp, hi, hgd, hsp⟩ := hR
  have hR : SR C R := ⟨hS, hB, hp, hi, hgd, hsp⟩
  have T : ∀ {p : Prop}, (true : Bool) = false → p := fun z => absurd z (by decide)
  have non : (1000000000000000 : Int64) = 1000000000000000 ∧ KM C C ∧ KZ R R ∧ R.1 30 0 4 = C.1 21 0 3 := ⟨rfl, KM.rf, KZ.rf, hc⟩
  unfold s_run t_run
  rw [none_eq hS]
  by_cases q : s_hasInst C i = true
  · obtain ⟨hj, hjc, ei⟩ := inst_j q hi
    generalize i.toNatClampNeg = j at *
    subst ei
    obtain ⟨m0, -⟩ := misfits_eq hS hp hj hjc a
    obtain ⟨-, m1⟩ := misfits_eq hS hp hj hjc b
    rw [if_pos q, q, if_neg (by decide : ¬ (!true) = true), m0, m1]
    by_cases q0 : s_takes C j 0 a.toInt64 = true
    · rw [if_pos q0, q0, if_neg (by decide : ¬ (!true) = true)]
      by_cases q1 : s_takes C j 1 b.toInt64 = true
      · rw [if_pos q1, q1, if_neg (by decide : ¬ (!true) = true)]
        -- it runs
        obtain ⟨f1, f2, -⟩ := (hS.2.2.2.2 j hj hjc).1
        have hbN := (hp.2.2.2 _ f2).1
        have hb := hB.2 j hj hjc
        have lb := (hp.2.2.1 _ hbN).2.1
        have ej : (nI j).toNatClampNeg = j := nI_clamp (by omega)
        have kM : KM C (mm_sI (mm_sI C 21 0 2 0) 21 0 3 0) := KM.s.tr KM.s
        have M2 : (mm_sI (mm_sI C 21 0 2 0) 21 0 3 0).1 21 0 2 = nI 0 := rfl
        have M3 : (mm_sI (mm_sI C 21 0 2 0) 21 0 3 0).1 21 0 3 = 0 := rfl
        have kR : KZ R (t_run00 R (nI j) a b) := KZ.run00
        have w1 : WS (t_run00 R (nI j) a b) 0 0 0 := ⟨rfl, rfl, rfl, rfl⟩
        have w4 : (t_run00 R (nI j) a b).1 30 0 4 = 0 := rfl
        have w5 : (t_run00 R (nI j) a b).1 49 0 0 = nI j := rfl
        have w6 : (t_run00 R (nI j) a b).2.1 52 0 0 = a.toInt64 := rfl
        have w7 : (t_run00 R (nI j) a b).2.1 53 0 0 = b.toInt64 := rfl
        obtain ⟨F, hF⟩ : ∃ F : Nat, F = 53 := ⟨_, rfl⟩
        have eB : s_rBody C j a.toInt64 b.toInt64 = s_rn F (mm_sI (mm_sI C 21 0 2 0) 21 0 3 0) j (C.1 11 0 (C.1 14 j 0).toNatClampNeg) a.toInt64 b.toInt64 (nI 0) := by
          rw [hF]
          unfold s_rBody
          rw [show nI 0 = 0 by decide]
        rw [eB]
        clear eB
        unfold t_run0
        rw [ej, f1, hS.1 11 (by decide)]
        generalize mm_sI (mm_sI C 21 0 2 0) 21 0 3 0 = M at *
        generalize t_run00 R (nI j) a b = R1 at *
        have hold : ∀ {k : Int32} {x : Int64}, s_takes C j k x = true → s_isRun C j k = true → s_holds (C.1 15 j k.toNatClampNeg) x = true := fun {k x} z1 z2 => by
          unfold s_takes at z1
          rw [z2] at z1
          exact z1
        have g0 : s_isRun C j 0 = true → s_holds (C.1 15 j 0) a.toInt64 = true := fun z => by
          have := hold q0 z
          rw [show (0 : Int32).toNatClampNeg = 0 by decide] at this
          exact this
        have g1 : s_isRun C j 1 = true → s_holds (C.1 15 j 1) b.toInt64 = true := fun z => by
          have := hold q1 z
          rw [show (1 : Int32).toNatClampNeg = 1 by decide] at this
          exact this
        have arg : ARG C R1 j 0 a.toInt64 b.toInt64 := ⟨fun z => ⟨w6, g0 z⟩, fun z => ⟨w7, g1 z⟩⟩
        have good : GOOD C R M R1 j 0 0 0 a.toInt64 b.toInt64 := ⟨kM, kR, hj, hjc, by omega, w1, by omega, M2, w4.trans M3.symm, w5, arg⟩
        have out := runs_all hR F M R1 j _ a.toInt64 b.toInt64 0 0 0 good hbN hb.1 (by omega) (by omega)
        generalize s_rn F M j (C.1 11 0 (C.1 14 j 0).toNatClampNeg) a.toInt64 b.toInt64 (nI 0) = r at *
        generalize t_enter R1 (C.1 11 0 (C.1 14 j 0).toNatClampNeg) = E at *
        obtain ⟨s, e', Y, o1, o2, o3, o4, o5, o6, o7, o8⟩ := out
        have es : 20000 = s + (20000 - s) := by omega
        have fin : ¬ (0 < Y.1 30 0 30 ∧ Y.2.1 30 0 34 = 0) := by
          rintro ⟨z1, z2⟩
          rcases o8 with ⟨t1, t2⟩ | ⟨-, -, -, -, -, t6, -⟩
          · rw [z2] at t2
            rw [← t2] at t1
            exact absurd t1 (by decide)
          · rw [t6.1] at z1
            exact absurd z1 (by decide)
        obtain ⟨n1, n2⟩ := steps_end fin (20000 - s)
        obtain ⟨p1, p2⟩ := o1 (20000 - s)
        rw [← es] at p1 p2
        rw [p1, n1]
        refine ⟨?_, o3, o2, o7, fun _ _ _ => p2 n2⟩
        show r.1 = if Y.2.1 30 0 34 = 0 then Y.2.1 30 0 33 else Y.2.1 30 0 34
        rcases o8 with ⟨t1, t2⟩ | ⟨-, -, t3, -, -, t6, -⟩
        · have : ¬ Y.2.1 30 0 34 = 0 := fun z => by
            rw [z] at t2
            rw [← t2] at t1
            exact absurd t1 (by decide)
          rw [if_neg this, t2]
        · rw [if_pos t6.2.2.1, t3]
      · have q1' : s_takes C j 1 b.toInt64 = false := by simpa using q1
        rw [if_neg q1, q1', if_pos (by decide : (!false) = true)]
        exact ⟨non.1, non.2.1, non.2.2.1, non.2.2.2, fun _ _ z => T z⟩
    · have q0' : s_takes C j 0 a.toInt64 = false := by simpa using q0
      rw [if_neg q0, q0', if_pos (by decide : (!false) = true)]
      exact ⟨non.1, non.2.1, non.2.2.1, non.2.2.2, fun _ z => T z⟩
  · have q' : s_hasInst C i = false := by simpa using q
    rw [if_neg q, q', if_pos (by decide : (!false) = true)]
    exact ⟨non.1, non.2.1, non.2.2.1, non.2.2.2, fun z => T z⟩
