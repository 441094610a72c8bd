/-! a ready node: the class's look is one step -/
theorem ready_eq {j L : Nat} {C R : mm_M} {n : Int32} (hS : SC C R) (hq : JQ C j) (hn : s_hasNode C n = true) (hr : ¬ 0 ≤ (t_needs R (nI j) n).1) : s_lookK (s_look L j) C j n = s_one C j n := by
  have hp := hq.1
  have hj := hq.2.2.2
  have hc := hq.2.2.1
  have hnd := hp.2.2.1 n hn
  have e2 := hS.1 2 (by decide)
  have e3 := hS.1 3 (by decide)
  have e4 := hS.1 4 (by decide)
  have e5 := hS.1 5 (by decide)
  have e7 := hS.1 7 (by decide)
  have e8 := hS.1 8 (by decide)
  have e9 := hS.1 9 (by decide)
  have vin : ∀ {a : Int32}, okA C n a → vp_in a 60 := fun q => hp.in60 q.1
  obtain ⟨a, ea⟩ : ∃ a, C.1 3 0 n.toNatClampNeg = a := ⟨_, rfl⟩
  obtain ⟨b, eb⟩ : ∃ b, C.1 4 0 n.toNatClampNeg = b := ⟨_, rfl⟩
  obtain ⟨c, eC⟩ : ∃ c, C.1 5 0 n.toNatClampNeg = c := ⟨_, rfl⟩
  obtain ⟨k, ek⟩ : ∃ k, C.1 2 0 n.toNatClampNeg = k := ⟨_, rfl⟩
  rw [ea, eb, eC, ek] at hnd
  have N : t_needs R (nI j) n = if k = 0 then (-1, R) else if k = 1 then (-1, R) else if k = 13 then t_needs13 R (nI j) n a b c else if k = 14 then (t_nd1 R (nI j) a, R) else if k = 15 then t_needs15 R (nI j) n b c else if k = 16 then (t_nd1 R (nI j) a, R) else (t_nd R (nI j) a b, R) := by
    unfold t_needs
    rw [e2, e3, e4, e5, ea, eb, eC, ek]
  unfold s_one s_lookK
  rw [ek]
  by_cases z0 : k = 0
  · rw [if_pos z0, if_pos z0]
  rw [if_neg z0] at N
  rw [if_neg z0, if_neg z0]
  by_cases z1 : k = 1
  · rw [if_pos z1, if_pos z1]
  rw [if_neg z1] at N
  rw [if_neg z1, if_neg z1]
  by_cases z13 : k = 13
  · rw [if_pos z13] at N
    rw [if_pos z13, if_pos z13]
    obtain ⟨oa, ob, oc⟩ := hnd.2.2.2.2.1 z13
    obtain ⟨d1, d2, w1, w2, w3⟩ := hS.rd hj hc (vin oa)
    unfold s_lookIf
    rw [ea, eb, eC]
    unfold t_needs13 at N
    have q1 : ¬ t_at R 44 (nI j) a = 0 := fun q1 => by
      rw [if_pos q1] at N
      rw [N] at hr
      exact hr (nn60 (vin oa))
    rw [if_neg q1] at N
    have la : ¬ C.1 17 j a.toNatClampNeg = 400 := fun z => q1 (d1.mpr z)
    obtain ⟨x1, x2, x3⟩ := d2 la
    rw [x1, x2] at N
    rw [lk_was la, sq_t, sq_t]
    unfold s_liB
    by_cases q2 : C.1 17 j a.toNatClampNeg = 0
    · rw [if_neg (fun z => z q2)] at N
      have n2 : ¬ ¬ C.1 17 j a.toNatClampNeg = 0 := fun z => z q2
      rw [if_neg n2, if_neg n2]
      by_cases q3 : C.1 18 j a.toNatClampNeg = 0
      · rw [if_pos q3] at N
        rw [N] at hr
        obtain ⟨lb, lc⟩ := nd_l hS hj hc (vin ob) (vin oc) hr
        have n3 : ¬ ¬ C.1 18 j a.toNatClampNeg = 0 := fun z => z q3
        rw [if_neg n3, if_neg n3, lk_was lb, sq_t, lk_was lc]
        rfl
      · have k18 := w2.resolve_left q3
        rw [if_neg q3, x3 k18] at N
        have hv := (w3 la).2.2 k18
        rw [q2, holds_iff, show (s_low 0).toInt = 0 by decide, show (s_high 0).toInt = 1 by decide] at hv
        rw [if_pos q3, if_pos q3]
        have lt : ¬ C.1 17 j (if C.2.1 19 j a.toNatClampNeg = 0 then c else b).toNatClampNeg = 400 := by
          by_cases q4 : C.2.1 19 j a.toNatClampNeg = 1
          · rw [if_pos q4] at N
            rw [N] at hr
            rw [if_neg (by rw [q4]; decide)]
            exact nd1_l hS hj hc (vin ob) hr
          · rw [if_neg q4] at N
            rw [N] at hr
            rw [if_pos]
            · exact nd1_l hS hj hc (vin oc) hr
            · rw [← Int64.toInt_inj, show (1 : Int64).toInt = 1 by decide] at q4
              rw [← Int64.toInt_inj, show (0 : Int64).toInt = 0 by decide]
              omega
        rw [lk_was lt]
    · rw [if_pos q2, if_pos q2]
  rw [if_neg z13] at N
  rw [if_neg z13, if_neg z13]
  by_cases z14 : k = 14
  · rw [if_pos z14] at N
    rw [if_pos z14, if_pos z14]
    obtain ⟨oa, -⟩ := hnd.2.2.2.2.2.1 z14
    rw [N] at hr
    unfold s_lookCast
    rw [ea, lk_was (nd1_l hS hj hc (vin oa) hr)]
  rw [if_neg z14] at N
  rw [if_neg z14, if_neg z14]
  by_cases z15 : k = 15
  · rw [if_pos z15] at N
    rw [if_pos z15, if_pos z15]
    obtain ⟨f8, qb, qc⟩ := hnd.2.2.2.2.2.2.1 z15
    have vb : b = -1 ∨ vp_in b 60 := qb.imp id vin
    have vc : c = -1 ∨ vp_in c 60 := qc.imp id vin
    unfold s_lookCall s_lc1
    rw [ea, eb, eC]
    by_cases r1 : s_hasFun C a = false
    · rw [if_pos r1, if_pos r1]
    rw [if_neg r1, if_neg r1]
    by_cases r2 : s_given b (C.1 8 0 a.toNatClampNeg) = false
    · rw [if_pos r2, if_pos r2]
    rw [if_neg r2, if_neg r2]
    by_cases r3 : s_given c (C.1 9 0 a.toNatClampNeg) = false
    · rw [if_pos r3, if_pos r3]
    rw [if_neg r3, if_neg r3]
    have eA : t_argsWrong R n = false := by
      unfold t_argsWrong
      rw [e3, e4, e5, e7, e8, e9, ea, eb, eC, given_eq vb, given_eq vc, if_neg (fun z => r1 ((fun_iff f8).mpr z)), if_neg r2]
      have g3 : s_given c (C.1 9 0 a.toNatClampNeg) = true := by simpa using r3
      rw [g3]
      rfl
    unfold t_needs15 at N
    rw [if_neg (by rw [eA]; decide)] at N
    have lc : c = -1 ∨ ¬ C.1 17 j c.toNatClampNeg = 400 := by
      rcases vc with q | q
      · exact Or.inl q
      · refine Or.inr fun z => hr ?_
        have w : t_ndA R (nI j) c = c := by
          unfold t_ndA t_nd1
          rw [if_neg (Int32.not_lt.mpr (nn60 q)), if_pos ((hS.rd hj hc q).1.mpr z)]
        rw [N]
        split
        · show 0 ≤ t_ndA R (nI j) c
          rw [w]
          exact nn60 q
        · split
          · rename_i y _
            exact Int32.not_lt.mp y
          · show 0 ≤ t_ndA R (nI j) c
            rw [w]
            exact nn60 q
    have lb : b = -1 ∨ ¬ C.1 17 j b.toNatClampNeg = 400 := by
      rcases vb with q | q
      · exact Or.inl q
      · refine Or.inr fun z => hr ?_
        rw [N, if_neg (Int32.not_lt.mpr (nn60 q)), if_pos ((hS.rd hj hc q).1.mpr z)]
        exact nn60 q
    have lkA : ∀ {x : Int32}, (x = -1 ∨ ¬ C.1 17 j x.toNatClampNeg = 400) → s_lkArg (s_look L j) C x = (true, C) := fun {x} hx => by
      unfold s_lkArg
      split
      · rfl
      · rename_i y
        exact lk_was (hx.resolve_left y)
    have lkD : ∀ {x : Int32}, s_lkArg (fun M _ => (true, M)) C x = (true, C) := fun {x} => by
      unfold s_lkArg
      split <;> rfl
    rw [lkA lb, lkD, sq_t, sq_t, lkA lc, lkD]
  rw [if_neg z15] at N
  rw [if_neg z15, if_neg z15]
  by_cases z16 : k = 16
  · rw [if_pos z16] at N
    rw [if_pos z16, if_pos z16]
    have oa := hnd.2.2.2.2.2.2.2.1 z16
    rw [N] at hr
    unfold s_lookWidth
    rw [ea, lk_was (nd1_l hS hj hc (vin oa) hr)]
  rw [if_neg z16] at N
  rw [if_neg z16, if_neg z16]
  obtain ⟨oa, ob⟩ := hnd.2.2.2.2.2.2.2.2 z0 z1 z13 z14 z15 z16
  rw [N] at hr
  obtain ⟨la, lb⟩ := nd_l hS hj hc (vin oa) (vin ob) hr
  unfold s_lookPair
  rw [ea, eb, lk_was la, sq_t, sq_t, lk_was lb]
theorem sq_as {r : Bool × mm_M} {k k' : mm_M → Bool × mm_M} : s_seq (s_seq r k) k' = s_seq r (fun M => s_seq (k M) k') := by
  unfold s_seq
  by_cases q : r.1 = true
  · rw [if_pos q, if_pos q]
  · rw [if_neg q, if_neg q]
    rfl
theorem sq_id {r : Bool × mm_M} {k : mm_M → Bool × mm_M} (h : r.1 = true → k r.2 = (true, r.2)) : s_seq r k = r := by
  unfold s_seq
  by_cases q : r.1 = true
  · rw [if_pos q, h q]
    exact Prod.ext q.symm rfl
  · rw [if_neg q]
    exact Prod.ext (by simpa using (Bool.eq_false_iff.mpr q).symm) rfl
/-- down from node n: the node that is ready, and the class's look as one step and the rest -/
theorem desc_eq {j : Nat} : ∀ (L : Nat) (C R : mm_M) (n : Int32), SC C R → JQ C j → C.1 12 0 3 = 0 → s_hasNode C n = true → C.1 17 j n.toNatClampNeg = 400 → lv C n ≤ (L : Int) → s_hasNode C (t_desc (nI j) L R n).1 = true ∧ C.1 17 j (t_desc (nI j) L R n).1.toNatClampNeg = 400 ∧ lv C (t_desc (nI j) L R n).1 ≤ lv C n ∧ ¬ 0 ≤ (t_needs R (nI j) (t_desc (nI j) L R n).1).1 ∧ (t_desc (nI j) L R n).2 = (t_needs R (nI j) (t_desc (nI j) L R n).1).2 ∧ s_look L j C n = s_seq (s_one C j (t_desc (nI j) L R n).1) (fun C1 => s_look L j C1 n)
  | 0, C, R, n, hS, hq, hE, hn, hu, hl => by
    have := (hq.1.2.2.1 n hn).1
    exact absurd hl (by omega)
  | L + 1, C, R, n, hS, hq, hE, hn, hu, hl => by
    have hl' : lv C n ≤ (L : Int) + 1 := by
      have : ((L + 1 : Nat) : Int) = (L : Int) + 1 := by omega
      omega
    have eD : t_desc (nI j) (L + 1) R n = t_descR (t_desc (nI j) L) n (t_needs R (nI j) n) := rfl
    rw [eD]
    unfold t_descR
    by_cases q : 0 ≤ (t_needs R (nI j) n).1
    · rw [if_pos q]
      obtain ⟨om, um, eR, st⟩ := step_eq hS hq hE hn hu hl' q
      rw [eR]
      generalize (t_needs R (nI j) n).1 = m at *
      have o2 := om.2
      obtain ⟨i1, i2, i3, i4, i5, i6⟩ := desc_eq L C R m hS hq hE om.1 um (by omega)
      generalize t_desc (nI j) L R m = d at *
      refine ⟨i1, i2, by omega, i4, i5, ?_⟩
      have hD0 : HD C j n C := ⟨⟨R, hS⟩, hq, hE, hu, KP.rf, fun k _ => ⟨rfl, rfl, rfl⟩⟩
      rw [st C hD0, i6, sq_as]
      refine sqc fun t => ?_
      -- behind the one step
      obtain ⟨cnt, c1, c2⟩ := hq.cnt
      have rs := one_sim ⟨hS, hq.2.2.2, hq.2.2.1, hq.1.in60 i1, hE, i2⟩ hq.1 i1 c2 c1 i4
      obtain ⟨s1, s2, s3⟩ := rs.1 t
      have kn : KN d.1 j C (s_one C j d.1).2 := by
        rw [← ready_eq (L := L) hS hq i1 i4]
        exact (lookK_ex (look_ex L) hS hq hE i1 i2 (by omega)).1
      have hD : HD C j n (s_one C j d.1).2 := ⟨⟨_, s1⟩, kn.2.1 hq, s1.2.2.1.symm.trans s2, (kn.un (by omega) hn).trans hu, kn.1, fun k hk => ⟨(kn.2.2.1 k hk).1, (kn.2.2.1 k hk).2.1, (kn.2.2.1 k hk).2.2.1⟩⟩
      show s_seq (s_look L j (s_one C j d.1).2 m) (fun C1 => s_look (L + 1) j C1 n) = s_look (L + 1) j (s_one C j d.1).2 n
      rw [st _ hD]
    · rw [if_neg q]
      refine ⟨hn, hu, Int.le_refl _, q, rfl, ?_⟩
      obtain ⟨cnt, c1, c2⟩ := hq.cnt
      have rs := one_sim ⟨hS, hq.2.2.2, hq.2.2.1, hq.1.in60 hn, hE, hu⟩ hq.1 hn c2 c1 q
      rw [lk_un hu, ready_eq hS hq hn q]
      exact (sq_id fun t => lk_was (rs.1 t).2.2).symm
