/-! one node is looked at: all stays closed -/
theorem one_cl {C R : mm_M} {j cnt : Nat} {n : Int32} (h : ST C R j n) (hp : IP C) (hN : s_hasNode C n = true) (hcl : CL C R) (ec : C.1 12 0 2 = nI cnt) (hcnt : cnt ≤ 20) (hr : ¬ 0 ≤ (t_needs R (nI j) n).1) (ht : (s_one C j n).1 = true) : CL (s_one C j n).2 (t_turnE (nI j) (n, (t_needs R (nI j) n).2)) ∧ KX C R (s_one C j n).2 (t_turnE (nI j) (n, (t_needs R (nI j) n).2)) := by
  have hre := h.re
  obtain ⟨hS, hj, hc, hn, hE, hu⟩ := h
  have h : ST C R j n := ⟨hS, hj, hc, hn, hE, hu⟩
  have e2 := hS.1 2 (by decide)
  have e3 := hS.1 3 (by decide)
  have e4 := hS.1 4 (by decide)
  have e5 := hS.1 5 (by decide)
  have e7 := hS.1 7 (by decide)
  have e8 := hS.1 8 (by decide)
  have e9 := hS.1 9 (by decide)
  have hnd := hp.2.2.1 n hN
  have F : ∀ {q : Prop}, (false : Bool) = true → q := fun z => absurd z (by decide)
  have go : ∀ {r : Bool × mm_M} {R' : mm_M}, (t_needs R (nI j) n).2 = R → t_look R (nI j) n = R' → (CL r.2 R' ∧ KX C R r.2 R') → CL r.2 (t_turnE (nI j) (n, (t_needs R (nI j) n).2)) ∧ KX C R r.2 (t_turnE (nI j) (n, (t_needs R (nI j) n).2)) := fun {r R'} q1 q2 q3 => by
    rw [q1]
    unfold t_turnE
    rw [if_pos hre, q2]
    exact q3
  have vin : ∀ {a : Int32}, okA C n a → vp_in a 60 := fun q => hp.in60 q.1
  obtain ⟨a, ea⟩ : ∃ a, C.1 3 0 n.toNatClampNeg = a := ⟨_, rfl⟩
  obtain ⟨b, eb⟩ : ∃ b, C.1 4 0 n.toNatClampNeg = b := ⟨_, rfl⟩
  obtain ⟨c, eC⟩ : ∃ c, C.1 5 0 n.toNatClampNeg = c := ⟨_, rfl⟩
  obtain ⟨k, ek⟩ : ∃ k, C.1 2 0 n.toNatClampNeg = k := ⟨_, rfl⟩
  rw [ea, eb, eC, ek] at hnd
  have N : t_needs R (nI j) n = if k = 0 then (-1, R) else if k = 1 then (-1, R) else if k = 13 then t_needs13 R (nI j) n a b c else if k = 14 then (t_nd1 R (nI j) a, R) else if k = 15 then t_needs15 R (nI j) n b c else if k = 16 then (t_nd1 R (nI j) a, R) else (t_nd R (nI j) a b, R) := by
    unfold t_needs
    rw [e2, e3, e4, e5, ea, eb, eC, ek]
  have K : t_look R (nI j) n = t_lookK R (nI j) n k a b c := by
    unfold t_look
    rw [e2, e3, e4, e5, ea, eb, eC, ek]
  have O : s_one C j n = if k = 0 then (true, s_findK C j n 300 a.toInt64) else if k = 1 then s_lookPar C j n else if k = 13 then s_liB (fun M _ => (true, M)) C j n a b c else if k = 14 then s_ltB C j n a else if k = 15 then s_lc1 (fun M _ => (true, M)) C j n a b c else if k = 16 then s_lwB C j n a else s_seq (s_fits C j n a b) (fun M3 => s_lpC M3 j n k a b) := by
    have o1 : s_lookIf (fun M _ => (true, M)) C j n = s_liB (fun M _ => (true, M)) C j n a b c := by
      unfold s_lookIf
      rw [ea, eb, eC]
      rfl
    have o2 : s_lookCast (fun M _ => (true, M)) C j n = s_ltB C j n a := by
      unfold s_lookCast
      rw [ea]
      rfl
    have o3 : s_lookCall (fun M _ => (true, M)) C j n = s_lc1 (fun M _ => (true, M)) C j n a b c := by
      unfold s_lookCall
      rw [ea, eb, eC]
    have o4 : s_lookWidth (fun M _ => (true, M)) C j n = s_lwB C j n a := by
      unfold s_lookWidth
      rw [ea]
      rfl
    have o5 : s_lookPair (fun M _ => (true, M)) C j n = s_seq (s_fits C j n a b) (fun M3 => s_lpC M3 j n k a b) := by
      unfold s_lookPair
      rw [ea, eb, ek]
      rfl
    unfold s_one s_lookK
    rw [o1, o2, o3, o4, o5, ek, ea]
  have K7k : ¬ k = 15 → K7 R (t_lookK R (nI j) n k a b c) := fun z => K7.look z
  unfold t_lookK at K K7k
  rw [O] at ht ⊢
  by_cases z0 : k = 0
  · rw [if_pos z0] at N K K7k ht ⊢
    exact go (by rw [N]) K (hcl.findK hp hN hu (K7k (by rw [z0]; decide)))
  rw [if_neg z0] at N K K7k ht ⊢
  by_cases z1 : k = 1
  · rw [if_pos z1] at N K K7k ht ⊢
    exact go (by rw [N]) K (par_cl hcl hp hN hu (K7k (by rw [z1]; decide)) (ek.trans z1) ht)
  rw [if_neg z1] at N K K7k ht ⊢
  by_cases z13 : k = 13
  · rw [if_pos z13] at N K K7k ht ⊢
    obtain ⟨oa, ob, oc⟩ := hnd.2.2.2.2.1 z13
    have va := vin oa
    have vb := vin ob
    have vc := vin oc
    obtain ⟨d1, d2, w1, w2, w3⟩ := hS.rd hj hc va
    unfold t_needs13 at N
    by_cases q1 : t_at R 44 (nI j) a = 0
    · rw [if_pos q1] at N
      rw [N] at hr
      exact absurd (nn60 va) hr
    rw [if_neg q1] at N
    have la : ¬ C.1 17 j a.toNatClampNeg = 400 := fun z => q1 (d1.mpr z)
    obtain ⟨x1, x2, x3⟩ := d2 la
    rw [x1, x2] at N
    by_cases q2 : C.1 17 j a.toNatClampNeg = 0
    · rw [if_neg (fun z => z q2)] at N
      by_cases q3 : C.1 18 j a.toNatClampNeg = 0
      · rw [if_pos q3] at N
        rw [N] at hr
        obtain ⟨lb, lc⟩ := nd_l hS hj hc vb vc hr
        exact go (by rw [N]) K (if_cl hS hcl hp hN hu hj hc (K7k (by rw [z13]; decide)) (ek.trans z13) ea eb eC vb vc la (fun _ => ⟨lb, lc⟩) (fun z => absurd q3 z) ht)
      · rw [if_neg q3, x3 (w2.resolve_left q3)] at N
        have hv := (w3 la).2.2 (w2.resolve_left q3)
        rw [q2, holds_iff, show (s_low 0).toInt = 0 by decide, show (s_high 0).toInt = 1 by decide] at hv
        by_cases q4 : C.2.1 19 j a.toNatClampNeg = 1
        · rw [if_pos q4] at N
          rw [N] at hr
          have lb := nd1_l hS hj hc vb hr
          refine go (by rw [N]) K (if_cl hS hcl hp hN hu hj hc (K7k (by rw [z13]; decide)) (ek.trans z13) ea eb eC vb vc la (fun z => absurd z q3) (fun _ => ?_) ht)
          rw [if_neg (by rw [q4]; decide)]
          exact lb
        · rw [if_neg q4] at N
          rw [N] at hr
          have lc := nd1_l hS hj hc vc hr
          refine go (by rw [N]) K (if_cl hS hcl hp hN hu hj hc (K7k (by rw [z13]; decide)) (ek.trans z13) ea eb eC vb vc la (fun z => absurd z q3) (fun _ => ?_) ht)
          have q5 : C.2.1 19 j a.toNatClampNeg = 0 := by
            rw [← Int64.toInt_inj, show (1 : Int64).toInt = 1 by decide] at q4
            rw [← Int64.toInt_inj, show (0 : Int64).toInt = 0 by decide]
            omega
          rw [if_pos q5]
          exact lc
    · rw [if_pos q2] at N
      unfold s_liB at ht
      rw [if_pos q2] at ht
      exact F ht
  rw [if_neg z13] at N K K7k ht ⊢
  by_cases z14 : k = 14
  · rw [if_pos z14] at N K K7k ht ⊢
    obtain ⟨oa, hcast⟩ := hnd.2.2.2.2.2.1 z14
    rw [N] at hr
    exact go (by rw [N]) K (cast_cl hcl hp hN hu hj hc (K7k (by rw [z14]; decide)) (ek.trans z14) ea (by rw [eb]; exact hcast) (nd1_l hS hj hc (vin oa) hr) ht)
  rw [if_neg z14] at N K K7k ht ⊢
  by_cases z15 : k = 15
  · rw [if_pos z15] at N K ht ⊢
    obtain ⟨f8, qb, qc⟩ := hnd.2.2.2.2.2.2.1 z15
    have vb : b = -1 ∨ vp_in b 60 := qb.imp id vin
    have vc : c = -1 ∨ vp_in c 60 := qc.imp id vin
    have eA : t_argsWrong R n = (if C.1 7 0 a.toNatClampNeg = 0 then true else if s_given b (C.1 8 0 a.toNatClampNeg) = false then true else !s_given c (C.1 9 0 a.toNatClampNeg)) := by
      unfold t_argsWrong
      rw [e3, e4, e5, e7, e8, e9, ea, eb, eC, given_eq vb, given_eq vc]
    unfold t_needs15 at N
    unfold s_lc1 at ht ⊢
    by_cases q1 : s_hasFun C a = false
    · rw [if_pos ((fun_iff f8).mp q1)] at eA
      rw [if_pos eA] at N
      rw [if_pos q1] at ht
      exact F ht
    rw [if_neg (fun z => q1 ((fun_iff f8).mpr z))] at eA
    rw [if_neg q1] at ht ⊢
    by_cases q2 : s_given b (C.1 8 0 a.toNatClampNeg) = false
    · rw [if_pos q2] at eA
      rw [if_pos eA] at N
      rw [if_pos q2] at ht
      exact F ht
    rw [if_neg q2] at eA
    rw [if_neg q2] at ht ⊢
    by_cases q3 : s_given c (C.1 9 0 a.toNatClampNeg) = false
    · rw [q3] at eA
      have eA : t_argsWrong R n = true := eA
      rw [if_pos eA] at N
      rw [if_pos q3] at ht
      exact F ht
    have g2 : s_given b (C.1 8 0 a.toNatClampNeg) = true := by simpa using q2
    have g3 : s_given c (C.1 9 0 a.toNatClampNeg) = true := by simpa using q3
    rw [g3] at eA
    rw [if_neg q3] at ht ⊢
    have nA : ¬ t_argsWrong R n = true := by rw [eA]; decide
    rw [if_neg nA] at N
    have hfun : s_hasFun C a = true := by simpa using q1
    have sk : (s_seq (s_lkArg (fun M _ => (true, M)) C b) fun M1 => s_seq (s_lkArg (fun M _ => (true, M)) M1 c) fun M2 => s_lc2 M2 j n a b c) = s_lc2 C j n a b c := by
      have k1 : ∀ (M : mm_M) (x : Int32), s_lkArg (fun M _ => (true, M)) M x = (true, M) := fun M x => by
        unfold s_lkArg
        split <;> rfl
      rw [k1]
      show (s_seq (s_lkArg (fun M _ => (true, M)) C c) fun M2 => s_lc2 M2 j n a b c) = _
      rw [k1]
      rfl
    rw [sk] at ht ⊢
    have N2 : (t_needs R (nI j) n).2 = R := by
      rw [N]
      split
      · rfl
      · split <;> rfl
    have lc : c = -1 ∨ (vp_in c 60 ∧ ¬ C.1 17 j c.toNatClampNeg = 400) := by
      rcases vc with q | q
      · exact Or.inl q
      · refine Or.inr ⟨q, fun z => hr ?_⟩
        have w : t_ndA R (nI j) c = c := by
          unfold t_ndA t_nd1
          rw [if_neg (Int32.not_lt.mpr (nn60 q)), if_pos ((hS.rd hj hc q).1.mpr z)]
        rw [N]
        split
        · show 0 ≤ t_ndA R (nI j) c
          rw [w]
          exact nn60 q
        · split
          · rename_i y _
            exact Int32.not_lt.mp y
          · show 0 ≤ t_ndA R (nI j) c
            rw [w]
            exact nn60 q
    have lb : b = -1 ∨ (vp_in b 60 ∧ ¬ C.1 17 j b.toNatClampNeg = 400) := by
      rcases vb with q | q
      · exact Or.inl q
      · refine Or.inr ⟨q, fun z => hr ?_⟩
        rw [N, if_neg (Int32.not_lt.mpr (nn60 q)), if_pos ((hS.rd hj hc q).1.mpr z)]
        exact nn60 q
    exact go N2 K (call_cl h hp hN hcl (ek.trans z15) ea eb eC ec hcnt hfun (given_iff g2) (given_iff g3) lb lc ht)
  rw [if_neg z15] at N K K7k ht ⊢
  by_cases z16 : k = 16
  · rw [if_pos z16] at N K K7k ht ⊢
    have oa := hnd.2.2.2.2.2.2.2.1 z16
    rw [N] at hr
    exact go (by rw [N]) K (width_cl hcl hp hN hu (K7k (by rw [z16]; decide)) ht)
  rw [if_neg z16] at N K K7k ht ⊢
  obtain ⟨oa, ob⟩ := hnd.2.2.2.2.2.2.2.2 z0 z1 z13 z14 z15 z16
  rw [N] at hr
  obtain ⟨la, lb⟩ := nd_l hS hj hc (vin oa) (vin ob) hr
  exact go (by rw [N]) K (pair_cl hS hcl hp hN hu hj hc (K7k z15) ek ea eb ⟨z0, z1, z13, z14, z15, z16⟩ (k_212 hnd.2.2.1 z0 z1 z13 z14 z15 z16) (vin oa) (vin ob) la lb ht)
