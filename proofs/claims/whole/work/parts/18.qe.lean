/-! every look of the class has its like on the reference's side -/
def LX (j : Nat) (lk : mm_M → Int32 → Bool × mm_M) (L : Int) : Prop := ∀ (C R : mm_M) (a : Int32), SC C R → JQ C j → C.1 12 0 3 = 0 → s_hasNode C a = true → lv C a ≤ L → KN a j C (lk C a).2 ∧ ∃ R', RS j a (lk C a) R'
theorem nxt {j : Nat} {lk : mm_M → Int32 → Bool × mm_M} {L : Int} (ih : LX j lk L) {C R : mm_M} {n a : Int32} (hS : SC C R) (hq : JQ C j) (hE : C.1 12 0 3 = 0) (hn : s_hasNode C n = true) (hu : C.1 17 j n.toNatClampNeg = 400) (hl : lv C n ≤ L + 1) (oa : okA C n a) : KN n j C (lk C a).2 ∧ ∃ R', ((lk C a).1 = true → SC (lk C a).2 R' ∧ JQ (lk C a).2 j ∧ (lk C a).2.1 12 0 3 = 0 ∧ ¬ (lk C a).2.1 17 j a.toNatClampNeg = 400 ∧ (lk C a).2.1 17 j n.toNatClampNeg = 400) ∧ ((lk C a).1 = false → SE (lk C a).2 R') := by
  have o2 := oa.2
  obtain ⟨k, R', r1, r2⟩ := ih C R a hS hq hE oa.1 (by omega)
  refine ⟨k.op o2, R', fun z => ?_, r2⟩
  obtain ⟨s1, s2, s3⟩ := r1 z
  exact ⟨s1, k.2.1 hq, s1.2.2.1.symm.trans s2, s3, (k.un o2 hn).trans hu⟩
theorem sq {j : Nat} {n : Int32} {C : mm_M} {r : Bool × mm_M} {k : mm_M → Bool × mm_M} (h : KN n j C r.2) (h1 : r.1 = true → KN n j r.2 (k r.2).2 ∧ ∃ R', RS j n (k r.2) R') (h2 : r.1 = false → ∃ R', SE r.2 R') : KN n j C (s_seq r k).2 ∧ ∃ R', RS j n (s_seq r k) R' := by
  unfold s_seq
  by_cases q : r.1 = true
  · rw [if_pos q]
    obtain ⟨a, b⟩ := h1 q
    exact ⟨h.tr a, b⟩
  · rw [if_neg q]
    obtain ⟨R', b⟩ := h2 (by simpa using q)
    exact ⟨h, R', RS.f b⟩
theorem JQ.cnt {C : mm_M} {j : Nat} (h : JQ C j) : ∃ c, c ≤ 20 ∧ C.1 12 0 2 = nI c := by
  obtain ⟨c, h1, h2, -⟩ := h.2.1
  exact ⟨c, h1, h2⟩
theorem okA_kn {n a : Int32} {m : Int32} {j : Nat} {C C' : mm_M} (k : KN m j C C') (h : okA C n a) : okA C' n a := by
  rw [kp_okA k.1]
  exact h
theorem lookK_ex {j : Nat} {lk : mm_M → Int32 → Bool × mm_M} {L : Int} (ih : LX j lk L) {C R : mm_M} {n : Int32} (hS : SC C R) (hq : JQ C j) (hE : C.1 12 0 3 = 0) (hn : s_hasNode C n = true) (hu : C.1 17 j n.toNatClampNeg = 400) (hl : lv C n ≤ L + 1) : KN n j C (s_lookK lk C j n).2 ∧ ∃ R', RS j n (s_lookK lk C j n) R' := by
  have hp := hq.1
  have hj := hq.2.2.2
  have hc := hq.2.2.1
  have n6 := hp.in60 hn
  have hnd := hp.2.2.1 n hn
  have st : ST C R j n := ⟨hS, hj, hc, n6, hE, hu⟩
  obtain ⟨a, ea⟩ : ∃ a, C.1 3 0 n.toNatClampNeg = a := ⟨_, rfl⟩
  obtain ⟨b, eb⟩ : ∃ b, C.1 4 0 n.toNatClampNeg = b := ⟨_, rfl⟩
  obtain ⟨c, eC⟩ : ∃ c, C.1 5 0 n.toNatClampNeg = c := ⟨_, rfl⟩
  obtain ⟨k, ek⟩ : ∃ k, C.1 2 0 n.toNatClampNeg = k := ⟨_, rfl⟩
  rw [ea, eb, eC, ek] at hnd
  -- after a look at an operand
  have af : ∀ {C1 : mm_M}, KN n j C C1 → s_hasNode C1 n = true ∧ lv C1 n ≤ L + 1 := fun k1 => ⟨(kp_hasNode k1.1 n).trans hn, by rw [kp_lv k1.1]; exact hl⟩
  unfold s_lookK
  rw [ek]
  by_cases z0 : k = 0
  · rw [if_pos z0]
    exact ⟨KN.findK hn hp hu, _, num_sim st⟩
  rw [if_neg z0]
  by_cases z1 : k = 1
  · rw [if_pos z1]
    exact ⟨KN.lookPar hn hp hu, _, par_sim st hp (by rw [ea]; exact hnd.2.2.2.1 z1)⟩
  rw [if_neg z1]
  by_cases z13 : k = 13
  · rw [if_pos z13]
    obtain ⟨oa, ob, oc⟩ := hnd.2.2.2.2.1 z13
    unfold s_lookIf
    rw [ea, eb, eC]
    obtain ⟨k1, R1, p1, p2⟩ := nxt ih hS hq hE hn hu hl oa
    refine sq k1 (fun t1 => ?_) (fun t1 => ⟨R1, p2 t1⟩)
    obtain ⟨S1, Q1, E1, la, U1⟩ := p1 t1
    obtain ⟨H1, L1⟩ := af k1
    generalize (lk C a).2 = C1 at *
    have va := Q1.1.in60 (okA_kn k1 oa).1
    have st1 : ST C1 R1 j n := ⟨S1, Q1.2.2.2, Q1.2.2.1, n6, E1, U1⟩
    unfold s_liB
    by_cases q0 : C1.1 17 j a.toNatClampNeg = 0
    · rw [if_neg (fun z => z q0)]
      obtain ⟨-, -, -, w2, w3⟩ := S1.rd Q1.2.2.2 Q1.2.2.1 va
      by_cases q1 : C1.1 18 j a.toNatClampNeg = 0
      · rw [if_neg (fun z => z q1)]
        obtain ⟨k2, R2, p3, p4⟩ := nxt ih S1 Q1 E1 H1 U1 L1 (okA_kn k1 ob)
        refine sq k2 (fun t2 => ?_) (fun t2 => ⟨R2, p4 t2⟩)
        obtain ⟨S2, Q2, E2, lb, U2⟩ := p3 t2
        obtain ⟨H2, L2⟩ := af (k1.tr k2)
        generalize (lk C1 b).2 = C2 at *
        obtain ⟨k3, R3, p5, p6⟩ := nxt ih S2 Q2 E2 H2 U2 L2 (okA_kn (k1.tr k2) oc)
        have kb := (ih C2 R2 c S2 Q2 E2 (okA_kn (k1.tr k2) oc).1 (by have := (okA_kn (k1.tr k2) oc).2; omega)).1
        refine sq k3 (fun t3 => ?_) (fun t3 => ⟨R3, p6 t3⟩)
        obtain ⟨S3, Q3, E3, lc, U3⟩ := p5 t3
        have lb3 := (kb.2.2.1 b.toNatClampNeg lb).1
        obtain ⟨H3, L3⟩ := af ((k1.tr k2).tr k3)
        generalize (lk C2 c).2 = C3 at *
        have K := (k1.tr k2).tr k3
        have st3 : ST C3 R3 j n := ⟨S3, Q3.2.2.2, Q3.2.2.1, n6, E3, U3⟩
        refine ⟨KN.fi H3 Q3.1 U3, ?_⟩
        obtain ⟨f1, f2⟩ := fit_sim st3 (Q3.1.in60 (okA_kn K ob).1) (Q3.1.in60 (okA_kn K oc).1) (by rw [lb3]; exact lb) lc
        unfold s_seq
        by_cases q : (s_fits C3 j n b c).1 = true
        · obtain ⟨e1, e2, e3⟩ := f1 q
          rw [if_pos q, e1]
          show ∃ R', RS j n (s_liC C3 j n b c) R'
          unfold s_liC
          by_cases q3 : s_fitted C3 j b c = 300
          · rw [if_pos q3]
            exact ⟨_, RS.fail S3 Q3.2.2.2 Q3.2.2.1 (by decide)⟩
          · rw [if_neg q3]
            refine ⟨_, find_sim (x := 0) st3 ?_ q3⟩
            rcases e3 with ⟨z, -⟩ | ⟨z, -⟩
            · rw [← z]
              obtain ⟨-, -, -, -, wb3⟩ := S3.rd Q3.2.2.2 Q3.2.2.1 (Q3.1.in60 (okA_kn K ob).1)
              exact (wb3 (by rw [lb3]; exact lb)).1
            · exact Or.inl z.1
        · have q' : (s_fits C3 j n b c).1 = false := by simpa using q
          rw [if_neg q]
          exact ⟨_, RS.f (f2 q')⟩
      · rw [if_pos q1]
        have ot : okA C1 n (if C1.2.1 19 j a.toNatClampNeg = 0 then c else b) := by
          split
          · exact okA_kn k1 oc
          · exact okA_kn k1 ob
        obtain ⟨k2, R2, p3, p4⟩ := nxt ih S1 Q1 E1 H1 U1 L1 ot
        refine sq k2 (fun t2 => ?_) (fun t2 => ⟨R2, p4 t2⟩)
        obtain ⟨S2, Q2, E2, lb, U2⟩ := p3 t2
        obtain ⟨H2, L2⟩ := af (k1.tr k2)
        generalize (if C1.2.1 19 j a.toNatClampNeg = 0 then c else b) = o at *
        have vo := Q2.1.in60 (okA_kn k2 ot).1
        generalize (lk C1 o).2 = C2 at *
        exact ⟨KN.findS H2 Q2.1 U2, _, findS_sim ⟨S2, Q2.2.2.2, Q2.2.2.1, n6, E2, U2⟩ vo lb⟩
    · rw [if_pos q0]
      exact ⟨KS.fail.kn, _, RS.fail S1 Q1.2.2.2 Q1.2.2.1 (by decide)⟩
  rw [if_neg z13]
  by_cases z14 : k = 14
  · rw [if_pos z14]
    obtain ⟨oa, hcast⟩ := hnd.2.2.2.2.2.1 z14
    unfold s_lookCast
    rw [ea]
    obtain ⟨k1, R1, p1, p2⟩ := nxt ih hS hq hE hn hu hl oa
    refine sq k1 (fun t1 => ?_) (fun t1 => ⟨R1, p2 t1⟩)
    obtain ⟨S1, Q1, E1, la, U1⟩ := p1 t1
    obtain ⟨H1, L1⟩ := af k1
    generalize (lk C a).2 = C1 at *
    exact ⟨KN.ltB H1 Q1.1 U1, _, cast_sim (b := b) ⟨S1, Q1.2.2.2, Q1.2.2.1, n6, E1, U1⟩ (Q1.1.in60 (okA_kn k1 oa).1) la (by rw [k1.1.2 4 (by decide)]; exact eb) hcast⟩
  rw [if_neg z14]
  by_cases z15 : k = 15
  · rw [if_pos z15]
    obtain ⟨f8, qb, qc⟩ := hnd.2.2.2.2.2.2.1 z15
    unfold s_lookCall s_lc1
    rw [ea, eb, eC]
    by_cases q1 : s_hasFun C a = false
    · rw [if_pos q1]
      exact ⟨KS.fail.kn, _, RS.fail hS hj hc (by decide)⟩
    rw [if_neg q1]
    by_cases q2 : s_given b (C.1 8 0 a.toNatClampNeg) = false
    · rw [if_pos q2]
      exact ⟨KS.fail.kn, _, RS.fail hS hj hc (by decide)⟩
    rw [if_neg q2]
    by_cases q3 : s_given c (C.1 9 0 a.toNatClampNeg) = false
    · rw [if_pos q3]
      exact ⟨KS.fail.kn, _, RS.fail hS hj hc (by decide)⟩
    rw [if_neg q3]
    have hfun : s_hasFun C a = true := by simpa using q1
    have g2 := given_iff (show s_given b (C.1 8 0 a.toNatClampNeg) = true by simpa using q2)
    have g3 := given_iff (show s_given c (C.1 9 0 a.toNatClampNeg) = true by simpa using q3)
    have arg : ∀ {C1 R1 : mm_M} {x : Int32}, KN n j C C1 → SC C1 R1 → JQ C1 j → C1.1 12 0 3 = 0 → C1.1 17 j n.toNatClampNeg = 400 → (x = -1 ∨ okA C n x) → KN n j C1 (s_lkArg lk C1 x).2 ∧ ∃ R', ((s_lkArg lk C1 x).1 = true → SC (s_lkArg lk C1 x).2 R' ∧ JQ (s_lkArg lk C1 x).2 j ∧ (s_lkArg lk C1 x).2.1 12 0 3 = 0 ∧ (x = -1 ∨ (vp_in x 60 ∧ ¬ (s_lkArg lk C1 x).2.1 17 j x.toNatClampNeg = 400)) ∧ (s_lkArg lk C1 x).2.1 17 j n.toNatClampNeg = 400) ∧ ((s_lkArg lk C1 x).1 = false → SE (s_lkArg lk C1 x).2 R') := fun {C1 R1 x} kk s1 q1 e1 u1 hx => by
      unfold s_lkArg
      by_cases y : x = -1
      · rw [if_pos y]
        exact ⟨KS.rf.kn, R1, fun _ => ⟨s1, q1, e1, Or.inl y, u1⟩, fun z => absurd z (by decide : ¬ (true : Bool) = false)⟩
      · rw [if_neg y]
        have ox := okA_kn kk (hx.resolve_left y)
        obtain ⟨m1, R', m2, m3⟩ := nxt ih s1 q1 e1 (af kk).1 u1 (af kk).2 ox
        refine ⟨m1, R', fun z => ?_, m3⟩
        obtain ⟨w1, w2, w3, w4, w5⟩ := m2 z
        exact ⟨w1, w2, w3, Or.inr ⟨q1.1.in60 ox.1, w4⟩, w5⟩
    obtain ⟨k1, R1, p1, p2⟩ := arg KS.rf.kn hS hq hE hu qb
    refine sq k1 (fun t1 => ?_) (fun t1 => ⟨R1, p2 t1⟩)
    obtain ⟨S1, Q1, E1, lb, U1⟩ := p1 t1
    generalize (s_lkArg lk C b).2 = C1 at *
    obtain ⟨k2, R2, p3, p4⟩ := arg k1 S1 Q1 E1 U1 qc
    have kc : ∀ y, ¬ C1.1 17 j y = 400 → (s_lkArg lk C1 c).2.1 17 j y = C1.1 17 j y := fun y hy => (k2.2.2.1 y hy).1
    refine sq k2 (fun t2 => ?_) (fun t2 => ⟨R2, p4 t2⟩)
    obtain ⟨S2, Q2, E2, lc, U2⟩ := p3 t2
    generalize (s_lkArg lk C1 c).2 = C2 at *
    have K := k1.tr k2
    obtain ⟨cnt, c1, c2⟩ := Q2.cnt
    have hf2 : s_hasFun C2 a = true := (kp_hasFun K.1 a).trans hfun
    exact ⟨KN.lc2 Q2 (af K).1 hf2 U2, _, call_sim ⟨S2, Q2.2.2.2, Q2.2.2.1, n6, E2, U2⟩ Q2.1 c2 c1 hf2 (by rw [K.1.2 8 (by decide)]; exact g2) (by rw [K.1.2 9 (by decide)]; exact g3) (lb.imp id fun z => ⟨z.1, by rw [kc _ z.2]; exact z.2⟩) lc⟩
  rw [if_neg z15]
  by_cases z16 : k = 16
  · rw [if_pos z16]
    have oa := hnd.2.2.2.2.2.2.2.1 z16
    unfold s_lookWidth
    rw [ea]
    obtain ⟨k1, R1, p1, p2⟩ := nxt ih hS hq hE hn hu hl oa
    refine sq k1 (fun t1 => ?_) (fun t1 => ⟨R1, p2 t1⟩)
    obtain ⟨S1, Q1, E1, la, U1⟩ := p1 t1
    obtain ⟨H1, L1⟩ := af k1
    generalize (lk C a).2 = C1 at *
    exact ⟨KN.lwB H1 Q1.1 U1, _, width_sim ⟨S1, Q1.2.2.2, Q1.2.2.1, n6, E1, U1⟩ (Q1.1.in60 (okA_kn k1 oa).1) la⟩
  rw [if_neg z16]
  obtain ⟨oa, ob⟩ := hnd.2.2.2.2.2.2.2.2 z0 z1 z13 z14 z15 z16
  unfold s_lookPair
  rw [ea, eb, ek]
  obtain ⟨k1, R1, p1, p2⟩ := nxt ih hS hq hE hn hu hl oa
  refine sq k1 (fun t1 => ?_) (fun t1 => ⟨R1, p2 t1⟩)
  obtain ⟨S1, Q1, E1, la, U1⟩ := p1 t1
  obtain ⟨H1, L1⟩ := af k1
  generalize (lk C a).2 = C1 at *
  obtain ⟨k2, R2, p3, p4⟩ := nxt ih S1 Q1 E1 H1 U1 L1 (okA_kn k1 ob)
  have la2 := (k2.2.2.1 a.toNatClampNeg la).1
  refine sq k2 (fun t2 => ?_) (fun t2 => ⟨R2, p4 t2⟩)
  obtain ⟨S2, Q2, E2, lb, U2⟩ := p3 t2
  generalize (lk C1 b).2 = C2 at *
  have K := k1.tr k2
  exact ⟨KN.pair (af K).1 Q2.1 U2, _, pair_sim ⟨S2, Q2.2.2.2, Q2.2.2.1, n6, E2, U2⟩ (Q2.1.in60 (okA_kn K oa).1) (Q2.1.in60 (okA_kn K ob).1) (by rw [la2]; exact la) lb (k_212 hnd.2.2.1 z0 z1 z13 z14 z15 z16)⟩
theorem look_ex {j : Nat} : ∀ L : Nat, LX j (s_look L j) (L : Int)
  | 0 => fun C R a hS hq hE hn hl => by
    have := (hq.1.2.2.1 a hn).1
    exact absurd hl (by omega)
  | L + 1 => fun C R n hS hq hE hn hl => by
    have ih := look_ex (j := j) L
    have hl' : lv C n ≤ (L : Int) + 1 := by
      have : ((L + 1 : Nat) : Int) = (L : Int) + 1 := by omega
      omega
    show KN n j C (if s_was C j n = true then (true, C) else s_lookK (s_look L j) C j n).2 ∧ ∃ R', RS j n (if s_was C j n = true then (true, C) else s_lookK (s_look L j) C j n) R'
    by_cases q : s_was C j n = true
    · rw [if_pos q]
      refine ⟨KS.rf.kn, R, RS.t hS (hS.2.2.1.trans hE) ?_⟩
      simpa [s_was] using q
    · rw [if_neg q]
      exact lookK_ex ih hS hq hE hn (by simpa [s_was] using q) hl'
