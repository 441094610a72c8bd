/-! the class's looks, one node at a time -/
theorem lk_was {j L : Nat} {C : mm_M} {x : Int32} (h : ¬ C.1 17 j x.toNatClampNeg = 400) : s_look L j C x = (true, C) := by
  cases L with
  | zero => rfl
  | succ L =>
    show (if s_was C j x = true then (true, C) else s_lookK (s_look L j) C j x) = _
    rw [if_pos]
    simpa [s_was] using h
theorem lk_un {j L : Nat} {C : mm_M} {x : Int32} (h : C.1 17 j x.toNatClampNeg = 400) : s_look (L + 1) j C x = s_lookK (s_look L j) C j x := by
  show (if s_was C j x = true then (true, C) else s_lookK (s_look L j) C j x) = _
  rw [if_neg]
  simpa [s_was] using h
theorem sqc {r : Bool × mm_M} {k k' : mm_M → Bool × mm_M} (h : r.1 = true → k r.2 = k' r.2) : s_seq r k = s_seq r k' := by
  unfold s_seq
  by_cases q : r.1 = true
  · rw [if_pos q, if_pos q, h q]
  · rw [if_neg q, if_neg q]
theorem sq_t {C : mm_M} {k : mm_M → Bool × mm_M} : s_seq (true, C) k = k C := rfl
/-- a memory in which no less was looked at, and node n was not -/
def HD (C : mm_M) (j : Nat) (n : Int32) (D : mm_M) : Prop := (∃ R, SC D R) ∧ JQ D j ∧ D.1 12 0 3 = 0 ∧ D.1 17 j n.toNatClampNeg = 400 ∧ KP C D ∧ ∀ k, ¬ C.1 17 j k = 400 → D.1 17 j k = C.1 17 j k ∧ D.1 18 j k = C.1 18 j k ∧ D.2.1 19 j k = C.2.1 19 j k
/-- a node wants an operand: look at that, and begin again -/
theorem step_eq {j L : Nat} {C R : mm_M} {n : Int32} (hS : SC C R) (hq : JQ C j) (hE : C.1 12 0 3 = 0) (hn : s_hasNode C n = true) (hu : C.1 17 j n.toNatClampNeg = 400) (hl : lv C n ≤ (L : Int) + 1) (hm : 0 ≤ (t_needs R (nI j) n).1) : okA C n (t_needs R (nI j) n).1 ∧ C.1 17 j (t_needs R (nI j) n).1.toNatClampNeg = 400 ∧ (t_needs R (nI j) n).2 = R ∧ ∀ D, HD C j n D → s_look (L + 1) j D n = s_seq (s_look L j D (t_needs R (nI j) n).1) (fun C1 => s_look (L + 1) j C1 n) := by
  have hp := hq.1
  have hj := hq.2.2.2
  have hc := hq.2.2.1
  have hnd := hp.2.2.1 n hn
  have e2 := hS.1 2 (by decide)
  have e3 := hS.1 3 (by decide)
  have e4 := hS.1 4 (by decide)
  have e5 := hS.1 5 (by decide)
  have e7 := hS.1 7 (by decide)
  have e8 := hS.1 8 (by decide)
  have e9 := hS.1 9 (by decide)
  have ih := look_ex (j := j) L
  have vin : ∀ {a : Int32}, okA C n a → vp_in a 60 := fun q => hp.in60 q.1
  have un : ∀ {a : Int32}, okA C n a → (t_at R 44 (nI j) a = 0 ↔ C.1 17 j a.toNatClampNeg = 400) := fun q => (hS.rd hj hc (vin q)).1
  obtain ⟨a, ea⟩ : ∃ a, C.1 3 0 n.toNatClampNeg = a := ⟨_, rfl⟩
  obtain ⟨b, eb⟩ : ∃ b, C.1 4 0 n.toNatClampNeg = b := ⟨_, rfl⟩
  obtain ⟨c, eC⟩ : ∃ c, C.1 5 0 n.toNatClampNeg = c := ⟨_, rfl⟩
  obtain ⟨k, ek⟩ : ∃ k, C.1 2 0 n.toNatClampNeg = k := ⟨_, rfl⟩
  rw [ea, eb, eC, ek] at hnd
  have N : t_needs R (nI j) n = if k = 0 then (-1, R) else if k = 1 then (-1, R) else if k = 13 then t_needs13 R (nI j) n a b c else if k = 14 then (t_nd1 R (nI j) a, R) else if k = 15 then t_needs15 R (nI j) n b c else if k = 16 then (t_nd1 R (nI j) a, R) else (t_nd R (nI j) a b, R) := by
    unfold t_needs
    rw [e2, e3, e4, e5, ea, eb, eC, ek]
  -- what stands behind a look at x
  have aft : ∀ {D : mm_M} {x : Int32}, HD C j n D → okA C n x → (s_look L j D x).1 = true → KN x j D (s_look L j D x).2 ∧ (s_look L j D x).2.1 17 j n.toNatClampNeg = 400 ∧ ¬ (s_look L j D x).2.1 17 j x.toNatClampNeg = 400 := fun {D x} hD ox t => by
    obtain ⟨⟨RD, s1⟩, s2, s3, s4, s5, s6⟩ := hD
    have oD : okA D n x := by
      rw [kp_okA s5]
      exact ox
    have o2 := oD.2
    have lD : lv D n ≤ (L : Int) + 1 := by
      rw [kp_lv s5]
      exact hl
    obtain ⟨k1, R', r1, -⟩ := ih D RD x s1 s2 s3 oD.1 (by omega)
    exact ⟨k1, (k1.un o2 ((kp_hasNode s5 n).trans hn)).trans s4, (r1 t).2.2⟩
  have fin : ∀ {x : Int32}, okA C n x → (t_needs R (nI j) n) = (x, R) → C.1 17 j x.toNatClampNeg = 400 → (∀ C1 : mm_M, KN x j C C1 → C1.1 17 j n.toNatClampNeg = 400 → ¬ C1.1 17 j x.toNatClampNeg = 400 → True) → (∀ D, HD C j n D → s_lookK (s_look L j) D j n = s_seq (s_look L j D x) (fun C1 => s_lookK (s_look L j) C1 j n)) → okA C n (t_needs R (nI j) n).1 ∧ C.1 17 j (t_needs R (nI j) n).1.toNatClampNeg = 400 ∧ (t_needs R (nI j) n).2 = R ∧ ∀ D, HD C j n D → s_look (L + 1) j D n = s_seq (s_look L j D (t_needs R (nI j) n).1) (fun C1 => s_look (L + 1) j C1 n) := fun {x} ox eN ux _ eq => by
    rw [eN]
    refine ⟨ox, ux, rfl, fun D hD => ?_⟩
    rw [lk_un hD.2.2.2.1, eq D hD]
    refine sqc fun t => ?_
    obtain ⟨-, u1, -⟩ := aft hD ox t
    show _ = s_look (L + 1) j (s_look L j D x).2 n
    rw [lk_un u1]
  have pg : ∀ {C1 : mm_M}, KP C C1 → C1.1 2 0 n.toNatClampNeg = k ∧ C1.1 3 0 n.toNatClampNeg = a ∧ C1.1 4 0 n.toNatClampNeg = b ∧ C1.1 5 0 n.toNatClampNeg = c ∧ C1.1 8 = C.1 8 ∧ C1.1 9 = C.1 9 := fun k1 => ⟨by rw [k1.2 2 (by decide)]; exact ek, by rw [k1.2 3 (by decide)]; exact ea, by rw [k1.2 4 (by decide)]; exact eb, by rw [k1.2 5 (by decide)]; exact eC, k1.2 8 (by decide), k1.2 9 (by decide)⟩
  by_cases z0 : k = 0
  · rw [if_pos z0] at N
    rw [N] at hm
    exact absurd hm m1_n
  rw [if_neg z0] at N
  by_cases z1 : k = 1
  · rw [if_pos z1] at N
    rw [N] at hm
    exact absurd hm m1_n
  rw [if_neg z1] at N
  by_cases z14 : k = 14
  · rw [if_neg (by rw [z14]; decide), if_pos z14] at N
    obtain ⟨oa, -⟩ := hnd.2.2.2.2.2.1 z14
    have q : t_at R 44 (nI j) a = 0 := Classical.byContradiction fun q => by
      unfold t_nd1 at N
      rw [if_neg q] at N
      rw [N] at hm
      exact m1_n hm
    unfold t_nd1 at N
    rw [if_pos q] at N
    refine fin oa N ((un oa).mp q) (fun _ _ _ _ => trivial) ?_
    have e : ∀ {C1 : mm_M}, C1.1 2 0 n.toNatClampNeg = k → C1.1 3 0 n.toNatClampNeg = a → s_lookK (s_look L j) C1 j n = s_seq (s_look L j C1 a) (fun M1 => s_ltB M1 j n a) := fun {C1} p1 p2 => by
      unfold s_lookK s_lookCast
      rw [p1, p2, if_neg z0, if_neg z1, if_neg (by rw [z14]; decide), if_pos z14]
    intro D hD
    obtain ⟨d1, d2, -⟩ := pg hD.2.2.2.2.1
    rw [e d1 d2]
    refine sqc fun t => ?_
    obtain ⟨k1, u1, l1⟩ := aft hD oa t
    obtain ⟨g1, g2, -⟩ := pg (hD.2.2.2.2.1.tr k1.1)
    rw [e g1 g2, lk_was l1, sq_t]
  by_cases z16 : k = 16
  · rw [if_neg (by rw [z16]; decide), if_neg z14, if_neg (by rw [z16]; decide), if_pos z16] at N
    have oa := hnd.2.2.2.2.2.2.2.1 z16
    have q : t_at R 44 (nI j) a = 0 := Classical.byContradiction fun q => by
      unfold t_nd1 at N
      rw [if_neg q] at N
      rw [N] at hm
      exact m1_n hm
    unfold t_nd1 at N
    rw [if_pos q] at N
    refine fin oa N ((un oa).mp q) (fun _ _ _ _ => trivial) ?_
    have e : ∀ {C1 : mm_M}, C1.1 2 0 n.toNatClampNeg = k → C1.1 3 0 n.toNatClampNeg = a → s_lookK (s_look L j) C1 j n = s_seq (s_look L j C1 a) (fun M1 => s_lwB M1 j n a) := fun {C1} p1 p2 => by
      unfold s_lookK s_lookWidth
      rw [p1, p2, if_neg z0, if_neg z1, if_neg (by rw [z16]; decide), if_neg z14, if_neg (by rw [z16]; decide), if_pos z16]
    intro D hD
    obtain ⟨d1, d2, -⟩ := pg hD.2.2.2.2.1
    rw [e d1 d2]
    refine sqc fun t => ?_
    obtain ⟨k1, u1, l1⟩ := aft hD oa t
    obtain ⟨g1, g2, -⟩ := pg (hD.2.2.2.2.1.tr k1.1)
    rw [e g1 g2, lk_was l1, sq_t]
  by_cases z13 : k = 13
  · rw [if_pos z13] at N
    obtain ⟨oa, ob, oc⟩ := hnd.2.2.2.2.1 z13
    have e : ∀ {C1 : mm_M}, C1.1 2 0 n.toNatClampNeg = k → C1.1 3 0 n.toNatClampNeg = a → C1.1 4 0 n.toNatClampNeg = b → C1.1 5 0 n.toNatClampNeg = c → s_lookK (s_look L j) C1 j n = s_seq (s_look L j C1 a) (fun M1 => s_liB (s_look L j) M1 j n a b c) := fun {C1} p1 p2 p3 p4 => by
      unfold s_lookK s_lookIf
      rw [p1, p2, p3, p4, if_neg z0, if_neg z1, if_pos z13]
    obtain ⟨d1, d2, w1, w2, w3⟩ := hS.rd hj hc (vin oa)
    unfold t_needs13 at N
    by_cases q1 : t_at R 44 (nI j) a = 0
    · rw [if_pos q1] at N
      refine fin oa N ((un oa).mp q1) (fun _ _ _ _ => trivial) ?_
      intro D hD
      obtain ⟨v1, v2, v3, v4, -⟩ := pg hD.2.2.2.2.1
      rw [e v1 v2 v3 v4]
      refine sqc fun t => ?_
      obtain ⟨k1, u1, l1⟩ := aft hD oa t
      obtain ⟨g1, g2, g3, g4, -⟩ := pg (hD.2.2.2.2.1.tr k1.1)
      rw [e g1 g2 g3 g4, lk_was l1, sq_t]
    rw [if_neg q1] at N
    have la : ¬ C.1 17 j a.toNatClampNeg = 400 := fun z => q1 (d1.mpr z)
    obtain ⟨x1, x2, x3⟩ := d2 la
    rw [x1, x2] at N
    have q2 : C.1 17 j a.toNatClampNeg = 0 := Classical.byContradiction fun q2 => by
      rw [if_pos q2] at N
      rw [N] at hm
      exact m1_n hm
    rw [if_neg (fun z => z q2)] at N
    have eD : ∀ {D : mm_M}, HD C j n D → s_lookK (s_look L j) D j n = s_liB (s_look L j) D j n a b c ∧ D.1 17 j a.toNatClampNeg = 0 ∧ D.1 18 j a.toNatClampNeg = C.1 18 j a.toNatClampNeg ∧ D.2.1 19 j a.toNatClampNeg = C.2.1 19 j a.toNatClampNeg := fun {D} hD => by
      obtain ⟨v1, v2, v3, v4, -⟩ := pg hD.2.2.2.2.1
      obtain ⟨y1, y2, y3⟩ := hD.2.2.2.2.2 _ la
      refine ⟨?_, y1.trans q2, y2, y3⟩
      rw [e v1 v2 v3 v4, lk_was (x := a) (by rw [y1]; exact la), sq_t]
    have eE : ∀ {D : mm_M} {x : Int32}, HD C j n D → KN x j D (s_look L j D x).2 → s_lookK (s_look L j) (s_look L j D x).2 j n = s_liB (s_look L j) (s_look L j D x).2 j n a b c ∧ (s_look L j D x).2.1 17 j a.toNatClampNeg = 0 ∧ (s_look L j D x).2.1 18 j a.toNatClampNeg = C.1 18 j a.toNatClampNeg ∧ (s_look L j D x).2.2.1 19 j a.toNatClampNeg = C.2.1 19 j a.toNatClampNeg := fun {D x} hD k1 => by
      obtain ⟨v1, v2, v3, v4, -⟩ := pg (hD.2.2.2.2.1.tr k1.1)
      obtain ⟨y1, y2, y3⟩ := hD.2.2.2.2.2 _ la
      obtain ⟨a1, a2, a3, -⟩ := k1.2.2.1 a.toNatClampNeg (by rw [y1]; exact la)
      refine ⟨?_, (a1.trans y1).trans q2, a2.trans y2, a3.trans y3⟩
      rw [e v1 v2 v3 v4, lk_was (x := a) (by rw [a1, y1]; exact la), sq_t]
    by_cases q3 : C.1 18 j a.toNatClampNeg = 0
    · rw [if_pos q3] at N
      have eI : ∀ {C1 : mm_M}, C1.1 17 j a.toNatClampNeg = 0 → C1.1 18 j a.toNatClampNeg = 0 → s_liB (s_look L j) C1 j n a b c = s_seq (s_look L j C1 b) (fun M1 => s_seq (s_look L j M1 c) fun M2 => s_seq (s_fits M2 j n b c) fun M3 => s_liC M3 j n b c) := fun {C1} p1 p2 => by
        unfold s_liB
        rw [if_neg (fun z => z p1), if_neg (fun z => z p2)]
      unfold t_nd at N
      by_cases q4 : t_at R 44 (nI j) b = 0
      · rw [if_pos q4] at N
        refine fin ob N ((un ob).mp q4) (fun _ _ _ _ => trivial) ?_
        intro D hD
        obtain ⟨w1, w2', w3', -⟩ := eD hD
        rw [w1, eI w2' (w3'.trans q3)]
        refine sqc fun t => ?_
        obtain ⟨k1, u1, l1⟩ := aft hD ob t
        obtain ⟨x1', x2', x3', -⟩ := eE hD k1
        rw [x1', eI x2' (x3'.trans q3), lk_was l1, sq_t]
      · rw [if_neg q4] at N
        have q5 : t_at R 44 (nI j) c = 0 := Classical.byContradiction fun q5 => by
          rw [if_neg q5] at N
          rw [N] at hm
          exact m1_n hm
        rw [if_pos q5] at N
        have lb : ¬ C.1 17 j b.toNatClampNeg = 400 := fun z => q4 ((un ob).mpr z)
        refine fin oc N ((un oc).mp q5) (fun _ _ _ _ => trivial) ?_
        intro D hD
        obtain ⟨w1, w2', w3', -⟩ := eD hD
        have bD := (hD.2.2.2.2.2 _ lb).1
        rw [w1, eI w2' (w3'.trans q3), lk_was (x := b) (by rw [bD]; exact lb), sq_t]
        refine sqc fun t => ?_
        obtain ⟨k1, u1, l1⟩ := aft hD oc t
        obtain ⟨x1', x2', x3', -⟩ := eE hD k1
        have b1 := (k1.2.2.1 b.toNatClampNeg (by rw [bD]; exact lb)).1
        rw [x1', eI x2' (x3'.trans q3), lk_was (x := b) (by rw [b1, bD]; exact lb), sq_t, lk_was l1, sq_t]
    · have k18 := w2.resolve_left q3
      rw [if_neg q3, x3 k18] at N
      have hv := (w3 la).2.2 k18
      rw [q2, holds_iff, show (s_low 0).toInt = 0 by decide, show (s_high 0).toInt = 1 by decide] at hv
      have eI : ∀ {C1 : mm_M}, C1.1 17 j a.toNatClampNeg = 0 → ¬ C1.1 18 j a.toNatClampNeg = 0 → s_liB (s_look L j) C1 j n a b c = s_seq (s_look L j C1 (if C1.2.1 19 j a.toNatClampNeg = 0 then c else b)) (fun M1 => (true, s_findS M1 j n (if C1.2.1 19 j a.toNatClampNeg = 0 then c else b))) := fun {C1} p1 p2 => by
        unfold s_liB
        rw [if_neg (fun z => z p1), if_pos p2]
      have tk : ∃ o, (if C.2.1 19 j a.toNatClampNeg = 0 then c else b) = o ∧ okA C n o ∧ t_needs R (nI j) n = (t_nd1 R (nI j) o, R) := by
        by_cases q4 : C.2.1 19 j a.toNatClampNeg = 1
        · rw [if_pos q4] at N
          exact ⟨b, if_neg (by rw [q4]; decide), ob, N⟩
        · rw [if_neg q4] at N
          refine ⟨c, if_pos ?_, oc, N⟩
          rw [← Int64.toInt_inj, show (1 : Int64).toInt = 1 by decide] at q4
          rw [← Int64.toInt_inj, show (0 : Int64).toInt = 0 by decide]
          omega
      obtain ⟨o, eo, oo, N'⟩ := tk
      have q5 : t_at R 44 (nI j) o = 0 := Classical.byContradiction fun q5 => by
        unfold t_nd1 at N'
        rw [if_neg q5] at N'
        rw [N'] at hm
        exact m1_n hm
      unfold t_nd1 at N'
      rw [if_pos q5] at N'
      refine fin oo N' ((un oo).mp q5) (fun _ _ _ _ => trivial) ?_
      intro D hD
      obtain ⟨w1, w2', w3', w4'⟩ := eD hD
      rw [w1, eI w2' (by rw [w3']; exact q3), w4', eo]
      refine sqc fun t => ?_
      obtain ⟨k1, u1, l1⟩ := aft hD oo t
      obtain ⟨x1', x2', x3', x4'⟩ := eE hD k1
      rw [x1', eI x2' (by rw [x3']; exact q3), x4', eo, lk_was l1, sq_t]
  rw [if_neg z13, if_neg z14] at N
  by_cases z15 : k = 15
  · rw [if_pos z15] at N
    obtain ⟨f8, qb, qc⟩ := hnd.2.2.2.2.2.2.1 z15
    have vb : b = -1 ∨ vp_in b 60 := qb.imp id vin
    have vc : c = -1 ∨ vp_in c 60 := qc.imp id vin
    unfold t_needs15 at N
    have nA : ¬ t_argsWrong R n = true := fun q => by
      rw [if_pos q] at N
      rw [N] at hm
      exact m1_n hm
    rw [if_neg nA] at N
    have eA : t_argsWrong R n = (if C.1 7 0 a.toNatClampNeg = 0 then true else if s_given b (C.1 8 0 a.toNatClampNeg) = false then true else !s_given c (C.1 9 0 a.toNatClampNeg)) := by
      unfold t_argsWrong
      rw [e3, e4, e5, e7, e8, e9, ea, eb, eC, given_eq vb, given_eq vc]
    have r1 : ¬ s_hasFun C a = false := fun q => nA (by rw [eA, if_pos ((fun_iff f8).mp q)])
    have r1' : ¬ C.1 7 0 a.toNatClampNeg = 0 := fun q => r1 ((fun_iff f8).mpr q)
    have r2 : ¬ s_given b (C.1 8 0 a.toNatClampNeg) = false := fun q => nA (by rw [eA, if_neg r1', if_pos q])
    have r3 : ¬ s_given c (C.1 9 0 a.toNatClampNeg) = false := fun q => nA (by rw [eA, if_neg r1', if_neg r2, q]; rfl)
    have e : ∀ {C1 : mm_M}, KP C C1 → s_lookK (s_look L j) C1 j n = s_seq (s_lkArg (s_look L j) C1 b) (fun M1 => s_seq (s_lkArg (s_look L j) M1 c) fun M2 => s_lc2 M2 j n a b c) := fun {C1} k1 => by
      obtain ⟨g1, g2, g3, g4, g5, g6⟩ := pg k1
      unfold s_lookK s_lookCall s_lc1
      rw [g1, g2, g3, g4, g5, g6, kp_hasFun k1, if_neg z0, if_neg z1, if_neg z13, if_neg z14, if_pos z15, if_neg r1, if_neg r2, if_neg r3]
    have lkA : ∀ {C1 : mm_M} {x : Int32}, (x = -1 ∨ ¬ C1.1 17 j x.toNatClampNeg = 400) → s_lkArg (s_look L j) C1 x = (true, C1) := fun {C1 x} hx => by
      unfold s_lkArg
      split
      · rfl
      · rename_i y
        exact lk_was (hx.resolve_left y)
    have lkN : ∀ {C1 : mm_M} {x : Int32}, ¬ x = -1 → s_lkArg (s_look L j) C1 x = s_look L j C1 x := fun {C1 x} hx => if_neg hx
    have nb0 : ∀ {x : Int32}, okA C n x → ¬ x < 0 ∧ ¬ x = -1 := fun ox => by
      have h0 := Int32.not_lt.mpr (nn60 (vin ox))
      exact ⟨h0, fun z => h0 (by rw [z]; decide)⟩
    have doC : (b = -1 ∨ ¬ C.1 17 j b.toNatClampNeg = 400) → t_needs R (nI j) n = (t_ndA R (nI j) c, R) → okA C n (t_needs R (nI j) n).1 ∧ C.1 17 j (t_needs R (nI j) n).1.toNatClampNeg = 400 ∧ (t_needs R (nI j) n).2 = R ∧ ∀ D, HD C j n D → s_look (L + 1) j D n = s_seq (s_look L j D (t_needs R (nI j) n).1) (fun C1 => s_look (L + 1) j C1 n) := fun hb N' => by
      have oc : okA C n c := qc.resolve_left fun z => by
        rw [N', z] at hm
        exact absurd hm (by unfold t_ndA; rw [if_pos (by decide)]; exact m1_n)
      have q5 : t_at R 44 (nI j) c = 0 := Classical.byContradiction fun q5 => by
        unfold t_ndA t_nd1 at N'
        rw [if_neg (nb0 oc).1, if_neg q5] at N'
        rw [N'] at hm
        exact m1_n hm
      unfold t_ndA t_nd1 at N'
      rw [if_neg (nb0 oc).1, if_pos q5] at N'
      refine fin oc N' ((un oc).mp q5) (fun _ _ _ _ => trivial) ?_
      intro D hD
      have hbD : b = -1 ∨ ¬ D.1 17 j b.toNatClampNeg = 400 := hb.imp id fun z => by rw [(hD.2.2.2.2.2 _ z).1]; exact z
      rw [e hD.2.2.2.2.1, lkA hbD, sq_t, lkN (nb0 oc).2]
      refine sqc fun t => ?_
      obtain ⟨k1, u1, l1⟩ := aft hD oc t
      have hb1 : b = -1 ∨ ¬ (s_look L j D c).2.1 17 j b.toNatClampNeg = 400 := hbD.imp id fun z => by rw [(k1.2.2.1 _ z).1]; exact z
      rw [e (hD.2.2.2.2.1.tr k1.1), lkA hb1, sq_t, lkA (Or.inr l1), sq_t]
    by_cases q1 : b < 0
    · rw [if_pos q1] at N
      refine doC (Or.inl ?_) N
      exact vb.resolve_right fun z => absurd q1 (Int32.not_lt.mpr (nn60 z))
    rw [if_neg q1] at N
    have ob : okA C n b := qb.resolve_left fun z => q1 (by rw [z]; decide)
    by_cases q2 : t_at R 44 (nI j) b = 0
    · rw [if_pos q2] at N
      refine fin ob N ((un ob).mp q2) (fun _ _ _ _ => trivial) ?_
      intro D hD
      rw [e hD.2.2.2.2.1, lkN (nb0 ob).2]
      refine sqc fun t => ?_
      obtain ⟨k1, u1, l1⟩ := aft hD ob t
      rw [e (hD.2.2.2.2.1.tr k1.1), lkA (Or.inr l1), sq_t]
    · rw [if_neg q2] at N
      exact doC (Or.inr fun z => q2 ((un ob).mpr z)) N
  rw [if_neg z15, if_neg z16] at N
  obtain ⟨oa, ob⟩ := hnd.2.2.2.2.2.2.2.2 z0 z1 z13 z14 z15 z16
  have e : ∀ {C1 : mm_M}, KP C C1 → s_lookK (s_look L j) C1 j n = s_seq (s_look L j C1 a) (fun M1 => s_seq (s_look L j M1 b) fun M2 => s_seq (s_fits M2 j n a b) fun M3 => s_lpC M3 j n k a b) := fun {C1} k1 => by
    obtain ⟨g1, g2, g3, g4, g5, g6⟩ := pg k1
    unfold s_lookK s_lookPair
    rw [g1, g2, g3, if_neg z0, if_neg z1, if_neg z13, if_neg z14, if_neg z15, if_neg z16]
  unfold t_nd at N
  by_cases q4 : t_at R 44 (nI j) a = 0
  · rw [if_pos q4] at N
    refine fin oa N ((un oa).mp q4) (fun _ _ _ _ => trivial) ?_
    intro D hD
    rw [e hD.2.2.2.2.1]
    refine sqc fun t => ?_
    obtain ⟨k1, u1, l1⟩ := aft hD oa t
    rw [e (hD.2.2.2.2.1.tr k1.1), lk_was l1, sq_t]
  · rw [if_neg q4] at N
    have q5 : t_at R 44 (nI j) b = 0 := Classical.byContradiction fun q5 => by
      rw [if_neg q5] at N
      rw [N] at hm
      exact m1_n hm
    rw [if_pos q5] at N
    have la : ¬ C.1 17 j a.toNatClampNeg = 400 := fun z => q4 ((un oa).mpr z)
    refine fin ob N ((un ob).mp q5) (fun _ _ _ _ => trivial) ?_
    intro D hD
    have aD := (hD.2.2.2.2.2 _ la).1
    rw [e hD.2.2.2.2.1, lk_was (x := a) (by rw [aD]; exact la), sq_t]
    refine sqc fun t => ?_
    obtain ⟨k1, u1, l1⟩ := aft hD ob t
    have a1 := (k1.2.2.1 a.toNatClampNeg (by rw [aD]; exact la)).1
    rw [e (hD.2.2.2.2.1.tr k1.1), lk_was (x := a) (by rw [a1, aD]; exact la), sq_t, lk_was l1, sq_t]
