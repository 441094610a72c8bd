/-! calls on both sides -/
theorem SC.i20 {C R : mm_M} {a b : Nat} {x : Int32} (h : SC C R) : SC (mm_sI C 20 a b x) R := by
  have e : ∀ g, g ≠ 20 → (mm_sI C 20 a b x).1 g = C.1 g := fun g hg => by
    show mm_u C.1 20 a b x g = _
    rw [mm_u_row' hg]
  have l : (mm_sI C 20 a b x).2 = C.2 := rfl
  generalize mm_sI C 20 a b x = C' at *
  obtain ⟨h1, h2, h3, h4, h5⟩ := h
  refine ⟨fun f hf => by rw [e f (by omega)]; exact h1 f hf, by rw [e 12 (by decide)]; exact h2, by rw [e 12 (by decide)]; exact h3, by rw [e 12 (by decide)]; exact h4, fun j hj hc => ?_⟩
  rw [e 12 (by decide)] at hc
  obtain ⟨g1, g2⟩ := h5 j hj hc
  refine ⟨sf_keep g1 (e 7 (by decide)) (e 8 (by decide)) (e 9 (by decide)) (e 10 (by decide)) (e 14 (by decide)) (e 15 (by decide)) (by rw [l]) rfl rfl rfl rfl rfl, fun k hk => ?_⟩
  unfold SN WN
  rw [e 17 (by decide), e 18 (by decide), l]
  exact g2 k hk
theorem SC.i47 {C R : mm_M} {a b : Nat} {x : Int32} (h : SC C R) : SC C (mm_sI R 47 a b x) := by
  have e : ∀ g, g ≠ 47 → (mm_sI R 47 a b x).1 g = R.1 g := fun g hg => by
    show mm_u R.1 47 a b x g = _
    rw [mm_u_row' hg]
  have l : (mm_sI R 47 a b x).2 = R.2 := rfl
  generalize mm_sI R 47 a b x = R' at *
  obtain ⟨h1, h2, h3, h4, h5⟩ := h
  refine ⟨fun f hf => by rw [e f (by omega)]; exact h1 f hf, by rw [e 30 (by decide)]; exact h2, by rw [e 30 (by decide)]; exact h3, by rw [e 30 (by decide)]; exact h4, fun j hj hc => ?_⟩
  obtain ⟨g1, g2⟩ := h5 j hj hc
  refine ⟨sf_keep g1 rfl rfl rfl rfl rfl rfl rfl (e 41 (by decide)) (e 42 (by decide)) (e 43 (by decide)) (by rw [l]) (by rw [l]), fun k hk => ?_⟩
  unfold SN
  rw [e 44 (by decide), e 45 (by decide), e 46 (by decide), l]
  exact g2 k hk
theorem call_sim {C R : mm_M} {j cnt : Nat} {n f b c : Int32} (h : ST C R j n) (hp : IP C) (ec : C.1 12 0 2 = nI cnt) (hcnt : cnt ≤ 20) (hf : s_hasFun C f = true) (gb : b = -1 ↔ C.1 8 0 f.toNatClampNeg = 400) (gc : c = -1 ↔ C.1 9 0 f.toNatClampNeg = 400) (hb : b = -1 ∨ (vp_in b 60 ∧ ¬ C.1 17 j b.toNatClampNeg = 400)) (hc : c = -1 ∨ (vp_in c 60 ∧ ¬ C.1 17 j c.toNatClampNeg = 400)) : RS j n (s_lc2 C j n f b c) (t_lookCall R (nI j) n f b c) := by
  obtain ⟨hS, hj, hjc, hn, hE, hu⟩ := h
  have e8 := hS.1 8 (by decide)
  have e9 := hS.1 9 (by decide)
  have jc : j < cnt := Nat.not_le.mp fun z => absurd (ec ▸ hjc) (nI_nlt z (by omega))
  have n400 : ¬ (300 : Int32) = 400 := by decide
  have b3 : C.1 8 0 f.toNatClampNeg = 300 → vp_in b 60 ∧ ¬ C.1 17 j b.toNatClampNeg = 400 := fun z => hb.resolve_left fun q => n400 (z.symm.trans (gb.mp q))
  have c3 : C.1 9 0 f.toNatClampNeg = 300 → vp_in c 60 ∧ ¬ C.1 17 j c.toNatClampNeg = 400 := fun z => hc.resolve_left fun q => n400 (z.symm.trans (gc.mp q))
  have due : ∀ {x : Int32} {g : Nat}, (x = -1 ↔ C.1 g 0 f.toNatClampNeg = 400) → (s_cntDue C j x (C.1 g 0 f.toNatClampNeg) = false ↔ C.1 g 0 f.toNatClampNeg = 300 ∧ ¬ C.1 17 j x.toNatClampNeg = 300) := fun {x g} gx => by
    unfold s_cntDue
    simp only [Bool.or_eq_false_iff, Bool.not_eq_false', decide_eq_true_eq, Bool.and_eq_false_iff, decide_eq_false_iff_not]
    constructor
    · rintro ⟨h1, h2 | h2⟩
      · exact absurd (h1.symm.trans (gx.mp h2)) n400
      · exact ⟨h1, h2⟩
    · rintro ⟨h1, h2⟩
      exact ⟨h1, Or.inr h2⟩
  have atb : C.1 8 0 f.toNatClampNeg = 300 → t_at R 46 (nI j) b = C.1 17 j b.toNatClampNeg := fun z => ((hS.rd hj hjc (b3 z).1).2.1 (b3 z).2).1
  have atc : C.1 9 0 f.toNatClampNeg = 300 → t_at R 46 (nI j) c = C.1 17 j c.toNatClampNeg := fun z => ((hS.rd hj hjc (c3 z).1).2.1 (c3 z).2).1
  unfold s_lc2 t_lookCall
  rw [e8, e9]
  by_cases q1 : C.1 8 0 f.toNatClampNeg = 300 ∧ ¬ C.1 17 j b.toNatClampNeg = 300
  · have q1' : C.1 8 0 f.toNatClampNeg = 300 ∧ ¬ t_at R 46 (nI j) b = 300 := ⟨q1.1, by rw [atb q1.1]; exact q1.2⟩
    rw [if_pos ((due gb).mpr q1), if_pos q1']
    exact RS.fail hS hj hjc (by decide)
  have q1' : ¬ (C.1 8 0 f.toNatClampNeg = 300 ∧ ¬ t_at R 46 (nI j) b = 300) := fun z => q1 ⟨z.1, by rw [← atb z.1]; exact z.2⟩
  rw [if_neg (fun z => q1 ((due gb).mp z)), if_neg q1']
  by_cases q2 : C.1 9 0 f.toNatClampNeg = 300 ∧ ¬ C.1 17 j c.toNatClampNeg = 300
  · have q2' : C.1 9 0 f.toNatClampNeg = 300 ∧ ¬ t_at R 46 (nI j) c = 300 := ⟨q2.1, by rw [atc q2.1]; exact q2.2⟩
    rw [if_pos ((due gc).mpr q2), if_pos q2']
    exact RS.fail hS hj hjc (by decide)
  have q2' : ¬ (C.1 9 0 f.toNatClampNeg = 300 ∧ ¬ t_at R 46 (nI j) c = 300) := fun z => q2 ⟨z.1, by rw [← atc z.1]; exact z.2⟩
  rw [if_neg (fun z => q2 ((due gc).mp z)), if_neg q2']
  have tb : C.1 8 0 f.toNatClampNeg = 300 → C.1 17 j b.toNatClampNeg = 300 := fun z => Classical.byContradiction fun y => q1 ⟨z, y⟩
  have tc : C.1 9 0 f.toNatClampNeg = 300 → C.1 17 j c.toNatClampNeg = 300 := fun z => Classical.byContradiction fun y => q2 ⟨z, y⟩
  have val : ∀ {x : Int32} {g : Nat}, R.1 g = C.1 g → C.1 g 0 f.toNatClampNeg = 300 → (vp_in x 60 ∧ ¬ C.1 17 j x.toNatClampNeg = 400) → C.1 17 j x.toNatClampNeg = 300 → t_one R g f (nI j) x = s_valArg C j x ∧ sm (s_valArg C j x) := fun {x g} eg z hx tx => by
    obtain ⟨-, rx, -, -, wx⟩ := hS.rd hj hjc hx.1
    obtain ⟨x1, x2, x3⟩ := rx hx.2
    obtain ⟨x4, x5, x6⟩ := wx hx.2
    have kx := x5 tx
    have nx : ¬ x = -1 := fun q => by
      have := hx.1
      rw [q, vp_in_iff] at this
      exact absurd this.1 (by decide)
    have e : s_valArg C j x = C.2.1 19 j x.toNatClampNeg := by
      unfold s_valArg
      rw [if_neg nx, if_neg (by rw [kx]; decide)]
    rw [e]
    refine ⟨?_, x4.sm (x6 kx)⟩
    unfold t_one
    rw [eg, if_pos z, x3 kx]
  have ecc : (C.1 12 0 2).toNatClampNeg = cnt := by rw [ec, nI_clamp (by omega)]
  rw [ecc]
  have n63 : ¬ n = 63 := fun q => by
    rw [q, vp_in_iff] at hn
    exact absurd hn.2 (by decide)
  rcases want_sim (nI j) n hS hp ec hcnt hf (v := s_valArg C j b) (w := s_valArg C j c) (v' := t_one R 8 f (nI j) b) (w' := t_one R 9 f (nI j) c) (fun z => val e8 z (b3 z) (tb z)) (fun z => val e9 z (c3 z) (tc z)) with ⟨m, hm, r1, r2, r3, r4, r5, r6, r7, r8, r9, r10⟩ | ⟨r1, r2, r3⟩ | ⟨r1, r2, R1, r3, r4, r5, r6⟩
  · generalize s_wantR C f (s_valArg C j b) (s_valArg C j c) cnt cnt = P at *
    generalize t_want R (nI j) n f (t_one R 8 f (nI j) b) (t_one R 9 f (nI j) c) = Q at *
    obtain ⟨p1, C'⟩ := P
    obtain ⟨t1, R'⟩ := Q
    simp only at r1 r2 r3 r4 r5 r6 r7 r8 r9 r10
    subst r1 r2
    have m0 : (0 : Int32) ≤ nI m := Int32.not_lt.mp fun z => by
      rw [Int32.lt_iff_toInt_lt, nI_ti (by omega), Int32.toInt_zero] at z
      omega
    have mm : (nI m).toNatClampNeg = m := nI_clamp (by omega)
    unfold s_lcW t_lc1
    rw [if_pos m0, if_pos m0]
    obtain ⟨f1, f2, f3, f4, f5, f6, f7, f8, f9, f10, -⟩ := (r4.2.2.2.2 m hm r3).1
    rw [r5] at f2 f3 f4 f5 f6 f7
    have ipk : KP C C' ∨ True := Or.inr trivial
    obtain ⟨-, k8, k9, k10⟩ := hp.2.2.2 f hf
    have d8 : C'.1 8 = C.1 8 := r9 8 (by decide)
    have d9 : C'.1 9 = C.1 9 := r9 9 (by decide)
    have d10 : C'.1 10 = C.1 10 := r9 10 (by decide)
    rw [d8] at f3 f6
    rw [d9] at f4 f7
    rw [d10] at f5
    have x8 : R'.1 8 = C.1 8 := (r4.1 8 (by decide)).trans d8
    have x9 : R'.1 9 = C.1 9 := (r4.1 9 (by decide)).trans d9
    have x10 : R'.1 10 = C.1 10 := (r4.1 10 (by decide)).trans d10
    have j17 : C'.1 17 j = C.1 17 j := r7 17 j (by decide) jc
    have hjc' : nI j < C'.1 12 0 2 := r10 j jc
    have st' : ST C' R' j n := ⟨r4, hj, hjc', hn, r6.trans hE, by rw [j17]; exact hu⟩
    unfold s_lc3 t_lc2
    rw [mm]
    obtain ⟨a1, a2⟩ := arg_sim (n := n) (k := nI m) (f := f) (x := b) (t := C'.1 15 m 0) (g := 8) r4 hj hjc' (by rw [j17]; exact hb) (fun z => by rw [x8] at z; exact ⟨f6.mpr z, fun q => n400 (z.symm.trans (gb.mp q)), by rw [j17]; exact tb z⟩) (fun _ => by rw [x8, r4.ty hm r3 (okC_par k8), ← f3])
    unfold s_seq
    by_cases p : (s_passArg C' j n b (C'.1 15 m 0)).1 = true
    · obtain ⟨g1, g2⟩ := a1 p
      rw [if_pos p, g1, g2]
      show RS j n (if (s_passArg C' j n c (C'.1 15 m 1)).1 = true then _ else _) (t_lc3 R' (nI j) n f c (nI m))
      unfold t_lc3
      obtain ⟨a3, a4⟩ := arg_sim (n := n) (k := nI m) (f := f) (x := c) (t := C'.1 15 m 1) (g := 9) r4 hj hjc' (by rw [j17]; exact hc) (fun z => by rw [x9] at z; exact ⟨f7.mpr z, fun q => n400 (z.symm.trans (gc.mp q)), by rw [j17]; exact tc z⟩) (fun _ => by rw [x9, r4.ty hm r3 (okC_par k9), ← f4])
      by_cases p' : (s_passArg C' j n c (C'.1 15 m 1)).1 = true
      · obtain ⟨g3, g4⟩ := a3 p'
        rw [if_pos p', g3, g4]
        show RS j n (true, s_lcE C' j n (nI m) m) (t_lc4 R' (nI j) n f (nI m))
        unfold s_lcE t_lc4
        have et : t_typeIn (mm_sI R' 47 0 (nI j * 60 + n).toNatClampNeg (nI m)) (nI m) (R'.1 10 0 f.toNatClampNeg) = C'.1 14 m 1 := by
          have := (r4.i47 (a := 0) (b := (nI j * 60 + n).toNatClampNeg) (x := nI m)).ty hm r3 (okC_res k10)
          rw [x10, this, ← f5]
        rw [et]
        have vt : VT (C'.1 14 m 1) := by
          rw [f5]
          exact tb_res k10 (by rw [← f5]; exact f10)
        refine find_sim ⟨r4.i20.i47, hj, hjc', hn, r6.trans hE, ?_⟩ (Or.inl vt) (fun z => by rw [z] at vt; exact absurd vt.2 (by decide))
        show mm_u C'.1 20 j n.toNatClampNeg (nI m) 17 j n.toNatClampNeg = 400
        rw [mm_u_row' (by decide), j17]
        exact hu
      · have p'' : (s_passArg C' j n c (C'.1 15 m 1)).1 = false := by simpa using p'
        obtain ⟨g3, g4⟩ := a4 p''
        rw [if_neg p', if_neg (by rw [g4]; decide)]
        exact RS.f g3
    · have p'' : (s_passArg C' j n b (C'.1 15 m 0)).1 = false := by simpa using p
      obtain ⟨g3, g4⟩ := a2 p''
      rw [if_neg p, if_neg (by rw [g4]; decide)]
      exact RS.f g3
  · rw [r3]
    unfold s_lcW t_lc1
    rw [if_neg (by rw [r1]; decide), if_neg (show ¬ (0 : Int32) ≤ -1 by decide), r2, r1]
    exact RS.fail hS hj hjc (by decide)
  · rw [r3]
    unfold s_lcW t_lc1
    rw [if_neg (by rw [r1]; decide), if_neg (show ¬ (0 : Int32) ≤ -1 by decide), r1, if_neg n63, r2 j jc]
    refine RS.f ⟨rfl, ?_, (by decide : ¬ (-4 : Int32) = 0)⟩
    show 64 * R1.1 41 0 (nI j).toNatClampNeg + n = 64 * C.1 14 j 0 + n
    rw [nI_clamp (by omega), r4 j jc, (hS.2.2.2.2 j hj hjc).1.1]
