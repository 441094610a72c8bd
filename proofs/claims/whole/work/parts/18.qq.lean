/-! a call is looked at: what was looked at stays closed -/
theorem passArg_ps {C : mm_M} {j : Nat} {n a t : Int32} (la : a = -1 ∨ LPc C j a) (h : (s_passArg C j n a t).1 = true) : (¬ a = -1 → PS C j a t) ∧ (s_passArg C j n a t).2 = C := by
  unfold s_passArg at h ⊢
  by_cases q : a = -1
  · rw [if_pos q]
    exact ⟨fun z => absurd q z, rfl⟩
  · rw [if_neg q] at h ⊢
    by_cases q2 : (s_passes C j n a t).1 = true
    · rw [if_pos q2] at h ⊢
      obtain ⟨p1, p2⟩ := passes_ps (la.resolve_left q) q2
      exact ⟨fun _ => p1, p2⟩
    · rw [if_neg q2] at h
      exact absurd h (by decide : ¬ (false : Bool) = true)
theorem call_cl {C R : mm_M} {j cnt : Nat} {n f b c : Int32} (h : ST C R j n) (hp : IP C) (hN : s_hasNode C n = true) (hcl : CL C R) (ek : C.1 2 0 n.toNatClampNeg = 15) (ef : C.1 3 0 n.toNatClampNeg = f) (eb : C.1 4 0 n.toNatClampNeg = b) (eC : C.1 5 0 n.toNatClampNeg = c) (ec : C.1 12 0 2 = nI cnt) (hcnt : cnt ≤ 20) (hf : s_hasFun C f = true) (gb : b = -1 ↔ C.1 8 0 f.toNatClampNeg = 400) (gc : c = -1 ↔ C.1 9 0 f.toNatClampNeg = 400) (hb : b = -1 ∨ (vp_in b 60 ∧ ¬ C.1 17 j b.toNatClampNeg = 400)) (hc : c = -1 ∨ (vp_in c 60 ∧ ¬ C.1 17 j c.toNatClampNeg = 400)) (ht : (s_lc2 C j n f b c).1 = true) : CL (s_lc2 C j n f b c).2 (t_lookCall R (nI j) n f b c) ∧ KX C R (s_lc2 C j n f b c).2 (t_lookCall R (nI j) n f b c) := by
  obtain ⟨hS, hj, hjc, hn, hE, hu⟩ := h
  have F : ∀ {q : Prop}, (false : Bool) = true → q := fun z => absurd z (by decide)
  have e8 := hS.1 8 (by decide)
  have e9 := hS.1 9 (by decide)
  have jc : j < cnt := Nat.not_le.mp fun z => absurd (ec ▸ hjc) (nI_nlt z (by omega))
  have n400 : ¬ (300 : Int32) = 400 := by decide
  have b3 : C.1 8 0 f.toNatClampNeg = 300 → vp_in b 60 ∧ ¬ C.1 17 j b.toNatClampNeg = 400 := fun z => hb.resolve_left fun q => n400 (z.symm.trans (gb.mp q))
  have c3 : C.1 9 0 f.toNatClampNeg = 300 → vp_in c 60 ∧ ¬ C.1 17 j c.toNatClampNeg = 400 := fun z => hc.resolve_left fun q => n400 (z.symm.trans (gc.mp q))
  have due : ∀ {x : Int32} {g : Nat}, (x = -1 ↔ C.1 g 0 f.toNatClampNeg = 400) → (s_cntDue C j x (C.1 g 0 f.toNatClampNeg) = false ↔ C.1 g 0 f.toNatClampNeg = 300 ∧ ¬ C.1 17 j x.toNatClampNeg = 300) := fun {x g} gx => by
    unfold s_cntDue
    simp only [Bool.or_eq_false_iff, Bool.not_eq_false', decide_eq_true_eq, Bool.and_eq_false_iff, decide_eq_false_iff_not]
    constructor
    · rintro ⟨h1, h2 | h2⟩
      · exact absurd (h1.symm.trans (gx.mp h2)) n400
      · exact ⟨h1, h2⟩
    · rintro ⟨h1, h2⟩
      exact ⟨h1, Or.inr h2⟩
  have atb : C.1 8 0 f.toNatClampNeg = 300 → t_at R 46 (nI j) b = C.1 17 j b.toNatClampNeg := fun z => ((hS.rd hj hjc (b3 z).1).2.1 (b3 z).2).1
  have atc : C.1 9 0 f.toNatClampNeg = 300 → t_at R 46 (nI j) c = C.1 17 j c.toNatClampNeg := fun z => ((hS.rd hj hjc (c3 z).1).2.1 (c3 z).2).1
  unfold s_lc2 at ht ⊢
  unfold t_lookCall
  rw [e8, e9]
  by_cases q1 : C.1 8 0 f.toNatClampNeg = 300 ∧ ¬ C.1 17 j b.toNatClampNeg = 300
  · rw [if_pos ((due gb).mpr q1)] at ht
    exact F ht
  have q1' : ¬ (C.1 8 0 f.toNatClampNeg = 300 ∧ ¬ t_at R 46 (nI j) b = 300) := fun z => q1 ⟨z.1, by rw [← atb z.1]; exact z.2⟩
  rw [if_neg (fun z => q1 ((due gb).mp z))] at ht ⊢
  rw [if_neg q1']
  by_cases q2 : C.1 9 0 f.toNatClampNeg = 300 ∧ ¬ C.1 17 j c.toNatClampNeg = 300
  · rw [if_pos ((due gc).mpr q2)] at ht
    exact F ht
  have q2' : ¬ (C.1 9 0 f.toNatClampNeg = 300 ∧ ¬ t_at R 46 (nI j) c = 300) := fun z => q2 ⟨z.1, by rw [← atc z.1]; exact z.2⟩
  rw [if_neg (fun z => q2 ((due gc).mp z))] at ht ⊢
  rw [if_neg q2']
  have tb : C.1 8 0 f.toNatClampNeg = 300 → C.1 17 j b.toNatClampNeg = 300 := fun z => Classical.byContradiction fun y => q1 ⟨z, y⟩
  have tc : C.1 9 0 f.toNatClampNeg = 300 → C.1 17 j c.toNatClampNeg = 300 := fun z => Classical.byContradiction fun y => q2 ⟨z, y⟩
  have val : ∀ {x : Int32} {g : Nat}, R.1 g = C.1 g → C.1 g 0 f.toNatClampNeg = 300 → (vp_in x 60 ∧ ¬ C.1 17 j x.toNatClampNeg = 400) → C.1 17 j x.toNatClampNeg = 300 → t_one R g f (nI j) x = s_valArg C j x ∧ sm (s_valArg C j x) := fun {x g} eg z hx tx => by
    obtain ⟨-, rx, -, -, wx⟩ := hS.rd hj hjc hx.1
    obtain ⟨x1, x2, x3⟩ := rx hx.2
    obtain ⟨x4, x5, x6⟩ := wx hx.2
    have kx := x5 tx
    have nx : ¬ x = -1 := fun q => by
      have := hx.1
      rw [q, vp_in_iff] at this
      exact absurd this.1 (by decide)
    have e : s_valArg C j x = C.2.1 19 j x.toNatClampNeg := by
      unfold s_valArg
      rw [if_neg nx, if_neg (by rw [kx]; decide)]
    rw [e]
    refine ⟨?_, x4.sm (x6 kx)⟩
    unfold t_one
    rw [eg, if_pos z, x3 kx]
  have ecc : (C.1 12 0 2).toNatClampNeg = cnt := by rw [ec, nI_clamp (by omega)]
  rw [ecc] at ht ⊢
  have n63 : ¬ n = 63 := fun q => by
    rw [q, vp_in_iff] at hn
    exact absurd hn.2 (by decide)
  have w47 : K7 R (t_want R (nI j) n f (t_one R 8 f (nI j) b) (t_one R 9 f (nI j) c)).2 := K7.want
  have kw := (K2.wantR (M := C) (f := f) (v := s_valArg C j b) (w := s_valArg C j c) (c := cnt) (k := cnt) hf (fun _ => ec)).1
  have wun : ∀ i k, i < 20 → k < 60 → nI i < (s_wantR C f (s_valArg C j b) (s_valArg C j c) cnt cnt).2.1 12 0 2 → ¬ (s_wantR C f (s_valArg C j b) (s_valArg C j c) cnt cnt).2.1 17 i k = 400 → i < cnt := fun i k a1 a2 a3 a4 => want_un ec hcnt a1 a2 a3 a4
  rcases want_sim (nI j) n hS hp ec hcnt hf (v := s_valArg C j b) (w := s_valArg C j c) (v' := t_one R 8 f (nI j) b) (w' := t_one R 9 f (nI j) c) (fun z => val e8 z (b3 z) (tb z)) (fun z => val e9 z (c3 z) (tc z)) with ⟨m, hm, r1, r2, r3, r4, r5, r6, r7, r8, r9, r10⟩ | ⟨r1, r2, r3⟩ | ⟨r1, r2, R1, r3, r4, r5, r6⟩
  · generalize s_wantR C f (s_valArg C j b) (s_valArg C j c) cnt cnt = P at *
    generalize t_want R (nI j) n f (t_one R 8 f (nI j) b) (t_one R 9 f (nI j) c) = Q at *
    obtain ⟨p1, C'⟩ := P
    obtain ⟨t1, R'⟩ := Q
    simp only at r1 r2 r3 r4 r5 r6 r7 r8 r9 r10 w47 kw wun
    subst r1 r2
    -- want alone
    have kx1 : KX C R C' R' := ⟨kw, fun i hi hic => by
      have ilt : i < cnt := Nat.not_le.mp fun z => absurd (ec ▸ hic) (nI_nlt z (by omega))
      exact ⟨r10 i ilt, r7 14 i (by decide) ilt, r7 15 i (by decide) ilt, fun k _ => ⟨by rw [r7 17 i (by decide) ilt], by rw [r7 18 i (by decide) ilt], by rw [r8 19 i ilt], by rw [r7 20 i (by decide) ilt], fun _ => by rw [show R'.1 47 = R.1 47 from w47]⟩⟩⟩
    have cl1 : CL C' R' := fun i hi hic k hk hl => by
      have ilt := wun i k hi hk hic hl
      have hic0 : nI i < C.1 12 0 2 := by
        rw [ec]
        exact nI_lt ilt (by omega)
      rw [r7 17 i (by decide) ilt] at hl
      rw [r7 18 i (by decide) ilt, kp_hasNode kw]
      obtain ⟨h1, h2⟩ := hcl i hi hic0 k hk hl
      exact ⟨h1, fun z => (h2 z).kx kx1 hi hic0 hk hl⟩
    have m0 : (0 : Int32) ≤ nI m := Int32.not_lt.mp fun z => by
      rw [Int32.lt_iff_toInt_lt, nI_ti (by omega), Int32.toInt_zero] at z
      omega
    have mm : (nI m).toNatClampNeg = m := nI_clamp (by omega)
    unfold s_lcW at ht ⊢
    unfold t_lc1
    rw [if_pos m0] at ht ⊢
    rw [if_pos m0]
    obtain ⟨f1, f2, f3, f4, f5, f6, f7, f8, f9, f10, -⟩ := (r4.2.2.2.2 m hm r3).1
    rw [r5] at f2 f3 f4 f5 f6 f7
    obtain ⟨-, k8, k9, k10⟩ := hp.2.2.2 f hf
    have d8 : C'.1 8 = C.1 8 := r9 8 (by decide)
    have d9 : C'.1 9 = C.1 9 := r9 9 (by decide)
    rw [d8] at f3 f6
    rw [d9] at f4 f7
    have x8 : R'.1 8 = C.1 8 := (r4.1 8 (by decide)).trans d8
    have x9 : R'.1 9 = C.1 9 := (r4.1 9 (by decide)).trans d9
    have j17 : C'.1 17 j = C.1 17 j := r7 17 j (by decide) jc
    have hjc' : nI j < C'.1 12 0 2 := r10 j jc
    unfold s_lc3 at ht ⊢
    unfold t_lc2
    rw [mm] at ht ⊢
    obtain ⟨a1, a2⟩ := arg_sim (n := n) (k := nI m) (f := f) (x := b) (t := C'.1 15 m 0) (g := 8) r4 hj hjc' (by rw [j17]; exact hb) (fun z => by rw [x8] at z; exact ⟨f6.mpr z, fun q => n400 (z.symm.trans (gb.mp q)), by rw [j17]; exact tb z⟩) (fun _ => by rw [x8, r4.ty hm r3 (okC_par k8), ← f3])
    obtain ⟨t1, t2⟩ := seq_t ht
    rw [t2] at ht ⊢
    obtain ⟨g1, g2⟩ := a1 t1
    obtain ⟨ps1, -⟩ := passArg_ps (hb.imp id fun z => by unfold LPc; rw [j17]; exact z.2) t1
    rw [g1] at ht ⊢
    rw [g2]
    have ht : (s_seq (s_passArg C' j n c (C'.1 15 m 1)) fun M2 => (true, s_lcE M2 j n (nI m) m)).1 = true := ht
    show CL (s_seq (s_passArg C' j n c (C'.1 15 m 1)) fun M2 => (true, s_lcE M2 j n (nI m) m)).2 (t_lc3 R' (nI j) n f c (nI m)) ∧ KX C R (s_seq (s_passArg C' j n c (C'.1 15 m 1)) fun M2 => (true, s_lcE M2 j n (nI m) m)).2 (t_lc3 R' (nI j) n f c (nI m))
    unfold t_lc3
    obtain ⟨a3, a4⟩ := arg_sim (n := n) (k := nI m) (f := f) (x := c) (t := C'.1 15 m 1) (g := 9) r4 hj hjc' (by rw [j17]; exact hc) (fun z => by rw [x9] at z; exact ⟨f7.mpr z, fun q => n400 (z.symm.trans (gc.mp q)), by rw [j17]; exact tc z⟩) (fun _ => by rw [x9, r4.ty hm r3 (okC_par k9), ← f4])
    obtain ⟨t3, t4⟩ := seq_t ht
    obtain ⟨g3, g4⟩ := a3 t3
    obtain ⟨ps2, -⟩ := passArg_ps (hc.imp id fun z => by unfold LPc; rw [j17]; exact z.2) t3
    rw [t4, g3, g4]
    show CL (s_lcE C' j n (nI m) m) (t_lc4 R' (nI j) n f (nI m)) ∧ KX C R (s_lcE C' j n (nI m) m) (t_lc4 R' (nI j) n f (nI m))
    have hN' : s_hasNode C' n = true := (kp_hasNode kw n).trans hN
    have hu' : C'.1 17 j n.toNatClampNeg = 400 := by rw [j17]; exact hu
    have eE : (s_lcE C' j n (nI m) m).1 = mm_u (mm_u C'.1 20 j n.toNatClampNeg (nI m)) 17 j n.toNatClampNeg (C'.1 14 m 1) := rfl
    have eL : (s_lcE C' j n (nI m) m).2 = C'.2 := rfl
    have e47 : ∀ x, (t_lc4 R' (nI j) n f (nI m)).1 47 0 x = if x = 60 * j + n.toNatClampNeg then nI m else R'.1 47 0 x := fun x => by
      have := (K7.rf (M := mm_sI R' 47 0 (nI j * 60 + n).toNatClampNeg (nI m))).found (i := nI j) (n := n) (t := t_typeIn (mm_sI R' 47 0 (nI j * 60 + n).toNatClampNeg (nI m)) (nI m) (R'.1 10 0 f.toNatClampNeg)) (s := 0) (x := 0)
      unfold t_lc4
      rw [show (t_found (mm_sI R' 47 0 (nI j * 60 + n).toNatClampNeg (nI m)) (nI j) n (t_typeIn (mm_sI R' 47 0 (nI j * 60 + n).toNatClampNeg (nI m)) (nI m) (R'.1 10 0 f.toNatClampNeg)) 0 0).1 47 = (mm_sI R' 47 0 (nI j * 60 + n).toNatClampNeg (nI m)).1 47 from this]
      show mm_u R'.1 47 0 (nI j * 60 + n).toNatClampNeg (nI m) 47 0 x = _
      rw [mm_u_own, ix_eq hj hn]
    generalize s_lcE C' j n (nI m) m = X at *
    generalize t_lc4 R' (nI j) n f (nI m) = Y at *
    have rX : ∀ g, g < 17 → X.1 g = C'.1 g := fun g hg => by rw [eE, mm_u_row' (by omega), mm_u_row' (by omega)]
    have key := cl1.wr (C' := X) (R' := Y) (hp.kp kw) hN' hu' rX (by rw [eL]) (fun g i k _ q => by rw [eE, u3, if_neg (fun z => q z.2), u3, if_neg (fun z => q z.2)]) (fun i k _ => by rw [eL]) (fun i k hk q => by
      rw [e47, if_neg]
      intro z
      have := (clamp_i hn).2
      exact q (by omega)) (fun kx _ => by
      have x17 : X.1 17 j n.toNatClampNeg = C'.1 14 m 1 := by rw [eE, mm_u_own, if_pos rfl]
      have x20 : X.1 20 j n.toNatClampNeg = nI m := by rw [eE, mm_u_row' (by decide), mm_u_own, if_pos rfl]
      have y47 : Y.1 47 0 (60 * j + n.toNatClampNeg) = nI m := by rw [e47, if_pos rfl]
      unfold NC N15
      rw [rX 2 (by decide), rX 3 (by decide), rX 4 (by decide), rX 5 (by decide), rX 8 (by decide), rX 9 (by decide), rX 12 (by decide), rX 14 (by decide), rX 15 (by decide), r9 2 (by decide), r9 3 (by decide), r9 4 (by decide), r9 5 (by decide), d8, d9, x17, x20, y47, ek, ef, eb, eC]
      exact Or.inr (Or.inr (Or.inr (Or.inl ⟨rfl, m, hm, r3, rfl, rfl, r5, gb, gc, fun z => (ps1 z).kx kx hj hjc', fun z => (ps2 z).kx kx hj hjc', rfl⟩))))
    exact ⟨key.1, kx1.tr key.2⟩
  · unfold s_lcW at ht
    rw [if_neg (by rw [r1]; decide)] at ht
    exact F ht
  · unfold s_lcW at ht
    rw [if_neg (by rw [r1]; decide)] at ht
    exact F ht
