/-! what a look of the class keeps of its instance -/
def JQ (C : mm_M) (j : Nat) : Prop := IP C ∧ IQ C ∧ nI j < C.1 12 0 2 ∧ j < 20
/-- the rows of instance j stand -/
def KS (j : Nat) (C C' : mm_M) : Prop := KP C C' ∧ (JQ C j → JQ C' j) ∧ C'.1 17 j = C.1 17 j ∧ C'.1 18 j = C.1 18 j ∧ C'.2.1 19 j = C.2.1 19 j ∧ C'.1 20 j = C.1 20 j
theorem KS.rf {j : Nat} {C : mm_M} : KS j C C := ⟨KP.rf, id, rfl, rfl, rfl, rfl⟩
theorem KS.fail {j : Nat} {C : mm_M} {f p e : Int32} : KS j C (s_fail C f p e) := by
  have k3 : K3 C (s_fail C f p e) := K3.rf.fail
  have row : ∀ g, g ≠ 12 → (s_fail C f p e).1 g = C.1 g := fun g hg => by
    show mm_u (mm_u C.1 12 0 3 e) 12 0 4 (64 * f + p) g = _
    rw [mm_u_row' hg, mm_u_row' hg]
  refine ⟨k3.1, fun q => ⟨q.1.kp k3.1, k3.iq q.2.1, by rw [k3.2.1]; exact q.2.2.1, q.2.2.2⟩, ?_, ?_, rfl, ?_⟩
  · rw [row 17 (by decide)]
  · rw [row 18 (by decide)]
  · rw [row 20 (by decide)]
theorem KS.passes {j i : Nat} {C : mm_M} {p n t : Int32} : KS j C (s_passes C i p n t).2 := by
  unfold s_passes
  repeat' split
  all_goals first | exact KS.rf | exact KS.fail
theorem KS.fits {j i : Nat} {C : mm_M} {n a b : Int32} : KS j C (s_fits C i n a b).2 := by
  unfold s_fits
  split <;> exact KS.passes
theorem KS.passArg {j i : Nat} {C : mm_M} {n a t : Int32} : KS j C (s_passArg C i n a t).2 := by
  unfold s_passArg
  repeat' split
  all_goals first | exact KS.rf | exact KS.passes
theorem KS.tr {j : Nat} {C C' C'' : mm_M} (h : KS j C C') (h' : KS j C' C'') : KS j C C'' := ⟨h.1.tr h'.1, fun q => h'.2.1 (h.2.1 q), h'.2.2.1.trans h.2.2.1, h'.2.2.2.1.trans h.2.2.2.1, h'.2.2.2.2.1.trans h.2.2.2.2.1, h'.2.2.2.2.2.trans h.2.2.2.2.2⟩
theorem begM_row {C : mm_M} {c : Nat} {f : Int32} {v w : Int64} : (∀ g a, a ≠ c → (s_begM C c f v w).1 g a = C.1 g a ∧ (s_begM C c f v w).2.1 g a = C.2.1 g a) ∧ ∀ g, g < 14 → (s_begM C c f v w).1 g = C.1 g := by
  obtain ⟨d1, d2, d3, d4⟩ := s_clr_at (i := c) 60 (s_beg0 C c f v w) (Nat.le_refl _)
  have eB : s_begM C c f v w = s_beg4 (s_beg3 (s_beg2 (s_beg1 (s_clr c 60 (s_beg0 C c f v w)) c f) c) c) c f := by
    unfold s_begM
    rfl
  have X0 : ∀ g, (s_beg0 C c f v w).1 g = mm_u C.1 14 c 0 f g := fun g => rfl
  have L0 : (s_beg0 C c f v w).2.1 = mm_u (mm_u C.2.1 16 c 0 v) 16 c 1 w := rfl
  have eL : ∀ X : mm_M, (s_beg4 (s_beg3 (s_beg2 (s_beg1 X c f) c) c) c f).2.1 = X.2.1 := fun X => rfl
  generalize s_clr c 60 (s_beg0 C c f v w) = X at *
  refine ⟨fun g a ha => ⟨?_, ?_⟩, fun g hg => ?_⟩
  · rw [eB, beg4_k.2.1 g a ha, beg3_k.2 g a ha, beg2_k.2 g a ha, beg1_k.2 g a ha]
    by_cases q7 : g = 17
    · subst q7
      funext b
      rw [d1, if_neg (fun z => ha z.1), X0, mm_u_row' (by decide)]
    · by_cases q8 : g = 18
      · subst q8
        funext b
        rw [d2, if_neg (fun z => ha z.1), X0, mm_u_row' (by decide)]
      · rw [d3 g q7 q8, X0, mm_u_row (fun q => ha q.2)]
  · rw [eB, eL, d4, L0, mm_u_row (fun q => ha q.2), mm_u_row (fun q => ha q.2)]
  · rw [eB, beg4_k.1 g (by omega), beg3_k.1 g (by omega), beg2_k.1 g (by omega), beg1_k.1 g (by omega), d3 g (by omega) (by omega), X0, mm_u_row' (by omega)]
theorem KS.want {j : Nat} {C : mm_M} {f : Int32} {v w : Int64} (hq : JQ C j) (hf : s_hasFun C f = true) : KS j C (s_wantR C f v w (C.1 12 0 2).toNatClampNeg (C.1 12 0 2).toNatClampNeg).2 := by
  have k2 := K2.wantR (M := C) (f := f) (v := v) (w := w) (c := (C.1 12 0 2).toNatClampNeg) (k := (C.1 12 0 2).toNatClampNeg) hf IQ.cl
  obtain ⟨c, hc, ec, -⟩ := hq.2.1
  have ecc : (C.1 12 0 2).toNatClampNeg = c := by rw [ec, nI_clamp (by omega)]
  rw [ecc] at k2 ⊢
  have hj20 := hq.2.2.2
  have jc : j < c := Nat.not_le.mp fun z => absurd (ec ▸ hq.2.2.1) (nI_nlt z (by omega))
  have done : ∀ C' : mm_M, KP C C' → (IQ C → IQ C') → nI j < C'.1 12 0 2 → (∀ g, g ≠ 12 → C'.1 g j = C.1 g j) → C'.2.1 19 j = C.2.1 19 j → KS j C C' := fun C' a1 a2 a3 a4 a5 => ⟨a1, fun q => ⟨q.1.kp a1, a2 q.2.1, a3, q.2.2.2⟩, a4 17 (by decide), a4 18 (by decide), a5, a4 20 (by decide)⟩
  have row := begM_row (C := C) (c := c) (f := f) (v := v) (w := w)
  unfold s_wantR at k2 ⊢
  cases hL : s_wantL C f v w c c with
  | some m => exact KS.rf
  | none =>
    rw [hL] at k2
    have k2 : K2 C (s_wantN C f v w c).2 := k2
    show KS j C (s_wantN C f v w c).2
    unfold s_wantN at k2 ⊢
    by_cases hlt : c < 20
    · rw [if_pos hlt] at k2 ⊢
      by_cases q : s_beg C c f v w = true
      · rw [if_pos q] at k2 ⊢
        have r1 := sI_rows (M := s_begM C c f v w) (x := (s_begM C c f v w).1 12 0 2 + 1)
        refine done _ k2.1 k2.2 ?_ (fun g hg => ?_) ?_
        · show nI j < (mm_sI (s_begM C c f v w) 12 0 2 ((s_begM C c f v w).1 12 0 2 + 1)).1 12 0 2
          rw [r1.2.1, if_pos rfl, row.2 12 (by decide), ec, nI_1]
          exact nI_lt (by omega) (by omega)
        · show (mm_sI (s_begM C c f v w) 12 0 2 ((s_begM C c f v w).1 12 0 2 + 1)).1 g j = _
          rw [r1.1 g hg, (row.1 g j (by omega)).1]
        · show (mm_sI (s_begM C c f v w) 12 0 2 ((s_begM C c f v w).1 12 0 2 + 1)).2.1 19 j = _
          rw [r1.2.2, (row.1 19 j (by omega)).2]
      · rw [if_neg q] at k2 ⊢
        refine done _ k2.1 k2.2 ?_ (fun g hg => (row.1 g j (by omega)).1) (row.1 19 j (by omega)).2
        show nI j < (s_begM C c f v w).1 12 0 2
        rw [row.2 12 (by decide)]
        exact hq.2.2.1
    · rw [if_neg hlt] at k2 ⊢
      exact KS.rf
/-- what a look at node n keeps -/
def KN (n : Int32) (j : Nat) (C C' : mm_M) : Prop := KP C C' ∧ (JQ C j → JQ C' j) ∧ (∀ k, ¬ C.1 17 j k = 400 → C'.1 17 j k = C.1 17 j k ∧ C'.1 18 j k = C.1 18 j k ∧ C'.2.1 19 j k = C.2.1 19 j k ∧ C'.1 20 j k = C.1 20 j k) ∧ ∀ m, s_hasNode C m = true → lv C n ≤ lv C m → ¬ m = n → C'.1 17 j m.toNatClampNeg = C.1 17 j m.toNatClampNeg
theorem KS.kn {n : Int32} {j : Nat} {C C' : mm_M} (h : KS j C C') : KN n j C C' := ⟨h.1, h.2.1, fun k _ => ⟨by rw [h.2.2.1], by rw [h.2.2.2.1], by rw [h.2.2.2.2.1], by rw [h.2.2.2.2.2]⟩, fun m _ _ _ => by rw [h.2.2.1]⟩
theorem KN.tr {n : Int32} {j : Nat} {C C' C'' : mm_M} (h : KN n j C C') (h' : KN n j C' C'') : KN n j C C'' := by
  refine ⟨h.1.tr h'.1, fun q => h'.2.1 (h.2.1 q), fun k hk => ?_, fun m h1 h2 h3 => ?_⟩
  · obtain ⟨a1, a2, a3, a4⟩ := h.2.2.1 k hk
    obtain ⟨b1, b2, b3, b4⟩ := h'.2.2.1 k (by rw [a1]; exact hk)
    exact ⟨b1.trans a1, b2.trans a2, b3.trans a3, b4.trans a4⟩
  · refine (h'.2.2.2 m ((kp_hasNode h.1 m).trans h1) ?_ h3).trans (h.2.2.2 m h1 h2 h3)
    rw [kp_lv h.1, kp_lv h.1]
    exact h2
theorem KN.op {n a : Int32} {j : Nat} {C C' : mm_M} (h : KN a j C C') (o : lv C a < lv C n) : KN n j C C' := ⟨h.1, h.2.1, h.2.2.1, fun m h1 h2 _ => h.2.2.2 m h1 (by omega) (fun z => by rw [z] at h2; omega)⟩
theorem KN.un {n a : Int32} {j : Nat} {C C' : mm_M} (h : KN a j C C') (o : lv C a < lv C n) (hn : s_hasNode C n = true) : C'.1 17 j n.toNatClampNeg = C.1 17 j n.toNatClampNeg := h.2.2.2 n hn (by omega) (fun z => by rw [z] at o; omega)
/-- the node itself is written -/
theorem KN.wr {n : Int32} {j : Nat} {C C' : mm_M} (hn : s_hasNode C n = true) (hp : IP C) (hu : C.1 17 j n.toNatClampNeg = 400) (k3 : K3 C C') (row : ∀ g k, ¬ k = n.toNatClampNeg → C'.1 g j k = C.1 g j k) (rowl : ∀ k, ¬ k = n.toNatClampNeg → C'.2.1 19 j k = C.2.1 19 j k) : KN n j C C' := by
  refine ⟨k3.1, fun q => ⟨q.1.kp k3.1, k3.iq q.2.1, by rw [k3.2.1]; exact q.2.2.1, q.2.2.2⟩, fun k hk => ?_, fun m hm _ hne => ?_⟩
  · have nk : ¬ k = n.toNatClampNeg := fun z => hk (by rw [z]; exact hu)
    exact ⟨row 17 k nk, row 18 k nk, rowl k nk, row 20 k nk⟩
  · refine row 17 _ fun z => hne ?_
    have h1 := clamp_i (hp.in60 hn)
    have h2 := clamp_i (hp.in60 hm)
    apply Int32.toInt_inj.mp
    omega
theorem KN.find {n t : Int32} {j : Nat} {C : mm_M} (hn : s_hasNode C n = true) (hp : IP C) (hu : C.1 17 j n.toNatClampNeg = 400) : KN n j C (s_find C j n t) := by
  refine KN.wr hn hp hu K3.rf.find (fun g k nk => ?_) (fun k nk => rfl)
  show mm_u C.1 17 j n.toNatClampNeg t g j k = _
  rw [u3, if_neg (fun z => nk z.2.2)]
theorem KN.findK {n t : Int32} {x : Int64} {j : Nat} {C : mm_M} (hn : s_hasNode C n = true) (hp : IP C) (hu : C.1 17 j n.toNatClampNeg = 400) : KN n j C (s_findK C j n t x) := by
  refine KN.wr hn hp hu K3.rf.findK (fun g k nk => ?_) (fun k nk => ?_)
  · show mm_u (mm_u C.1 17 j n.toNatClampNeg t) 18 j n.toNatClampNeg 1 g j k = _
    rw [u3, if_neg (fun z => nk z.2.2), u3, if_neg (fun z => nk z.2.2)]
  · show mm_u C.2.1 19 j n.toNatClampNeg x 19 j k = _
    rw [u3, if_neg (fun z => nk z.2.2)]
theorem KN.findS {n o : Int32} {j : Nat} {C : mm_M} (hn : s_hasNode C n = true) (hp : IP C) (hu : C.1 17 j n.toNatClampNeg = 400) : KN n j C (s_findS C j n o) := by
  refine KN.wr hn hp hu K3.rf.findS (fun g k nk => ?_) (fun k nk => ?_)
  · show mm_u (mm_u C.1 17 j n.toNatClampNeg (C.1 17 j o.toNatClampNeg)) 18 j n.toNatClampNeg (C.1 18 j o.toNatClampNeg &&& 1) g j k = _
    rw [u3, if_neg (fun z => nk z.2.2), u3, if_neg (fun z => nk z.2.2)]
  · show mm_u C.2.1 19 j n.toNatClampNeg (C.2.1 19 j o.toNatClampNeg) 19 j k = _
    rw [u3, if_neg (fun z => nk z.2.2)]
theorem KN.seq {n : Int32} {j : Nat} {C : mm_M} {r : Bool × mm_M} {k : mm_M → Bool × mm_M} (h : KN n j C r.2) (hk : r.1 = true → KN n j r.2 (k r.2).2) : KN n j C (s_seq r k).2 := by
  unfold s_seq
  split
  · rename_i q
    exact h.tr (hk q)
  · exact h
/-- the last steps of each kind -/
theorem KN.lpC {n k a b : Int32} {j : Nat} {C : mm_M} (hn : s_hasNode C n = true) (hp : IP C) (hu : C.1 17 j n.toNatClampNeg = 400) : KN n j C (s_lpC C j n k a b).2 := by
  unfold s_lpC s_lpE
  repeat' split
  all_goals first | exact KS.fail.kn | exact KN.find hn hp hu | exact KN.findK hn hp hu
theorem KN.pair {n k a b : Int32} {j : Nat} {C : mm_M} (hn : s_hasNode C n = true) (hp : IP C) (hu : C.1 17 j n.toNatClampNeg = 400) : KN n j C (s_seq (s_fits C j n a b) fun M3 => s_lpC M3 j n k a b).2 := by
  have kf : KS j C (s_fits C j n a b).2 := KS.fits
  exact KN.seq kf.kn fun _ => KN.lpC ((kp_hasNode kf.1 n).trans hn) (hp.kp kf.1) (by rw [kf.2.2.1]; exact hu)
theorem KN.fi {n b c : Int32} {j : Nat} {C : mm_M} (hn : s_hasNode C n = true) (hp : IP C) (hu : C.1 17 j n.toNatClampNeg = 400) : KN n j C (s_seq (s_fits C j n b c) fun M3 => s_liC M3 j n b c).2 := by
  have kf : KS j C (s_fits C j n b c).2 := KS.fits
  refine KN.seq kf.kn fun _ => ?_
  unfold s_liC
  split
  · exact KS.fail.kn
  · exact KN.find ((kp_hasNode kf.1 n).trans hn) (hp.kp kf.1) (by rw [kf.2.2.1]; exact hu)
theorem KN.ltB {n a : Int32} {j : Nat} {C : mm_M} (hn : s_hasNode C n = true) (hp : IP C) (hu : C.1 17 j n.toNatClampNeg = 400) : KN n j C (s_ltB C j n a).2 := by
  unfold s_ltB s_ltC
  repeat' split
  all_goals first | exact KS.fail.kn | exact KN.find hn hp hu | exact KN.findK hn hp hu
theorem KN.lwB {n a : Int32} {j : Nat} {C : mm_M} (hn : s_hasNode C n = true) (hp : IP C) (hu : C.1 17 j n.toNatClampNeg = 400) : KN n j C (s_lwB C j n a).2 := by
  unfold s_lwB
  split
  · exact KN.findK hn hp hu
  · exact KS.fail.kn
theorem KN.lookPar {n : Int32} {j : Nat} {C : mm_M} (hn : s_hasNode C n = true) (hp : IP C) (hu : C.1 17 j n.toNatClampNeg = 400) : KN n j C (s_lookPar C j n).2 := by
  unfold s_lookPar
  repeat' split
  all_goals first | exact KS.fail.kn | exact KN.find hn hp hu | exact KN.findK hn hp hu
theorem KN.lc2 {n f b c : Int32} {j : Nat} {C : mm_M} (hq : JQ C j) (hn : s_hasNode C n = true) (hf : s_hasFun C f = true) (hu : C.1 17 j n.toNatClampNeg = 400) : KN n j C (s_lc2 C j n f b c).2 := by
  have hp := hq.1
  unfold s_lc2
  split
  · exact KS.fail.kn
  · split
    · exact KS.fail.kn
    · have kw := KS.want (v := s_valArg C j b) (w := s_valArg C j c) hq hf
      generalize s_wantR C f (s_valArg C j b) (s_valArg C j c) (C.1 12 0 2).toNatClampNeg (C.1 12 0 2).toNatClampNeg = P at *
      unfold s_lcW
      split
      · refine kw.kn.tr ?_
        unfold s_lc3
        have ka : KS j P.2 (s_passArg P.2 j n b (P.2.1 15 P.1.toNatClampNeg 0)).2 := KS.passArg
        refine KN.seq ka.kn fun _ => ?_
        generalize (s_passArg P.2 j n b (P.2.1 15 P.1.toNatClampNeg 0)).2 = Q at *
        have kb : KS j Q (s_passArg Q j n c (Q.1 15 P.1.toNatClampNeg 1)).2 := KS.passArg
        refine KN.seq kb.kn fun _ => ?_
        generalize (s_passArg Q j n c (Q.1 15 P.1.toNatClampNeg 1)).2 = S at *
        have kall := (kw.tr ka).tr kb
        have hu' : S.1 17 j n.toNatClampNeg = 400 := by rw [kall.2.2.1]; exact hu
        show KN n j S (s_lcE S j n P.1 P.1.toNatClampNeg)
        refine KN.wr ((kp_hasNode kall.1 n).trans hn) (hp.kp kall.1) hu' ((K3.rf.sI (by decide) (fun q => by omega)).sI (by decide) (fun q => by omega)) (fun g k nk => ?_) (fun k nk => rfl)
        show mm_u (mm_u S.1 20 j n.toNatClampNeg P.1) 17 j n.toNatClampNeg (S.1 14 P.1.toNatClampNeg 1) g j k = _
        rw [u3, if_neg (fun z => nk z.2.2), u3, if_neg (fun z => nk z.2.2)]
      · exact kw.kn.tr KS.fail.kn
