/-! compile keeps what stands -/
theorem INV.jj {M : mm_M} (h : INV M) : JJ M := ⟨h.1, h.2.1, h.2.2.1⟩
theorem INV.rm {M : mm_M} (h : INV M) : RM M := h.2.2.2.2.2.1.rm h.2.1 h.2.2.2.2.1
theorem INV.ir {M : mm_M} (h : INV M) : IR M := by
  obtain ⟨c, h1, h2, h3⟩ := h.2.2.1
  have hS := h.2.2.2.2.1
  refine ⟨c, h1, hS.2.1.trans h2, fun j hj => ?_⟩
  have hjc : nI j < M.1 12 0 2 := by
    rw [h2]
    exact nI_lt hj (by omega)
  rw [(hS.2.2.2.2 j (by omega) hjc).1.1]
  exact h3 j hj
theorem SP.kc {M M' : mm_M} (h : SP M) (kc : ∀ f, 22 ≤ f → M'.1 f = M.1 f) (kp : ∀ f, f < 12 → M'.1 f = M.1 f) : SP M' := by
  unfold SP at *
  rw [kc 30 (by decide), kc 31 (by decide), kc 32 (by decide), kc 33 (by decide), kc 34 (by decide), kc 35 (by decide), kc 36 (by decide), kc 37 (by decide), kc 38 (by decide), kc 39 (by decide), kc 40 (by decide), kp 1 (by decide), kp 2 (by decide), kp 3 (by decide), kp 4 (by decide), kp 5 (by decide), kp 6 (by decide), kp 7 (by decide), kp 8 (by decide), kp 9 (by decide), kp 10 (by decide), kp 11 (by decide)]
  exact h
theorem K2.all : ∀ (k : Nat) (b : Bool) (M : mm_M), K2 M (s_all k b M).2
  | 0, _, _ => K2.rf
  | k + 1, b, M => by
    unfold s_all
    split
    · refine K2.tr ?_ (K2.all k _ _)
      unfold s_allB
      exact K2.seq (K2.look 8 _ _ _) fun M1 => K3.passes.k2
    · exact K2.rf
theorem comp_keep {M : mm_M} {f v w : Int32} (hf : s_hasFun M f = true) : KP M (s_comp M f v w).2 ∧ IQ (s_comp M f v w).2 := by
  have k0 : KP M (s_all0 M) := ((KP.rf.sI (by decide)).sI (by decide)).sI (by decide)
  have iq0 : IQ (s_all0 M) := ⟨0, by decide, rfl, fun j hj => absurd hj (Nat.not_lt_zero j)⟩
  have hf0 : s_hasFun (s_all0 M) f = true := (kp_hasFun k0 f).trans hf
  have kw : K2 (s_all0 M) (s_wantR (s_all0 M) f v.toInt64 w.toInt64 0 0).2 := K2.wantR hf0 fun _ => rfl
  have h1 : K2 (s_all0 M) (s_allW M f v.toInt64 w.toInt64).2 := by
    unfold s_allW
    generalize s_wantR (s_all0 M) f v.toInt64 w.toInt64 0 0 = P at *
    split
    · exact kw
    · exact kw.tr K3.rf.fail.k2
  unfold s_comp s_compAll
  rw [if_pos hf]
  generalize s_allW M f v.toInt64 w.toInt64 = P at *
  have h2 := h1.tr (K2.all 20 P.1 P.2)
  generalize s_all 20 P.1 P.2 = Q at *
  unfold s_allE
  split
  · exact ⟨k0.tr h2.1, h2.2 iq0⟩
  · exact ⟨(k0.tr h2.1).sI (by decide), 0, by decide, rfl, fun j hj => absurd hj (Nat.not_lt_zero j)⟩
theorem KR.comp {M : mm_M} {f v w : Int32} : KR M (t_compile M f v w).2 := by
  unfold t_compile
  split
  · exact (((KR.cmp0 (M := M)).tr (KW.want (f := f) (i := 0) (n := 63) (v := v.toInt64) (w := w.toInt64)).1).tr (all_kr 20 _)).tr cmpE_kr
  · exact KR.rf
/-- the calls of the last run stand -/
def K34 (M M' : mm_M) : Prop := M'.1 30 0 4 = M.1 30 0 4
theorem K34.rf {M : mm_M} : K34 M M := rfl
theorem K34.tr {M M' M'' : mm_M} (h : K34 M M') (h' : K34 M' M'') : K34 M M'' := Eq.trans h' h
theorem K34.sI {M M' : mm_M} (h : K34 M M') {f i k : Nat} {x : Int32} (hf : ¬ (30 = f ∧ 0 = i ∧ 4 = k)) : K34 M (mm_sI M' f i k x) := by
  refine Eq.trans ?_ h
  show mm_u M'.1 f i k x 30 0 4 = _
  rw [u3, if_neg hf]
theorem K34.sL {M M' : mm_M} (h : K34 M M') {f i k : Nat} {x : Int64} : K34 M (mm_sL M' f i k x) := h
theorem K34.fail {M M' : mm_M} (h : K34 M M') {e i n : Int32} : K34 M (t_fail M' e i n) := (h.sI (by decide)).sI (by decide)
theorem K34.found {M M' : mm_M} (h : K34 M M') {i n t s : Int32} {x : Int64} : K34 M (t_found M' i n t s x) := (((h.sI (fun z => absurd z.1 (by decide))).sI (fun z => absurd z.1 (by decide))).sI (fun z => absurd z.1 (by decide))).sL
theorem K34.fit {M : mm_M} {i n x y : Int32} : K34 M (t_fit M i n x y).2 := by
  unfold t_fit t_fit2 t_fitE
  repeat' split
  all_goals first | exact K34.rf | exact K34.rf.fail
theorem K34.reck {M : mm_M} {k t : Int32} {x y : Int64} : K34 M (t_reck M k t x y).2 := by
  unfold t_reck t_rk2 t_rk3
  repeat' split
  all_goals first | exact K34.rf | exact K34.rf.sL
theorem K34.lt4 {M M' : mm_M} (h : K34 M M') {i n k t s : Int32} {x : Int64} : K34 M (t_lt4 M' i n k t s x) := by
  unfold t_lt4
  split
  · exact h.found
  · exact h.fail
theorem K34.lookTwo {M : mm_M} {i n k a b : Int32} : K34 M (t_lookTwo M i n k a b) := by
  have hf : K34 M (t_fit M i n a b).2 := K34.fit
  unfold t_lookTwo
  split
  · unfold t_lt2 t_lt3
    repeat' split
    · exact hf.fail
    · exact hf.fail
    · exact hf.sL.lt4
    · exact hf.sL.lt4
    · exact (hf.sL.tr K34.reck).lt4
  · exact hf
theorem K34.lookIf {M : mm_M} {i n a b c : Int32} : K34 M (t_lookIf M i n a b c) := by
  have hf : K34 M (t_fit M i n b c).2 := K34.fit
  unfold t_lookIf
  repeat' split
  all_goals first | exact hf.fail | exact hf.found | exact hf | exact K34.rf.found
theorem K34.lookCast {M : mm_M} {i n a b : Int32} : K34 M (t_lookCast M i n a b) := by
  unfold t_lookCast
  repeat' split
  all_goals first | exact K34.rf.fail | exact K34.rf.found
theorem K34.goes {M : mm_M} {i n a t : Int32} : K34 M (t_goes M i n a t).2 := by
  unfold t_goes
  repeat' split
  all_goals first | exact K34.rf | exact K34.rf.fail
theorem K34.lcA {M : mm_M} {i n k f x : Int32} {g : Nat} : K34 M (t_lcA M i n k g f x).2 := by
  unfold t_lcA
  repeat' split
  · exact K34.rf
  · exact K34.rf
  · exact K34.goes
theorem K34.lc2 {M : mm_M} {i n f x y k : Int32} : K34 M (t_lc2 M i n f x y k) := by
  unfold t_lc2
  split
  · refine (K34.lcA (i := i) (n := n) (k := k) (g := 8) (f := f) (x := x)).tr ?_
    unfold t_lc3
    split
    · refine (K34.lcA (i := i) (n := n) (k := k) (g := 9) (f := f) (x := y)).tr ?_
      unfold t_lc4
      exact (K34.rf.sI (fun z => absurd z.1 (by decide))).found
    · exact K34.lcA
  · exact K34.lcA
theorem K34.needs {M : mm_M} {i n : Int32} : K34 M (t_needs M i n).2 := by
  unfold t_needs t_needs13 t_needs15
  repeat' split
  all_goals first | exact K34.rf | exact K34.rf.fail
theorem K34.want {M : mm_M} {i n f : Int32} {v w : Int64} : K34 M (t_want M i n f v w).2 := by
  have key : ∀ {v0 v1 : Int32} {c : Nat} (r : Nat), K34 M (t_wantL M i n f v w v0 v1 c r).2 := fun {v0 v1 c} r => by
    induction r with
    | zero =>
      have hw : K34 M (t_wantW M f v w v0 v1 c) := (((K34.rf.sI (fun z => absurd z.1 (by decide))).sI (fun z => absurd z.1 (by decide))).sI (fun z => absurd z.1 (by decide))).sL.sL
      generalize hW : t_wantW M f v w v0 v1 c = W at hw
      have e0 : t_wantL M i n f v w v0 v1 c 0 = if c = 20 then (-1, t_fail M (-7) i n) else t_wantB W i n f c := by
        rw [← hW]
        rfl
      rw [e0]
      clear e0 hW
      have last : K34 M (t_wantE c (t_clr c 60 W)) := by
        have e1 := (wE_rows (M := t_clr c 60 W) (c := c)).2.1 4
        rw [if_neg (by decide)] at e1
        have e2 := (clr_keep (c := c) 60 W).2 30 (by decide)
        unfold K34
        rw [e1, e2]
        exact hw
      split
      · with_reducible exact K34.rf.fail
      · unfold t_wantB
        repeat' split
        all_goals first | with_reducible exact hw.fail | with_reducible exact last
    | succ r ih =>
      unfold t_wantL
      split
      · exact K34.rf
      · exact ih
  exact key _
theorem K34.look {M : mm_M} {i n : Int32} : K34 M (t_look M i n) := by
  have hc : ∀ {f x y : Int32}, K34 M (t_lookCall M i n f x y) := fun {f x y} => by
    unfold t_lookCall
    repeat' split
    · exact K34.rf.fail
    · exact K34.rf.fail
    · have hw : K34 M (t_want M i n f (t_one M 8 f i x) (t_one M 9 f i y)).2 := K34.want
      generalize t_want M i n f (t_one M 8 f i x) (t_one M 9 f i y) = P at *
      unfold t_lc1
      split
      · exact hw.tr K34.lc2
      · exact hw
  unfold t_look t_lookK t_lookPar t_lookWidth
  repeat' split
  all_goals first | with_reducible exact K34.rf.fail | with_reducible exact K34.rf.found | with_reducible exact K34.lookIf | with_reducible exact K34.lookCast | with_reducible exact hc | with_reducible exact K34.lookTwo
theorem K34.desc {i : Int32} : ∀ (L : Nat) (M : mm_M) (n : Int32), K34 M (t_desc i L M n).2
  | 0, _, _ => K34.rf
  | L + 1, M, n => by
    show K34 M (t_descR (t_desc i L) n (t_needs M i n)).2
    unfold t_descR
    split
    · exact K34.needs.tr (K34.desc L _ _)
    · exact K34.needs
theorem K34.turns {i root : Int32} : ∀ (k : Nat) (M : mm_M), K34 M (t_turns i root k M)
  | 0, _ => K34.rf
  | k + 1, M => by
    unfold t_turns
    split
    · refine K34.tr ?_ (K34.turns k _)
      unfold t_turnE
      split
      · exact (K34.desc _ M root).tr K34.look
      · exact K34.desc _ M root
    · exact K34.rf
theorem K34.all : ∀ (k : Nat) (M : mm_M), K34 M (t_all k M)
  | 0, _ => K34.rf
  | k + 1, M => by
    unfold t_all
    split
    · refine K34.tr ?_ (K34.all k _)
      unfold t_body
      have ht := K34.turns (i := nI (20 - (k + 1))) (root := M.1 11 0 (M.1 41 0 (nI (20 - (k + 1))).toNatClampNeg).toNatClampNeg) 61 M
      refine ht.tr ?_
      unfold t_bodyE
      split
      · exact K34.goes
      · exact K34.rf
    · exact K34.rf
theorem K34.comp {M : mm_M} {f v w : Int32} : K34 M (t_compile M f v w).2 := by
  unfold t_compile
  split
  · have h0 : K34 M (t_cmp0 M) := ((K34.rf.sI (by decide)).sI (by decide)).sI (by decide)
    have h1 := (h0.tr (K34.want (f := f) (i := 0) (n := 63) (v := v.toInt64) (w := w.toInt64))).tr (K34.all 20 _)
    generalize t_all 20 (t_want (t_cmp0 M) 0 63 f v.toInt64 w.toInt64).2 = Q at *
    unfold t_cmpE
    split
    · exact h1
    · exact h1.sI (by decide)
  · exact K34.rf
theorem comp_inv {M : mm_M} {f v w : Int32} (h : INV M) : (s_comp M f v w).1 = (t_compile (s_comp M f v w).2 f v w).1 ∧ INV (t_compile (s_comp M f v w).2 f v w).2 ∧ (s_comp M f v w).2.2.2 = mm_gd ∧ IP (s_comp M f v w).2 ∧ SP (s_comp M f v w).2 ∧ (s_hasFun (s_comp M f v w).2 f = true → TA 20 (t_want (t_cmp0 (s_comp M f v w).2) 0 63 f v.toInt64 w.toInt64).2) := by
  obtain ⟨hgd, hp, hi, hsp, hS, hB, hc, hf⟩ := h
  have h : INV M := ⟨hgd, hp, hi, hsp, hS, hB, hc, hf⟩
  by_cases q : s_hasFun M f = true
  · obtain ⟨k1, k2⟩ := comp_keep (v := v) (w := w) q
    have kc := KC.comp (M := M) (f := f) (v := v) (w := w)
    obtain ⟨c1, c2, c3⟩ := comp_sim (C := M) (R := (s_comp M f v w).2) (v := v) (w := w) k1.2 hp q
    have c4 := comp_cl (C := M) (R := (s_comp M f v w).2) (v := v) (w := w) k1.2 hp q
    generalize s_comp M f v w = P at *
    obtain ⟨a, M1⟩ := P
    simp only at *
    have kr := KR.comp (M := M1) (f := f) (v := v) (w := w)
    have kd := kr.kd
    have k4 := K34.comp (M := M1) (f := f) (v := v) (w := w)
    generalize t_compile M1 f v w = Q at *
    obtain ⟨b, M2⟩ := Q
    simp only at *
    have p1 : IP M1 := hp.cong k1.2
    have s1 : SP M1 := hsp.kc (fun f hf => (kc.2 f (by omega)).1) k1.2
    have d1 : ∀ f, f < 22 → M2.1 f = M1.1 f := fun f hf => (kd.2 f hf).1
    refine ⟨c1, ⟨?_, ?_, ?_, ?_, ?_, ?_, ?_, ?_⟩, k1.1.trans hgd, p1, s1, fun _ => c3⟩
    · exact kd.1.trans (k1.1.trans hgd)
    · exact p1.cong fun f hf => d1 f (by omega)
    · exact k2.cong (d1 7 (by decide)) (d1 12 (by decide)) (d1 14 (by decide))
    · exact kr.sp s1
    · exact c2.cong (fun f hf => kd.2 f (by omega)) (fun _ _ => ⟨rfl, rfl⟩) (fun _ _ => rfl)
    · exact c4.cong (fun f hf => kd.2 f (by omega)) rfl
    · rw [show M2.1 30 0 4 = M1.1 30 0 4 from k4, (kc.2 30 (by decide)).1, d1 21 (by decide), (kc.2 21 (by decide)).1]
      exact hc
    · rw [d1 1 (by decide), k1.2 1 (by decide), cf_cong (M := M) (M' := M2) (by rw [kr.2.2.1 36 (by decide) (by decide), (kc.2 36 (by decide)).1])]
      exact hf
  · have e1 : s_comp M f v w = (-1, M) := if_neg q
    have e2 : t_compile M f v w = (-1, M) := if_neg q
    rw [e1]
    show -1 = (t_compile M f v w).1 ∧ INV (t_compile M f v w).2 ∧ M.2.2 = mm_gd ∧ IP M ∧ SP M ∧ (s_hasFun M f = true → TA 20 (t_want (t_cmp0 M) 0 63 f v.toInt64 w.toInt64).2)
    rw [e2]
    exact ⟨rfl, h, hgd, hp, hsp, fun z => absurd z q⟩
theorem run_inv {M : mm_M} {i a b : Int32} (h : INV M) : (s_run M i a b).1 = (t_run (s_run M i a b).2 i a b).1 ∧ INV (t_run (s_run M i a b).2 i a b).2 ∧ (s_run M i a b).2.2.2 = mm_gd ∧ IP (s_run M i a b).2 ∧ SP (s_run M i a b).2 ∧ IR (s_run M i a b).2 ∧ (t_none (s_run M i a b).2 i = false → t_misfits (s_run M i a b).2 i ((s_run M i a b).2.1 8 0 ((s_run M i a b).2.1 41 0 i.toNatClampNeg).toNatClampNeg) a = false → t_misfits (s_run M i a b).2 i ((s_run M i a b).2.1 9 0 ((s_run M i a b).2.1 41 0 i.toNatClampNeg).toNatClampNeg) b = false → TS 20000 (t_run0 (s_run M i a b).2 i a b)) := by
  have hir := h.ir
  obtain ⟨hgd, hp, hi, hsp, hS, hB, hc, hf⟩ := h
  have km : KM M (s_run M i a b).2 := (run_sim (R := M) ⟨hS, hB, hp, hi, hgd, hsp⟩ hc).2.1
  have m22 : ∀ f, 22 ≤ f → (s_run M i a b).2.1 f = M.1 f ∧ (s_run M i a b).2.2.1 f = M.2.1 f := fun f hf => ⟨km.2 f (by omega), by rw [km.1]⟩
  have m12 : ∀ f, f < 12 → (s_run M i a b).2.1 f = M.1 f := fun f hf => km.2 f (by omega)
  have g1 : (s_run M i a b).2.2.2 = mm_gd := by
    rw [km.1]
    exact hgd
  have s1 : SP (s_run M i a b).2 := hsp.kc (fun f hf => (m22 f hf).1) m12
  have sc1 : SC M (s_run M i a b).2 := hS.cong (fun _ _ => ⟨rfl, rfl⟩) m22 m12
  have cb1 : CB M (s_run M i a b).2 := hB.cong (fun _ _ => ⟨rfl, rfl⟩) (m22 47 (by decide)).1
  obtain ⟨r1, -, r3, r4, r5⟩ := run_sim (C := M) (R := (s_run M i a b).2) (i := i) (a := a) (b := b) ⟨sc1, cb1, hp, hi, g1, s1⟩ (by
    rw [(m22 30 (by decide)).1]
    exact hc)
  have i1 : IR (s_run M i a b).2 := by
    obtain ⟨c, x1, x2, x3⟩ := hir
    refine ⟨c, x1, by rw [(m22 30 (by decide)).1]; exact x2, fun j hj => ?_⟩
    unfold s_hasFun at *
    rw [(m22 41 (by decide)).1, m12 7 (by decide)]
    exact x3 j hj
  refine ⟨r1, ?_, g1, hp.cong m12, s1, i1, r5⟩
  have k20 : ∀ f, f < 21 → (t_run (s_run M i a b).2 i a b).2.1 f = M.1 f ∧ (t_run (s_run M i a b).2 i a b).2.2.1 f = M.2.1 f := fun f hf => ⟨((r3.2.1 f (by omega) (by omega)).1).trans (km.2 f (by omega)), ((r3.2.1 f (by omega) (by omega)).2).trans (by rw [km.1])⟩
  have e21 : (t_run (s_run M i a b).2 i a b).2.1 21 = (s_run M i a b).2.1 21 := (r3.2.1 21 (by decide) (by decide)).1
  generalize s_run M i a b = P at *
  obtain ⟨z, M1⟩ := P
  simp only at *
  generalize t_run M1 i a b = Q at *
  obtain ⟨z', M2⟩ := Q
  simp only at *
  have hi1 := hi.cong (km.2 7 (by decide)) (km.2 12 (by decide)) (km.2 14 (by decide))
  refine ⟨r3.1.trans g1, hp.cong fun f hf => (k20 f (by omega)).1, hi.cong (k20 7 (by decide)).1 (k20 12 (by decide)).1 (k20 14 (by decide)).1, r3.sp s1, ?_, ?_, ?_, ?_⟩
  · exact sc1.cg (fun f _ h2 => (k20 f h2).1) (fun f h2 => (k20 f h2).2) (fun k _ _ => r3.2.2.1 k (by omega)) (fun f h1 h2 => (r3.2.1 f h2 (by omega)).1) (r3.2.1 48 (by decide) (by decide)).2 r3.2.2.2.1 r3.2.2.2.2 (fun _ _ => rfl)
  · exact cb1.cong k20 (r3.2.1 47 (by decide) (by decide)).1
  · rw [e21]
    exact r4
  · rw [(k20 1 (by decide)).1, cf_cong (M := M) (M' := M2) (by rw [(r3.2.1 36 (by decide) (by decide)).1, (m22 36 (by decide)).1])]
    exact hf
