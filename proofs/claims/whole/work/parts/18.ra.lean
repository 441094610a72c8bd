/-! what the class leaves of the reference's memory -/
def KC (M M' : mm_M) : Prop := M'.2.2 = M.2.2 ∧ ∀ f, 21 ≤ f → M'.1 f = M.1 f ∧ M'.2.1 f = M.2.1 f
theorem KC.rf {M : mm_M} : KC M M := ⟨rfl, fun _ _ => ⟨rfl, rfl⟩⟩
theorem KC.tr {M M' M'' : mm_M} (h : KC M M') (h' : KC M' M'') : KC M M'' := ⟨h'.1.trans h.1, fun f hf => ⟨(h'.2 f hf).1.trans (h.2 f hf).1, (h'.2 f hf).2.trans (h.2 f hf).2⟩⟩
theorem KC.sI {M M' : mm_M} (h : KC M M') {f i k : Nat} {x : Int32} (hf : f < 21) : KC M (mm_sI M' f i k x) := h.tr ⟨rfl, fun g hg => ⟨mm_u_row' (by omega), rfl⟩⟩
theorem KC.sL {M M' : mm_M} (h : KC M M') {f i k : Nat} {x : Int64} (hf : f < 21) : KC M (mm_sL M' f i k x) := h.tr ⟨rfl, fun g hg => ⟨rfl, mm_u_row' (by omega)⟩⟩
theorem KC.fail {M M' : mm_M} (h : KC M M') {f p e : Int32} : KC M (s_fail M' f p e) := (h.sI (by decide)).sI (by decide)
theorem KC.find {M M' : mm_M} (h : KC M M') {i : Nat} {n t : Int32} : KC M (s_find M' i n t) := h.sI (by decide)
theorem KC.findK {M M' : mm_M} (h : KC M M') {i : Nat} {n t : Int32} {x : Int64} : KC M (s_findK M' i n t x) := ((h.sI (by decide)).sI (by decide)).sL (by decide)
theorem KC.findS {M M' : mm_M} (h : KC M M') {i : Nat} {n o : Int32} : KC M (s_findS M' i n o) := ((h.sI (by decide)).sI (by decide)).sL (by decide)
theorem KC.passes {M : mm_M} {i : Nat} {p n t : Int32} : KC M (s_passes M i p n t).2 := by
  unfold s_passes
  repeat' split
  all_goals first | exact KC.rf | exact KC.rf.fail
theorem KC.fits {M : mm_M} {i : Nat} {n a b : Int32} : KC M (s_fits M i n a b).2 := by
  unfold s_fits
  split <;> exact KC.passes
theorem KC.passArg {M : mm_M} {i : Nat} {n a t : Int32} : KC M (s_passArg M i n a t).2 := by
  unfold s_passArg
  split
  · exact KC.rf
  · split <;> exact KC.passes
theorem KC.lookPar {M : mm_M} {i : Nat} {n : Int32} : KC M (s_lookPar M i n).2 := by
  unfold s_lookPar
  repeat' split
  all_goals first | exact KC.rf.fail | exact KC.rf.findK | exact KC.rf.find
theorem KC.clr {M : mm_M} {i : Nat} : ∀ (k : Nat) {M' : mm_M}, KC M M' → KC M (s_clr i k M')
  | 0, _, h => h
  | k + 1, _, h => KC.clr k ((h.sI (by decide)).sI (by decide))
theorem KC.begM {M : mm_M} {i : Nat} {f : Int32} {v w : Int64} : KC M (s_begM M i f v w) := by
  have h0 : KC M (s_beg0 M i f v w) := ((KC.rf.sI (by decide)).sL (by decide)).sL (by decide)
  have h1 := h0.tr (KC.clr (i := i) 60 KC.rf)
  have h2 : KC M (s_beg1 (s_clr i 60 (s_beg0 M i f v w)) i f) := h1.tr ((KC.rf.sI (by decide)).sI (by decide))
  have h3 : KC M (s_beg2 (s_beg1 (s_clr i 60 (s_beg0 M i f v w)) i f) i) := h2.tr (KC.rf.sI (by decide))
  have h4 : KC M (s_beg3 (s_beg2 (s_beg1 (s_clr i 60 (s_beg0 M i f v w)) i f) i) i) := h3.tr (KC.rf.sI (by decide))
  exact h4.tr (KC.rf.sI (by decide))
theorem KC.wantR {M : mm_M} {f : Int32} {v w : Int64} {c k : Nat} : KC M (s_wantR M f v w c k).2 := by
  unfold s_wantR
  split
  · exact KC.rf
  · unfold s_wantN
    have hB := KC.begM (M := M) (i := c) (f := f) (v := v) (w := w)
    generalize s_begM M c f v w = B at *
    repeat' split
    · exact hB.sI (by decide)
    · exact hB
    · exact KC.rf
theorem KC.seq {M : mm_M} {r : Bool × mm_M} {k : mm_M → Bool × mm_M} (h : KC M r.2) (hk : ∀ M', KC M' (k M').2) : KC M (s_seq r k).2 := by
  unfold s_seq
  split
  · exact h.tr (hk _)
  · exact h
theorem KC.lpC {M : mm_M} {i : Nat} {n k a b : Int32} : KC M (s_lpC M i n k a b).2 := by
  unfold s_lpC s_lpE
  repeat' split
  all_goals first | exact KC.rf.fail | exact KC.rf.find | exact KC.rf.findK
theorem KC.liC {M : mm_M} {i : Nat} {n b c : Int32} : KC M (s_liC M i n b c).2 := by
  unfold s_liC
  split
  · exact KC.rf.fail
  · exact KC.rf.find
theorem KC.ltB {M : mm_M} {i : Nat} {n a : Int32} : KC M (s_ltB M i n a).2 := by
  unfold s_ltB s_ltC
  repeat' split
  all_goals first | exact KC.rf.fail | exact KC.rf.find | exact KC.rf.findK
theorem KC.lwB {M : mm_M} {i : Nat} {n a : Int32} : KC M (s_lwB M i n a).2 := by
  unfold s_lwB
  split
  · exact KC.rf.findK
  · exact KC.rf.fail
theorem KC.lkArg {lk : mm_M → Int32 → Bool × mm_M} (hk : ∀ M n, KC M (lk M n).2) {M : mm_M} {a : Int32} : KC M (s_lkArg lk M a).2 := by
  unfold s_lkArg
  split
  · exact KC.rf
  · exact hk M a
theorem KC.lc3 {M : mm_M} {i : Nat} {n b c w : Int32} : KC M (s_lc3 M i n b c w).2 := by
  unfold s_lc3
  exact KC.seq KC.passArg fun M1 => KC.seq KC.passArg fun M2 => (KC.rf.sI (by decide)).sI (by decide)
theorem KC.lc2 {M : mm_M} {i : Nat} {n f b c : Int32} : KC M (s_lc2 M i n f b c).2 := by
  unfold s_lc2
  split
  · exact KC.rf.fail
  · split
    · exact KC.rf.fail
    · unfold s_lcW
      split
      · exact KC.wantR.tr KC.lc3
      · exact KC.wantR.fail
theorem KC.look : ∀ (L i : Nat) (M : mm_M) (n : Int32), KC M (s_look L i M n).2
  | 0, _, _, _ => KC.rf
  | L + 1, i, M, n => by
    have ih : ∀ M n, KC M (s_look L i M n).2 := KC.look L i
    unfold s_look
    split
    · exact KC.rf
    · unfold s_lookK
      repeat' split
      · exact KC.rf.findK
      · exact KC.lookPar
      · unfold s_lookIf
        refine KC.seq (ih _ _) fun M1 => ?_
        unfold s_liB
        split
        · exact KC.rf.fail
        · split
          · exact KC.seq (ih _ _) fun M2 => KC.rf.findS
          · exact KC.seq (ih _ _) fun M2 => KC.seq (ih _ _) fun M3 => KC.seq KC.fits fun M4 => KC.liC
      · exact KC.seq (ih _ _) fun M1 => KC.ltB
      · unfold s_lookCall s_lc1
        repeat' split
        · exact KC.rf.fail
        · exact KC.rf.fail
        · exact KC.rf.fail
        · exact KC.seq (KC.lkArg ih) fun M1 => KC.seq (KC.lkArg ih) fun M2 => KC.lc2
      · exact KC.seq (ih _ _) fun M1 => KC.lwB
      · exact KC.seq (ih _ _) fun M1 => KC.seq (ih _ _) fun M2 => KC.seq KC.fits fun M3 => KC.lpC
theorem KC.all : ∀ (k : Nat) (b : Bool) (M : mm_M), KC M (s_all k b M).2
  | 0, _, _ => KC.rf
  | k + 1, b, M => by
    unfold s_all
    split
    · refine KC.tr ?_ (KC.all k _ _)
      unfold s_allB
      exact KC.seq (KC.look 8 _ _ _) fun M1 => KC.passes
    · exact KC.rf
theorem KC.comp {M : mm_M} {f v w : Int32} : KC M (s_comp M f v w).2 := by
  have h0 : KC M (s_all0 M) := ((KC.rf.sI (by decide)).sI (by decide)).sI (by decide)
  have hw : KC M (s_wantR (s_all0 M) f v.toInt64 w.toInt64 0 0).2 := h0.tr KC.wantR
  have h1 : KC M (s_allW M f v.toInt64 w.toInt64).2 := by
    unfold s_allW
    generalize s_wantR (s_all0 M) f v.toInt64 w.toInt64 0 0 = P at *
    split
    · exact hw
    · exact hw.fail
  unfold s_comp s_compAll
  split
  · generalize s_allW M f v.toInt64 w.toInt64 = P at *
    have h2 := h1.tr (KC.all 20 P.1 P.2)
    generalize s_all 20 P.1 P.2 = Q at *
    unfold s_allE
    split
    · exact h2
    · exact h2.sI (by decide)
  · exact KC.rf
/-- what the reference leaves of the class's memory -/
def KD (M M' : mm_M) : Prop := M'.2.2 = M.2.2 ∧ ∀ f, f < 22 → M'.1 f = M.1 f ∧ M'.2.1 f = M.2.1 f
theorem KR.kd {M M' : mm_M} (h : KR M M') : KD M M' := ⟨h.1, fun f hf => ⟨h.2.1 f hf, h.2.2.2.2 f hf⟩⟩
theorem KZ.kd {M M' : mm_M} (h : KZ M M') : KD M M' := ⟨h.1, fun f hf => h.2.1 f (by omega) (by omega)⟩
theorem KD.sI {M M' : mm_M} (h : KD M M') {f i k : Nat} {x : Int32} (hf : 22 ≤ f) : KD M (mm_sI M' f i k x) := ⟨h.1, fun g hg => ⟨(mm_u_row' (by omega)).trans (h.2 g hg).1, (h.2 g hg).2⟩⟩
theorem KD.rf {M : mm_M} : KD M M := ⟨rfl, fun _ _ => ⟨rfl, rfl⟩⟩
theorem KD.comp {M : mm_M} {f v w : Int32} : KD M (t_compile M f v w).2 := by
  unfold t_compile
  split
  · exact ((((KR.cmp0 (M := M)).tr (KW.want (f := f) (i := 0) (n := 63) (v := v.toInt64) (w := w.toInt64)).1).tr (all_kr 20 _)).tr cmpE_kr).kd
  · exact KD.rf
/-- the relation reads the class's part of the one and the reference's part of the other -/
theorem SC.cg {C R C' R' : mm_M} (h : SC C R) (hC : ∀ f, 7 ≤ f → f < 21 → C'.1 f = C.1 f) (hL : ∀ f, f < 21 → C'.2.1 f = C.2.1 f) (h30 : ∀ k, 1 ≤ k → k ≤ 3 → R'.1 30 0 k = R.1 30 0 k) (hR : ∀ f, 41 ≤ f → f < 49 → R'.1 f = R.1 f) (h48 : R'.2.1 48 = R.2.1 48) (h56 : R'.2.1 56 = R.2.1 56) (h57 : R'.2.1 57 = R.2.1 57) (hP : ∀ f, f < 12 → R'.1 f = C'.1 f) : SC C' R' := by
  obtain ⟨-, h2, h3, h4, h5⟩ := h
  have c12 := hC 12 (by decide) (by decide)
  refine ⟨hP, ?_, ?_, ?_, fun j hj hc => ?_⟩
  · rw [h30 3 (by decide) (by decide), c12]
    exact h2
  · rw [h30 1 (by decide) (by decide), c12]
    exact h3
  · rw [h30 2 (by decide) (by decide), c12]
    exact h4
  · rw [c12] at hc
    obtain ⟨g1, g2⟩ := h5 j hj hc
    refine ⟨sf_keep g1 (hC 7 (by decide) (by decide)) (hC 8 (by decide) (by decide)) (hC 9 (by decide) (by decide)) (hC 10 (by decide) (by decide)) (hC 14 (by decide) (by decide)) (hC 15 (by decide) (by decide)) (hL 16 (by decide)) (hR 41 (by decide) (by decide)) (hR 42 (by decide) (by decide)) (hR 43 (by decide) (by decide)) h56 h57, fun k hk => ?_⟩
    unfold SN WN
    rw [hC 17 (by decide) (by decide), hC 18 (by decide) (by decide), hL 19 (by decide), hR 44 (by decide) (by decide), hR 45 (by decide) (by decide), hR 46 (by decide) (by decide), h48]
    exact g2 k hk
theorem SC.cong {C R C' R' : mm_M} (h : SC C R) (hC : ∀ f, f < 21 → C'.1 f = C.1 f ∧ C'.2.1 f = C.2.1 f) (hR : ∀ f, 22 ≤ f → R'.1 f = R.1 f ∧ R'.2.1 f = R.2.1 f) (hP : ∀ f, f < 12 → R'.1 f = C'.1 f) : SC C' R' := h.cg (fun f _ h2 => (hC f h2).1) (fun f hf => (hC f hf).2) (fun k _ _ => by rw [(hR 30 (by decide)).1]) (fun f h1 _ => (hR f (by omega)).1) (hR 48 (by decide)).2 (hR 56 (by decide)).2 (hR 57 (by decide)).2 hP
theorem CB.cong {C R C' R' : mm_M} (h : CB C R) (hC : ∀ f, f < 21 → C'.1 f = C.1 f ∧ C'.2.1 f = C.2.1 f) (hR : R'.1 47 = R.1 47) : CB C' R' := by
  unfold CB CL PB NC N1 N13 N14 N15 N2 PS LPc s_hasNode at *
  simp only [(hC 1 (by decide)).1, (hC 2 (by decide)).1, (hC 3 (by decide)).1, (hC 4 (by decide)).1, (hC 5 (by decide)).1, (hC 8 (by decide)).1, (hC 9 (by decide)).1, (hC 11 (by decide)).1, (hC 12 (by decide)).1, (hC 14 (by decide)).1, (hC 15 (by decide)).1, (hC 17 (by decide)).1, (hC 18 (by decide)).1, (hC 20 (by decide)).1, (hC 19 (by decide)).2, hR]
  exact h
theorem IP.cong {C C' : mm_M} (h : IP C) (hC : ∀ f, f < 12 → C'.1 f = C.1 f) : IP C' := by
  have k : KP (C.1, C.2.1, C'.2.2) C' := ⟨rfl, hC⟩
  have p : IP (C.1, C.2.1, C'.2.2) := h
  exact p.kp k
theorem IQ.cong {C C' : mm_M} (h : IQ C) (h7 : C'.1 7 = C.1 7) (h12 : C'.1 12 = C.1 12) (h14 : C'.1 14 = C.1 14) : IQ C' := by
  obtain ⟨c, h1, h2, h3⟩ := h
  refine ⟨c, h1, by rw [h12]; exact h2, fun j hj => ?_⟩
  unfold s_hasFun at *
  rw [h7, h14]
  exact h3 j hj
