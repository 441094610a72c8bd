/-! the looks as functions on the memory; what they keep -/
def s_seq (r : Bool × mm_M) (k : mm_M → Bool × mm_M) : Bool × mm_M := if r.1 = true then k r.2 else (false, r.2)
/-- what of the memory stands while compiling: places, references, the program -/
def KP (M M' : mm_M) : Prop := M'.2.2 = M.2.2 ∧ ∀ f, f < 12 → M'.1 f = M.1 f
theorem KP.rf {M : mm_M} : KP M M := ⟨rfl, fun _ _ => rfl⟩
theorem KP.tr {M M' M'' : mm_M} (h : KP M M') (h' : KP M' M'') : KP M M'' := ⟨h'.1.trans h.1, fun f hf => (h'.2 f hf).trans (h.2 f hf)⟩
theorem KP.sI {M M' : mm_M} (h : KP M M') {f i k : Nat} {x : Int32} (hf : 12 ≤ f) : KP M (mm_sI M' f i k x) := by
  refine ⟨h.1, fun g hg => ?_⟩
  rw [← h.2 g hg]
  funext b
  exact mm_u_row (fun q => by omega)
theorem KP.sL {M M' : mm_M} (h : KP M M') {f i k : Nat} {x : Int64} : KP M (mm_sL M' f i k x) := ⟨h.1, h.2⟩
def IQ (M : mm_M) : Prop := ∃ c, c ≤ 20 ∧ M.1 12 0 2 = nI c ∧ ∀ j, j < c → s_hasFun M (M.1 14 j 0) = true
/-- the same count of those made -/
def K3 (M M' : mm_M) : Prop := KP M M' ∧ M'.1 12 0 2 = M.1 12 0 2 ∧ ∀ j, M'.1 14 j 0 = M.1 14 j 0
theorem K3.rf {M : mm_M} : K3 M M := ⟨KP.rf, rfl, fun _ => rfl⟩
theorem K3.tr {M M' M'' : mm_M} (h : K3 M M') (h' : K3 M' M'') : K3 M M'' := ⟨h.1.tr h'.1, h'.2.1.trans h.2.1, fun j => (h'.2.2 j).trans (h.2.2 j)⟩
theorem K3.sI {M M' : mm_M} (h : K3 M M') {f i k : Nat} {x : Int32} (hf : 12 ≤ f) (hn : ¬ (f = 12 ∧ i = 0 ∧ k = 2)) (hg : ¬ (f = 14 ∧ k = 0) := by omega) : K3 M (mm_sI M' f i k x) := by
  refine ⟨h.1.sI hf, ?_, fun j => ?_⟩
  · rw [← h.2.1]
    show mm_u M'.1 f i k x 12 0 2 = _
    unfold mm_u
    rw [if_neg]
    exact fun q => hn ⟨q.1.symm, q.2.1.symm, q.2.2.symm⟩
  · rw [← h.2.2 j]
    show mm_u M'.1 f i k x 14 j 0 = _
    unfold mm_u
    rw [if_neg]
    exact fun q => hg ⟨q.1.symm, q.2.2.symm⟩
theorem K3.sL {M M' : mm_M} (h : K3 M M') {f i k : Nat} {x : Int64} : K3 M (mm_sL M' f i k x) := ⟨h.1.sL, h.2⟩
theorem kp_hasFun {M M' : mm_M} (h : KP M M') (n : Int32) : s_hasFun M' n = s_hasFun M n := by
  unfold s_hasFun
  rw [h.2 7 (by decide)]
theorem K3.iq {M M' : mm_M} (h : K3 M M') (q : IQ M) : IQ M' := by
  obtain ⟨c, h1, h2, h3⟩ := q
  exact ⟨c, h1, h.2.1.trans h2, fun j hj => by rw [kp_hasFun h.1, h.2.2 j]; exact h3 j hj⟩
/-- an instance c is begun -/
def K4 (c : Nat) (f : Int32) (M M' : mm_M) : Prop := KP M M' ∧ M'.1 12 0 2 = M.1 12 0 2 ∧ M'.1 14 c 0 = f ∧ ∀ j, j ≠ c → M'.1 14 j 0 = M.1 14 j 0
theorem K4.k {c : Nat} {f : Int32} {M M' M'' : mm_M} (h : K4 c f M M') (h' : K3 M' M'') : K4 c f M M'' := ⟨h.1.tr h'.1, h'.2.1.trans h.2.1, (h'.2.2 c).trans h.2.2.1, fun j hj => (h'.2.2 j).trans (h.2.2.2 j hj)⟩
theorem K3.fail {M M' : mm_M} (h : K3 M M') {f p e : Int32} : K3 M (s_fail M' f p e) := (h.sI (by decide) (by decide)).sI (by decide) (by decide)
theorem K3.find {M M' : mm_M} (h : K3 M M') {i : Nat} {n t : Int32} : K3 M (s_find M' i n t) := h.sI (by decide) (fun q => by omega)
theorem K3.findK {M M' : mm_M} (h : K3 M M') {i : Nat} {n t : Int32} {x : Int64} : K3 M (s_findK M' i n t x) := ((h.sI (by decide) (fun q => by omega)).sI (by decide) (fun q => by omega)).sL
theorem K3.findS {M M' : mm_M} (h : K3 M M') {i : Nat} {n o : Int32} : K3 M (s_findS M' i n o) := ((h.sI (by decide) (fun q => by omega)).sI (by decide) (fun q => by omega)).sL
theorem K3.passes {M : mm_M} {i : Nat} {p n t : Int32} : K3 M (s_passes M i p n t).2 := by
  unfold s_passes
  split
  · exact K3.rf
  · split
    · exact K3.rf.fail
    · split
      · exact K3.rf.fail
      · split
        · exact K3.rf
        · exact K3.rf.fail
theorem K3.fits {M : mm_M} {i : Nat} {n a b : Int32} : K3 M (s_fits M i n a b).2 := by
  unfold s_fits
  split <;> exact K3.passes
theorem K3.passArg {M : mm_M} {i : Nat} {n a t : Int32} : K3 M (s_passArg M i n a t).2 := by
  unfold s_passArg
  split
  · exact K3.rf
  · split <;> exact K3.passes
theorem K3.lookPar {M : mm_M} {i : Nat} {n : Int32} : K3 M (s_lookPar M i n).2 := by
  unfold s_lookPar
  split
  · exact K3.rf.fail
  · split
    · exact K3.rf.findK
    · exact K3.rf.find
theorem K3.clr {M : mm_M} {i : Nat} : ∀ (k : Nat) {M' : mm_M}, K3 M M' → K3 M (s_clr i k M')
  | 0, _, h => h
  | k + 1, _, h => K3.clr k ((h.sI (by decide) (fun q => by omega)).sI (by decide) (fun q => by omega))
theorem K4.begM {M : mm_M} {i : Nat} {f : Int32} {v w : Int64} : K4 i f M (s_begM M i f v w) := by
  have h0 : K4 i f M (s_beg0 M i f v w) := by
    refine ⟨((KP.rf.sI (by decide)).sL).sL, rfl, ?_, fun j hj => ?_⟩
    · show mm_u M.1 14 i 0 f 14 i 0 = f
      rw [mm_u_own, if_pos rfl]
    · show mm_u M.1 14 i 0 f 14 j 0 = _
      rw [mm_u_row (fun q => hj q.2)]
  have h1 := h0.k (K3.clr (i := i) 60 K3.rf)
  have h2 : K4 i f M (s_beg1 (s_clr i 60 (s_beg0 M i f v w)) i f) := h1.k ((K3.rf.sI (by decide) (fun q => by omega)).sI (by decide) (fun q => by omega))
  have h3 : K4 i f M (s_beg2 (s_beg1 (s_clr i 60 (s_beg0 M i f v w)) i f) i) := h2.k (K3.rf.sI (by decide) (fun q => by omega))
  have h4 : K4 i f M (s_beg3 (s_beg2 (s_beg1 (s_clr i 60 (s_beg0 M i f v w)) i f) i) i) := h3.k (K3.rf.sI (by decide) (fun q => by omega))
  exact h4.k (K3.rf.sI (by decide) (fun q => by omega))
def K2 (M M' : mm_M) : Prop := KP M M' ∧ (IQ M → IQ M')
theorem K3.k2 {M M' : mm_M} (h : K3 M M') : K2 M M' := ⟨h.1, h.iq⟩
theorem K2.rf {M : mm_M} : K2 M M := K3.rf.k2
theorem K2.tr {M M' M'' : mm_M} (h : K2 M M') (h' : K2 M' M'') : K2 M M'' := ⟨h.1.tr h'.1, fun q => h'.2 (h.2 q)⟩
theorem nI_inj {a b : Nat} (ha : a < 2 ^ 31) (hb : b < 2 ^ 31) (h : nI a = nI b) : a = b := by
  have := congrArg Int32.toNatClampNeg h
  rwa [nI_clamp ha, nI_clamp hb] at this
theorem K4.k2 {c : Nat} {f : Int32} {M M' : mm_M} (h : K4 c f M M') (hlt : c < 20) (hc : IQ M → M.1 12 0 2 = nI c) : K2 M M' := by
  refine ⟨h.1, fun q => ?_⟩
  have e := hc q
  obtain ⟨c', h1, h2, h3⟩ := q
  refine ⟨c', h1, h.2.1.trans h2, fun j hj => ?_⟩
  by_cases z : j = c
  · subst z
    have := nI_inj (by omega) (by omega) (h2.symm.trans e)
    omega
  · rw [kp_hasFun h.1, h.2.2.2 j z]
    exact h3 j hj
theorem K2.wantR {M : mm_M} {f : Int32} {v w : Int64} {c k : Nat} (hf : s_hasFun M f = true) (hc : IQ M → M.1 12 0 2 = nI c) : K2 M (s_wantR M f v w c k).2 := by
  unfold s_wantR
  split
  · exact K2.rf
  · unfold s_wantN
    split
    · rename_i hlt
      have hB := K4.begM (M := M) (i := c) (f := f) (v := v) (w := w)
      split
      · refine ⟨hB.1.sI (by decide), fun q => ?_⟩
        have e := hc q
        obtain ⟨c', h1, h2, h3⟩ := q
        have ecc : c' = c := nI_inj (by omega) (by omega) (h2.symm.trans e)
        subst ecc
        have kp1 : KP M (mm_sI (s_begM M c' f v w) 12 0 2 ((s_begM M c' f v w).1 12 0 2 + 1)) := hB.1.sI (by decide)
        refine ⟨c' + 1, by omega, ?_, fun j hj => ?_⟩
        · show mm_u (s_begM M c' f v w).1 12 0 2 ((s_begM M c' f v w).1 12 0 2 + 1) 12 0 2 = _
          rw [mm_u_own, if_pos rfl, hB.2.1, h2, nI_1]
        · rw [kp_hasFun kp1]
          show s_hasFun M (mm_u (s_begM M c' f v w).1 12 0 2 ((s_begM M c' f v w).1 12 0 2 + 1) 14 j 0) = true
          rw [mm_u_row (fun q => by omega)]
          by_cases z : j = c'
          · rw [z, hB.2.2.1]
            exact hf
          · rw [hB.2.2.2 j z]
            exact h3 j (by omega)
      · exact hB.k2 hlt hc
    · exact K2.rf
theorem K2.seq' {M : mm_M} {r : Bool × mm_M} {k : mm_M → Bool × mm_M} (h : K2 M r.2) (hk : ∀ M', K2 M M' → K2 M' (k M').2) : K2 M (s_seq r k).2 := by
  unfold s_seq
  split
  · exact h.tr (hk _ h)
  · exact h
theorem K2.seq {M : mm_M} {r : Bool × mm_M} {k : mm_M → Bool × mm_M} (h : K2 M r.2) (hk : ∀ M', K2 M' (k M').2) : K2 M (s_seq r k).2 := K2.seq' h fun M' _ => hk M'
/-- the looks -/
def s_lpE (M : mm_M) (i : Nat) (n k a b t fd : Int32) : Bool × mm_M :=
  if M.1 18 i a.toNatClampNeg = 0 then (true, s_find M i n fd)
  else if M.1 18 i b.toNatClampNeg = 0 then (true, s_find M i n fd)
  else if s_isTrap (s_work k t (M.2.1 19 i a.toNatClampNeg) (M.2.1 19 i b.toNatClampNeg)) = true then (false, s_fail M (M.1 14 i 0) n (if s_work k t (M.2.1 19 i a.toNatClampNeg) (M.2.1 19 i b.toNatClampNeg) = 1000000000000002 then -5 else -3))
  else (true, s_findK M i n fd (s_work k t (M.2.1 19 i a.toNatClampNeg) (M.2.1 19 i b.toNatClampNeg)))
def s_lpC (M : mm_M) (i : Nat) (n k a b : Int32) : Bool × mm_M :=
  if s_fitted M i a b = 0 ∧ ¬ k = 12 then (false, s_fail M (M.1 14 i 0) n (-2))
  else if s_fitted M i a b = 300 ∧ s_isWrap k = true then (false, s_fail M (M.1 14 i 0) n (-2))
  else s_lpE M i n k a b (s_fitted M i a b) (if s_isComp k = true then 0 else s_fitted M i a b)
def s_lookPair (lk : mm_M → Int32 → Bool × mm_M) (M : mm_M) (i : Nat) (n : Int32) : Bool × mm_M :=
  s_seq (lk M (M.1 3 0 n.toNatClampNeg)) fun M1 => s_seq (lk M1 (M.1 4 0 n.toNatClampNeg)) fun M2 => s_seq (s_fits M2 i n (M.1 3 0 n.toNatClampNeg) (M.1 4 0 n.toNatClampNeg)) fun M3 => s_lpC M3 i n (M.1 2 0 n.toNatClampNeg) (M.1 3 0 n.toNatClampNeg) (M.1 4 0 n.toNatClampNeg)
def s_liC (M : mm_M) (i : Nat) (n b c : Int32) : Bool × mm_M := if s_fitted M i b c = 300 then (false, s_fail M (M.1 14 i 0) n (-2)) else (true, s_find M i n (s_fitted M i b c))
def s_liB (lk : mm_M → Int32 → Bool × mm_M) (M : mm_M) (i : Nat) (n a b c : Int32) : Bool × mm_M :=
  if ¬ M.1 17 i a.toNatClampNeg = 0 then (false, s_fail M (M.1 14 i 0) n (-2))
  else if ¬ M.1 18 i a.toNatClampNeg = 0 then s_seq (lk M (if M.2.1 19 i a.toNatClampNeg = 0 then c else b)) fun M1 => (true, s_findS M1 i n (if M.2.1 19 i a.toNatClampNeg = 0 then c else b))
  else s_seq (lk M b) fun M1 => s_seq (lk M1 c) fun M2 => s_seq (s_fits M2 i n b c) fun M3 => s_liC M3 i n b c
def s_lookIf (lk : mm_M → Int32 → Bool × mm_M) (M : mm_M) (i : Nat) (n : Int32) : Bool × mm_M :=
  s_seq (lk M (M.1 3 0 n.toNatClampNeg)) fun M1 => s_liB lk M1 i n (M.1 3 0 n.toNatClampNeg) (M.1 4 0 n.toNatClampNeg) (M.1 5 0 n.toNatClampNeg)
def s_ltC (M : mm_M) (i : Nat) (n a t : Int32) : Bool × mm_M := if t = 500 then (false, s_fail M (M.1 14 i 0) n (-4)) else if M.1 18 i a.toNatClampNeg = 0 then (true, s_find M i n t) else if s_holds t (M.2.1 19 i a.toNatClampNeg) = true then (true, s_findK M i n t (M.2.1 19 i a.toNatClampNeg)) else (false, s_fail M (M.1 14 i 0) n (-3))
def s_ltB (M : mm_M) (i : Nat) (n a : Int32) : Bool × mm_M := if M.1 17 i a.toNatClampNeg = 0 then (false, s_fail M (M.1 14 i 0) n (-2)) else s_ltC M i n a (s_typeBy M i (M.1 4 0 n.toNatClampNeg))
def s_lookCast (lk : mm_M → Int32 → Bool × mm_M) (M : mm_M) (i : Nat) (n : Int32) : Bool × mm_M := s_seq (lk M (M.1 3 0 n.toNatClampNeg)) fun M1 => s_ltB M1 i n (M.1 3 0 n.toNatClampNeg)
def s_lwB (M : mm_M) (i : Nat) (n a : Int32) : Bool × mm_M := if s_isInt (M.1 17 i a.toNatClampNeg) = true then (true, s_findK M i n 300 (if 0 ≤ M.1 17 i a.toNatClampNeg then M.1 17 i a.toNatClampNeg else 0 - M.1 17 i a.toNatClampNeg).toInt64) else (false, s_fail M (M.1 14 i 0) n (-2))
def s_lookWidth (lk : mm_M → Int32 → Bool × mm_M) (M : mm_M) (i : Nat) (n : Int32) : Bool × mm_M := s_seq (lk M (M.1 3 0 n.toNatClampNeg)) fun M1 => s_lwB M1 i n (M.1 3 0 n.toNatClampNeg)
def s_lkArg (lk : mm_M → Int32 → Bool × mm_M) (M : mm_M) (a : Int32) : Bool × mm_M := if a = -1 then (true, M) else lk M a
def s_lcE (M : mm_M) (i : Nat) (n w : Int32) (j : Nat) : mm_M := s_find (mm_sI M 20 i n.toNatClampNeg w) i n (M.1 14 j 1)
def s_lc3 (M : mm_M) (i : Nat) (n b c w : Int32) : Bool × mm_M := s_seq (s_passArg M i n b (M.1 15 w.toNatClampNeg 0)) fun M1 => s_seq (s_passArg M1 i n c (M1.1 15 w.toNatClampNeg 1)) fun M2 => (true, s_lcE M2 i n w w.toNatClampNeg)
def s_lcW (r : Int32 × mm_M) (i : Nat) (n b c : Int32) : Bool × mm_M := if 0 ≤ r.1 then s_lc3 r.2 i n b c r.1 else (false, s_fail r.2 (r.2.1 14 i 0) n r.1)
def s_lc2 (M : mm_M) (i : Nat) (n f b c : Int32) : Bool × mm_M := if s_cntDue M i b (M.1 8 0 f.toNatClampNeg) = false then (false, s_fail M (M.1 14 i 0) n (-2)) else if s_cntDue M i c (M.1 9 0 f.toNatClampNeg) = false then (false, s_fail M (M.1 14 i 0) n (-2))
  else s_lcW (s_wantR M f (s_valArg M i b) (s_valArg M i c) (M.1 12 0 2).toNatClampNeg (M.1 12 0 2).toNatClampNeg) i n b c
def s_lc1 (lk : mm_M → Int32 → Bool × mm_M) (M : mm_M) (i : Nat) (n f b c : Int32) : Bool × mm_M := if s_hasFun M f = false then (false, s_fail M (M.1 14 i 0) n (-6)) else if s_given b (M.1 8 0 f.toNatClampNeg) = false then (false, s_fail M (M.1 14 i 0) n (-6)) else if s_given c (M.1 9 0 f.toNatClampNeg) = false then (false, s_fail M (M.1 14 i 0) n (-6))
  else s_seq (s_lkArg lk M b) fun M1 => s_seq (s_lkArg lk M1 c) fun M2 => s_lc2 M2 i n f b c
def s_lookCall (lk : mm_M → Int32 → Bool × mm_M) (M : mm_M) (i : Nat) (n : Int32) : Bool × mm_M := s_lc1 lk M i n (M.1 3 0 n.toNatClampNeg) (M.1 4 0 n.toNatClampNeg) (M.1 5 0 n.toNatClampNeg)
def s_lookK (lk : mm_M → Int32 → Bool × mm_M) (M : mm_M) (i : Nat) (n : Int32) : Bool × mm_M :=
  if M.1 2 0 n.toNatClampNeg = 0 then (true, s_findK M i n 300 (M.1 3 0 n.toNatClampNeg).toInt64) else if M.1 2 0 n.toNatClampNeg = 1 then s_lookPar M i n else if M.1 2 0 n.toNatClampNeg = 13 then s_lookIf lk M i n
  else if M.1 2 0 n.toNatClampNeg = 14 then s_lookCast lk M i n else if M.1 2 0 n.toNatClampNeg = 15 then s_lookCall lk M i n else if M.1 2 0 n.toNatClampNeg = 16 then s_lookWidth lk M i n else s_lookPair lk M i n
def s_look : Nat → Nat → mm_M → Int32 → Bool × mm_M
  | 0, _, M, _ => (true, M)
  | L + 1, i, M, n => if s_was M i n = true then (true, M) else s_lookK (s_look L i) M i n
theorem K2.lpC {M : mm_M} {i : Nat} {n k a b : Int32} : K2 M (s_lpC M i n k a b).2 := by
  unfold s_lpC s_lpE
  repeat' split
  all_goals first | exact K3.rf.fail.k2 | exact K3.rf.find.k2 | exact K3.rf.findK.k2
theorem K2.liC {M : mm_M} {i : Nat} {n b c : Int32} : K2 M (s_liC M i n b c).2 := by
  unfold s_liC
  split
  · exact K3.rf.fail.k2
  · exact K3.rf.find.k2
theorem K2.ltB {M : mm_M} {i : Nat} {n a : Int32} : K2 M (s_ltB M i n a).2 := by
  unfold s_ltB s_ltC
  repeat' split
  all_goals first | exact K3.rf.fail.k2 | exact K3.rf.find.k2 | exact K3.rf.findK.k2
theorem K2.lwB {M : mm_M} {i : Nat} {n a : Int32} : K2 M (s_lwB M i n a).2 := by
  unfold s_lwB
  split
  · exact K3.rf.findK.k2
  · exact K3.rf.fail.k2
theorem K2.lkArg {lk : mm_M → Int32 → Bool × mm_M} (hk : ∀ M n, K2 M (lk M n).2) {M : mm_M} {a : Int32} : K2 M (s_lkArg lk M a).2 := by
  unfold s_lkArg
  split
  · exact K2.rf
  · exact hk M a
theorem K2.lc3 {M : mm_M} {i : Nat} {n b c w : Int32} : K2 M (s_lc3 M i n b c w).2 := by
  unfold s_lc3
  refine K2.seq K3.passArg.k2 fun M1 => K2.seq K3.passArg.k2 fun M2 => ?_
  exact ((K3.rf.sI (by decide) (fun q => by omega)).sI (by decide) (fun q => by omega)).k2
theorem IQ.cl {M : mm_M} (h : IQ M) : M.1 12 0 2 = nI (M.1 12 0 2).toNatClampNeg := by
  obtain ⟨c, h1, h2, -⟩ := h
  rw [h2, nI_clamp (by omega)]
theorem K2.lc2 {M : mm_M} {i : Nat} {n f b c : Int32} (hf : s_hasFun M f = true) : K2 M (s_lc2 M i n f b c).2 := by
  unfold s_lc2
  split
  · exact K3.rf.fail.k2
  · split
    · exact K3.rf.fail.k2
    · unfold s_lcW
      split
      · exact (K2.wantR hf IQ.cl).tr K2.lc3
      · exact (K2.wantR hf IQ.cl).tr K3.rf.fail.k2
theorem K2.look : ∀ (L i : Nat) (M : mm_M) (n : Int32), K2 M (s_look L i M n).2
  | 0, _, _, _ => K2.rf
  | L + 1, i, M, n => by
    have ih : ∀ M n, K2 M (s_look L i M n).2 := K2.look L i
    unfold s_look
    split
    · exact K2.rf
    · unfold s_lookK
      repeat' split
      · exact K3.rf.findK.k2
      · exact K3.lookPar.k2
      · unfold s_lookIf
        refine K2.seq (ih _ _) fun M1 => ?_
        unfold s_liB
        split
        · exact K3.rf.fail.k2
        · split
          · exact K2.seq (ih _ _) fun M2 => K3.rf.findS.k2
          · exact K2.seq (ih _ _) fun M2 => K2.seq (ih _ _) fun M3 => K2.seq K3.fits.k2 fun M4 => K2.liC
      · exact K2.seq (ih _ _) fun M1 => K2.ltB
      · unfold s_lookCall s_lc1
        repeat' split
        · exact K3.rf.fail.k2
        · exact K3.rf.fail.k2
        · exact K3.rf.fail.k2
        · rename_i hf _ _
          have hf : s_hasFun M (M.1 3 0 n.toNatClampNeg) = true := by simpa using hf
          exact K2.seq' (K2.lkArg ih) fun M1 k1 => K2.seq' (K2.lkArg ih) fun M2 k2 => K2.lc2 ((kp_hasFun (k1.tr k2).1 _).trans hf)
      · exact K2.seq (ih _ _) fun M1 => K2.lwB
      · exact K2.seq (ih _ _) fun M1 => K2.seq (ih _ _) fun M2 => K2.seq K3.fits.k2 fun M3 => K2.lpC
/-- the program stands as addNode and addFunction leave it -/
def lv (M : mm_M) (n : Int32) : Int := (M.1 6 0 n.toNatClampNeg).toInt
def okA (M : mm_M) (n a : Int32) : Prop := s_hasNode M a = true ∧ lv M a < lv M n
def IP (M : mm_M) : Prop := ¬ M.1 1 0 10 < 0 ∧ ¬ 60 < M.1 1 0 10 ∧
  (∀ n, s_hasNode M n = true → 1 ≤ lv M n ∧ lv M n ≤ 8 ∧ s_isOne (M.1 2 0 n.toNatClampNeg) = true ∧ (M.1 2 0 n.toNatClampNeg = 1 → M.1 3 0 n.toNatClampNeg = 0 ∨ M.1 3 0 n.toNatClampNeg = 1) ∧
    (M.1 2 0 n.toNatClampNeg = 13 → okA M n (M.1 3 0 n.toNatClampNeg) ∧ okA M n (M.1 4 0 n.toNatClampNeg) ∧ okA M n (M.1 5 0 n.toNatClampNeg)) ∧
    (M.1 2 0 n.toNatClampNeg = 14 → okA M n (M.1 3 0 n.toNatClampNeg) ∧ s_isCast (M.1 4 0 n.toNatClampNeg) = true) ∧
    (M.1 2 0 n.toNatClampNeg = 15 → vp_in (M.1 3 0 n.toNatClampNeg) 8 ∧ (M.1 4 0 n.toNatClampNeg = -1 ∨ okA M n (M.1 4 0 n.toNatClampNeg)) ∧ (M.1 5 0 n.toNatClampNeg = -1 ∨ okA M n (M.1 5 0 n.toNatClampNeg))) ∧
    (M.1 2 0 n.toNatClampNeg = 16 → okA M n (M.1 3 0 n.toNatClampNeg)) ∧
    (¬ M.1 2 0 n.toNatClampNeg = 0 → ¬ M.1 2 0 n.toNatClampNeg = 1 → ¬ M.1 2 0 n.toNatClampNeg = 13 → ¬ M.1 2 0 n.toNatClampNeg = 14 → ¬ M.1 2 0 n.toNatClampNeg = 15 → ¬ M.1 2 0 n.toNatClampNeg = 16 → okA M n (M.1 3 0 n.toNatClampNeg) ∧ okA M n (M.1 4 0 n.toNatClampNeg))) ∧
  ∀ f, s_hasFun M f = true → s_hasNode M (M.1 11 0 f.toNatClampNeg) = true ∧ s_isPar (M.1 8 0 f.toNatClampNeg) = true ∧ s_isPar (M.1 9 0 f.toNatClampNeg) = true ∧ s_isRes (M.1 10 0 f.toNatClampNeg) = true
theorem kp_hasNode {M M' : mm_M} (h : KP M M') (n : Int32) : s_hasNode M' n = s_hasNode M n := by
  unfold s_hasNode
  rw [h.2 1 (by decide)]
theorem kp_lv {M M' : mm_M} (h : KP M M') (n : Int32) : lv M' n = lv M n := by
  unfold lv
  rw [h.2 6 (by decide)]
theorem kp_okA {M M' : mm_M} (h : KP M M') {n a : Int32} : okA M' n a = okA M n a := by
  unfold okA
  rw [kp_hasNode h, kp_lv h, kp_lv h]
theorem IP.kp {M M' : mm_M} (h : KP M M') (p : IP M) : IP M' := by
  unfold IP at p ⊢
  simp only [kp_hasNode h, kp_hasFun h, kp_lv h, kp_okA h, h.2 1 (by decide), h.2 2 (by decide), h.2 3 (by decide), h.2 4 (by decide), h.2 5 (by decide), h.2 8 (by decide), h.2 9 (by decide), h.2 10 (by decide), h.2 11 (by decide)]
  exact p
theorem IP.in60 {M : mm_M} (p : IP M) {n : Int32} (h : s_hasNode M n = true) : vp_in n 60 := s_hasNode_in h p.2.1
def JJ (M : mm_M) : Prop := M.2.2 = mm_gd ∧ IP M ∧ IQ M
theorem JJ.k {M M' : mm_M} (h : JJ M) (k : K2 M M') : JJ M' := ⟨k.1.1.trans h.1, h.2.1.kp k.1, k.2 h.2.2⟩
