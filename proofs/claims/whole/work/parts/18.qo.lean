/-! what a run needs of the nodes that were looked at -/
def LPc (C : mm_M) (j : Nat) (a : Int32) : Prop := ¬ C.1 17 j a.toNatClampNeg = 400
/-- node a may stand where t is due -/
def PS (C : mm_M) (j : Nat) (a t : Int32) : Prop := LPc C j a ∧ (C.1 17 j a.toNatClampNeg = t ∨ (C.1 17 j a.toNatClampNeg = 300 ∧ s_isInt t = true ∧ s_holds t (C.2.1 19 j a.toNatClampNeg) = true))
def PK (k : Int32) : Prop := ¬ k = 0 ∧ ¬ k = 1 ∧ ¬ k = 13 ∧ ¬ k = 14 ∧ ¬ k = 15 ∧ ¬ k = 16
def N1 (C : mm_M) (j k : Nat) : Prop := C.1 17 j k = C.1 15 j (C.1 3 0 k).toNatClampNeg ∧ ¬ C.1 17 j k = 300
def N13 (C : mm_M) (j k : Nat) : Prop := LPc C j (C.1 3 0 k) ∧ C.1 17 j (C.1 3 0 k).toNatClampNeg = 0 ∧ ((C.1 18 j (C.1 3 0 k).toNatClampNeg = 0 ∧ PS C j (C.1 4 0 k) (C.1 17 j k) ∧ PS C j (C.1 5 0 k) (C.1 17 j k)) ∨ (¬ C.1 18 j (C.1 3 0 k).toNatClampNeg = 0 ∧ ∃ o, o = (if C.2.1 19 j (C.1 3 0 k).toNatClampNeg = 0 then C.1 5 0 k else C.1 4 0 k) ∧ LPc C j o ∧ C.1 17 j o.toNatClampNeg = C.1 17 j k ∧ C.1 18 j o.toNatClampNeg = 0))
def N14 (C : mm_M) (j k : Nat) : Prop := LPc C j (C.1 3 0 k) ∧ ¬ C.1 17 j k = 0
def N15 (C R : mm_M) (j k : Nat) : Prop := ∃ m, m < 20 ∧ nI m < C.1 12 0 2 ∧ C.1 20 j k = nI m ∧ R.1 47 0 (60 * j + k) = nI m ∧ C.1 14 m 0 = C.1 3 0 k ∧ (C.1 4 0 k = -1 ↔ C.1 8 0 (C.1 3 0 k).toNatClampNeg = 400) ∧ (C.1 5 0 k = -1 ↔ C.1 9 0 (C.1 3 0 k).toNatClampNeg = 400) ∧ (¬ C.1 4 0 k = -1 → PS C j (C.1 4 0 k) (C.1 15 m 0)) ∧ (¬ C.1 5 0 k = -1 → PS C j (C.1 5 0 k) (C.1 15 m 1)) ∧ C.1 17 j k = C.1 14 m 1
def N2 (C : mm_M) (j k : Nat) : Prop := ∃ t, PS C j (C.1 3 0 k) t ∧ PS C j (C.1 4 0 k) t ∧ TV t ∧ KT (C.1 2 0 k) t ∧ C.1 17 j k = if s_isComp (C.1 2 0 k) = true then 0 else t
def NC (C R : mm_M) (j k : Nat) : Prop := (C.1 2 0 k = 1 ∧ N1 C j k) ∨ (C.1 2 0 k = 13 ∧ N13 C j k) ∨ (C.1 2 0 k = 14 ∧ N14 C j k) ∨ (C.1 2 0 k = 15 ∧ N15 C R j k) ∨ (PK (C.1 2 0 k) ∧ N2 C j k)
/-- what was looked at stands -/
def KX (C R C' R' : mm_M) : Prop := KP C C' ∧ ∀ i, i < 20 → nI i < C.1 12 0 2 → nI i < C'.1 12 0 2 ∧ C'.1 14 i = C.1 14 i ∧ C'.1 15 i = C.1 15 i ∧ ∀ k, ¬ C.1 17 i k = 400 → C'.1 17 i k = C.1 17 i k ∧ C'.1 18 i k = C.1 18 i k ∧ C'.2.1 19 i k = C.2.1 19 i k ∧ C'.1 20 i k = C.1 20 i k ∧ (k < 60 → R'.1 47 0 (60 * i + k) = R.1 47 0 (60 * i + k))
theorem KX.rf {C R : mm_M} : KX C R C R := ⟨KP.rf, fun _ _ h => ⟨h, rfl, rfl, fun _ _ => ⟨rfl, rfl, rfl, rfl, fun _ => rfl⟩⟩⟩
theorem KX.tr {C R C' R' C'' R'' : mm_M} (h : KX C R C' R') (h' : KX C' R' C'' R'') : KX C R C'' R'' := by
  refine ⟨h.1.tr h'.1, fun i hi hc => ?_⟩
  obtain ⟨a1, a2, a3, a4⟩ := h.2 i hi hc
  obtain ⟨b1, b2, b3, b4⟩ := h'.2 i hi a1
  refine ⟨b1, b2.trans a2, b3.trans a3, fun k hk => ?_⟩
  obtain ⟨c1, c2, c3, c4, c5⟩ := a4 k hk
  obtain ⟨d1, d2, d3, d4, d5⟩ := b4 k (by rw [c1]; exact hk)
  exact ⟨d1.trans c1, d2.trans c2, d3.trans c3, d4.trans c4, fun q => (d5 q).trans (c5 q)⟩
theorem LPc.kx {C R C' R' : mm_M} {i : Nat} {a : Int32} (h : LPc C i a) (kx : KX C R C' R') (hi : i < 20) (hc : nI i < C.1 12 0 2) : LPc C' i a ∧ C'.1 17 i a.toNatClampNeg = C.1 17 i a.toNatClampNeg ∧ C'.1 18 i a.toNatClampNeg = C.1 18 i a.toNatClampNeg ∧ C'.2.1 19 i a.toNatClampNeg = C.2.1 19 i a.toNatClampNeg := by
  obtain ⟨c1, c2, c3, -⟩ := (kx.2 i hi hc).2.2.2 _ h
  refine ⟨?_, c1, c2, c3⟩
  unfold LPc
  rw [c1]
  exact h
theorem PS.kx {C R C' R' : mm_M} {i : Nat} {a t : Int32} (h : PS C i a t) (kx : KX C R C' R') (hi : i < 20) (hc : nI i < C.1 12 0 2) : PS C' i a t := by
  obtain ⟨c1, c2, c3, c4⟩ := h.1.kx kx hi hc
  refine ⟨c1, ?_⟩
  rw [c2, c4]
  exact h.2
theorem NC.kx {C R C' R' : mm_M} {i k : Nat} (h : NC C R i k) (kx : KX C R C' R') (hi : i < 20) (hc : nI i < C.1 12 0 2) (hk : k < 60) (hl : ¬ C.1 17 i k = 400) : NC C' R' i k := by
  have kp := kx.1
  obtain ⟨c1, c14, c15, cl⟩ := kx.2 i hi hc
  obtain ⟨l17, l18, l19, l20, l47⟩ := cl k hl
  have r2 := kp.2 2 (by decide)
  have r3 := kp.2 3 (by decide)
  have r4 := kp.2 4 (by decide)
  have r5 := kp.2 5 (by decide)
  have r8 := kp.2 8 (by decide)
  have r9 := kp.2 9 (by decide)
  unfold NC
  rw [r2]
  rcases h with ⟨q, h⟩ | ⟨q, h⟩ | ⟨q, h⟩ | ⟨q, h⟩ | ⟨q, h⟩
  · refine Or.inl ⟨q, ?_⟩
    unfold N1 at *
    rw [r3, c15, l17]
    exact h
  · refine Or.inr (Or.inl ⟨q, ?_⟩)
    obtain ⟨h1, h2, h3⟩ := h
    obtain ⟨a1, a2, a3, a4⟩ := h1.kx kx hi hc
    unfold N13
    rw [r3, r4, r5, a2, a3, a4, l17]
    refine ⟨a1, h2, ?_⟩
    rcases h3 with ⟨h3, h4, h5⟩ | ⟨h3, o, h4, h5, h6, h7⟩
    · exact Or.inl ⟨h3, h4.kx kx hi hc, h5.kx kx hi hc⟩
    · obtain ⟨b1, b2, b3, b4⟩ := h5.kx kx hi hc
      exact Or.inr ⟨h3, o, h4, b1, b2.trans h6, b3.trans h7⟩
  · refine Or.inr (Or.inr (Or.inl ⟨q, ?_⟩))
    unfold N14
    rw [r3, l17]
    exact ⟨(h.1.kx kx hi hc).1, h.2⟩
  · refine Or.inr (Or.inr (Or.inr (Or.inl ⟨q, ?_⟩)))
    obtain ⟨m, h1, h2, h3, h4, h5, h6, h7, h8, h9, h10⟩ := h
    obtain ⟨m1, m14, m15, -⟩ := kx.2 m h1 h2
    refine ⟨m, h1, m1, l20.trans h3, (l47 hk).trans h4, ?_, ?_, ?_, ?_, ?_, ?_⟩
    · rw [m14, r3]
      exact h5
    · rw [r3, r4, r8]
      exact h6
    · rw [r3, r5, r9]
      exact h7
    · rw [r4, m15]
      exact fun z => (h8 z).kx kx hi hc
    · rw [r5, m15]
      exact fun z => (h9 z).kx kx hi hc
    · rw [l17, m14]
      exact h10
  · refine Or.inr (Or.inr (Or.inr (Or.inr ⟨q, ?_⟩)))
    obtain ⟨t, h1, h2, h3, h4, h5⟩ := h
    refine ⟨t, ?_, ?_, h3, ?_, ?_⟩
    · rw [r3]
      exact h1.kx kx hi hc
    · rw [r4]
      exact h2.kx kx hi hc
    · rw [r2]
      exact h4
    · rw [r2, l17]
      exact h5
/-- all that was looked at is closed -/
def CL (C R : mm_M) : Prop := ∀ j, j < 20 → nI j < C.1 12 0 2 → ∀ k, k < 60 → ¬ C.1 17 j k = 400 → s_hasNode C (nI k) = true ∧ (C.1 18 j k = 0 → NC C R j k)
theorem nI_back {n : Int32} (h : vp_in n 60) : nI n.toNatClampNeg = n := by
  have h1 := clamp_i h
  apply Int32.toInt_inj.mp
  rw [nI_ti (by omega)]
  exact h1.1
theorem KX.wr {C R C' R' : mm_M} {j k0 : Nat} (hu : C.1 17 j k0 = 400) (r : ∀ g, g < 17 → C'.1 g = C.1 g) (p : C'.2.2 = C.2.2) (w : ∀ g i k, 17 ≤ g → ¬ (i = j ∧ k = k0) → C'.1 g i k = C.1 g i k) (wl : ∀ i k, ¬ (i = j ∧ k = k0) → C'.2.1 19 i k = C.2.1 19 i k) (r47 : ∀ i k, k < 60 → ¬ (i = j ∧ k = k0) → R'.1 47 0 (60 * i + k) = R.1 47 0 (60 * i + k)) : KX C R C' R' := by
  refine ⟨⟨p, fun f hf => r f (by omega)⟩, fun i hi hc => ⟨by rw [r 12 (by decide)]; exact hc, by rw [r 14 (by decide)], by rw [r 15 (by decide)], fun k hk => ?_⟩⟩
  have q : ¬ (i = j ∧ k = k0) := fun z => hk (by rw [z.1, z.2]; exact hu)
  exact ⟨w 17 i k (by decide) q, w 18 i k (by decide) q, wl i k q, w 20 i k (by decide) q, fun h => r47 i k h q⟩
theorem CL.wr {C R C' R' : mm_M} {j : Nat} {n : Int32} (h : CL C R) (hp : IP C) (hn : s_hasNode C n = true) (hu : C.1 17 j n.toNatClampNeg = 400) (r : ∀ g, g < 17 → C'.1 g = C.1 g) (p : C'.2.2 = C.2.2) (w : ∀ g i k, 17 ≤ g → ¬ (i = j ∧ k = n.toNatClampNeg) → C'.1 g i k = C.1 g i k) (wl : ∀ i k, ¬ (i = j ∧ k = n.toNatClampNeg) → C'.2.1 19 i k = C.2.1 19 i k) (r47 : ∀ i k, k < 60 → ¬ (i = j ∧ k = n.toNatClampNeg) → R'.1 47 0 (60 * i + k) = R.1 47 0 (60 * i + k)) (own : KX C R C' R' → C'.1 18 j n.toNatClampNeg = 0 → NC C' R' j n.toNatClampNeg) : CL C' R' ∧ KX C R C' R' := by
  have kx : KX C R C' R' := KX.wr hu r p w wl r47
  refine ⟨fun i hi hc k hk hl => ?_, kx⟩
  rw [r 12 (by decide)] at hc
  rw [kp_hasNode kx.1]
  by_cases q : i = j ∧ k = n.toNatClampNeg
  · obtain ⟨rfl, rfl⟩ := q
    rw [nI_back (hp.in60 hn)]
    exact ⟨hn, own kx⟩
  · rw [w 17 i k (by decide) q] at hl
    rw [w 18 i k (by decide) q]
    obtain ⟨h1, h2⟩ := h i hi hc k hk hl
    exact ⟨h1, fun z => (h2 z).kx kx hi hc hk hl⟩
/-- the rows of the finds -/
theorem find_w {C : mm_M} {j : Nat} {n t : Int32} : (∀ g, g < 17 → (s_find C j n t).1 g = C.1 g) ∧ (∀ g i k, 17 ≤ g → ¬ (i = j ∧ k = n.toNatClampNeg) → (s_find C j n t).1 g i k = C.1 g i k) ∧ (s_find C j n t).1 17 j n.toNatClampNeg = t ∧ (s_find C j n t).2 = C.2 := by
  refine ⟨fun g hg => mm_u_row' (by omega), fun g i k _ q => ?_, ?_, rfl⟩
  · show mm_u C.1 17 j n.toNatClampNeg t g i k = _
    rw [u3, if_neg (fun z => q z.2)]
  · show mm_u C.1 17 j n.toNatClampNeg t 17 j n.toNatClampNeg = _
    rw [mm_u_own, if_pos rfl]
theorem findK_w {C : mm_M} {j : Nat} {n t : Int32} {x : Int64} : (∀ g, g < 17 → (s_findK C j n t x).1 g = C.1 g) ∧ (∀ g i k, 17 ≤ g → ¬ (i = j ∧ k = n.toNatClampNeg) → (s_findK C j n t x).1 g i k = C.1 g i k) ∧ (s_findK C j n t x).1 18 j n.toNatClampNeg = 1 ∧ (∀ i k, ¬ (i = j ∧ k = n.toNatClampNeg) → (s_findK C j n t x).2.1 19 i k = C.2.1 19 i k) ∧ (s_findK C j n t x).2.2 = C.2.2 := by
  refine ⟨fun g hg => ?_, fun g i k _ q => ?_, ?_, fun i k q => ?_, rfl⟩
  · show mm_u (mm_u C.1 17 j n.toNatClampNeg t) 18 j n.toNatClampNeg 1 g = _
    rw [mm_u_row' (by omega), mm_u_row' (by omega)]
  · show mm_u (mm_u C.1 17 j n.toNatClampNeg t) 18 j n.toNatClampNeg 1 g i k = _
    rw [u3, if_neg (fun z => q z.2), u3, if_neg (fun z => q z.2)]
  · show mm_u (mm_u C.1 17 j n.toNatClampNeg t) 18 j n.toNatClampNeg 1 18 j n.toNatClampNeg = _
    rw [mm_u_own, if_pos rfl]
  · show mm_u C.2.1 19 j n.toNatClampNeg x 19 i k = _
    rw [u3, if_neg (fun z => q z.2)]
theorem findS_w {C : mm_M} {j : Nat} {n o : Int32} : (∀ g, g < 17 → (s_findS C j n o).1 g = C.1 g) ∧ (∀ g i k, 17 ≤ g → ¬ (i = j ∧ k = n.toNatClampNeg) → (s_findS C j n o).1 g i k = C.1 g i k) ∧ (s_findS C j n o).1 17 j n.toNatClampNeg = C.1 17 j o.toNatClampNeg ∧ (s_findS C j n o).1 18 j n.toNatClampNeg = (C.1 18 j o.toNatClampNeg &&& 1) ∧ (∀ i k, ¬ (i = j ∧ k = n.toNatClampNeg) → (s_findS C j n o).2.1 19 i k = C.2.1 19 i k) ∧ (s_findS C j n o).2.2 = C.2.2 := by
  have e : (s_findS C j n o).1 = mm_u (mm_u C.1 17 j n.toNatClampNeg (C.1 17 j o.toNatClampNeg)) 18 j n.toNatClampNeg (C.1 18 j o.toNatClampNeg &&& 1) := rfl
  have e2 : (s_findS C j n o).2.1 = mm_u C.2.1 19 j n.toNatClampNeg (C.2.1 19 j o.toNatClampNeg) := rfl
  rw [e, e2]
  refine ⟨fun g hg => ?_, fun g i k _ q => ?_, ?_, ?_, fun i k q => ?_, rfl⟩
  · rw [mm_u_row' (by omega), mm_u_row' (by omega)]
  · rw [u3, if_neg (fun z => q z.2), u3, if_neg (fun z => q z.2)]
  · rw [mm_u_row' (by decide), mm_u_own, if_pos rfl]
  · rw [mm_u_own, if_pos rfl]
  · rw [u3, if_neg (fun z => q z.2)]
/-- the callees stand on the reference's side -/
def K7 (M M' : mm_M) : Prop := M'.1 47 = M.1 47
theorem K7.rf {M : mm_M} : K7 M M := rfl
theorem K7.tr {M M' M'' : mm_M} (h : K7 M M') (h' : K7 M' M'') : K7 M M'' := Eq.trans h' h
theorem K7.sI {M M' : mm_M} (h : K7 M M') {f i k : Nat} {x : Int32} (hf : 47 ≠ f) : K7 M (mm_sI M' f i k x) := (mm_u_row' hf).trans h
theorem K7.sL {M M' : mm_M} (h : K7 M M') {f i k : Nat} {x : Int64} : K7 M (mm_sL M' f i k x) := h
theorem K7.fail {M M' : mm_M} (h : K7 M M') {e i n : Int32} : K7 M (t_fail M' e i n) := (h.sI (by decide)).sI (by decide)
theorem K7.found {M M' : mm_M} (h : K7 M M') {i n t s : Int32} {x : Int64} : K7 M (t_found M' i n t s x) := (((h.sI (by decide)).sI (by decide)).sI (by decide)).sL
theorem K7.fit {M : mm_M} {i n x y : Int32} : K7 M (t_fit M i n x y).2 := by
  unfold t_fit t_fit2 t_fitE
  repeat' split
  all_goals first | exact K7.rf | exact K7.rf.fail
theorem K7.reck {M : mm_M} {k t : Int32} {x y : Int64} : K7 M (t_reck M k t x y).2 := by
  unfold t_reck t_rk2 t_rk3
  repeat' split
  all_goals first | exact K7.rf | exact K7.rf.sL
theorem K7.lt4 {M M' : mm_M} (h : K7 M M') {i n k t s : Int32} {x : Int64} : K7 M (t_lt4 M' i n k t s x) := by
  unfold t_lt4
  split
  · exact h.found
  · exact h.fail
theorem K7.lookTwo {M : mm_M} {i n k a b : Int32} : K7 M (t_lookTwo M i n k a b) := by
  have hf : K7 M (t_fit M i n a b).2 := K7.fit
  unfold t_lookTwo
  split
  · unfold t_lt2 t_lt3
    repeat' split
    · exact hf.fail
    · exact hf.fail
    · exact hf.sL.lt4
    · exact hf.sL.lt4
    · exact (hf.sL.tr K7.reck).lt4
  · exact hf
theorem K7.lookIf {M : mm_M} {i n a b c : Int32} : K7 M (t_lookIf M i n a b c) := by
  have hf : K7 M (t_fit M i n b c).2 := K7.fit
  unfold t_lookIf
  repeat' split
  all_goals first | exact hf.fail | exact hf.found | exact hf | exact K7.rf.found
theorem K7.lookCast {M : mm_M} {i n a b : Int32} : K7 M (t_lookCast M i n a b) := by
  unfold t_lookCast
  repeat' split
  all_goals first | exact K7.rf.fail | exact K7.rf.found
theorem K7.look {M : mm_M} {i n k a b c : Int32} (h : ¬ k = 15) : K7 M (t_lookK M i n k a b c) := by
  unfold t_lookK t_lookPar t_lookWidth
  repeat' split
  all_goals first | exact K7.rf.fail | exact K7.rf.found | exact K7.lookIf | exact K7.lookCast | exact K7.lookTwo | exact absurd (by assumption) h
theorem K7.needs {M : mm_M} {i n : Int32} : K7 M (t_needs M i n).2 := by
  unfold t_needs t_needs13 t_needs15
  repeat' split
  all_goals first | exact K7.rf | exact K7.rf.fail
theorem K7.want {M : mm_M} {i n f : Int32} {v w : Int64} : K7 M (t_want M i n f v w).2 := by
  have key : ∀ {v0 v1 : Int32} {c : Nat} (r : Nat), K7 M (t_wantL M i n f v w v0 v1 c r).2 := fun {v0 v1 c} r => by
    induction r with
    | zero =>
      have hw : K7 M (t_wantW M f v w v0 v1 c) := (((K7.rf.sI (by decide)).sI (by decide)).sI (by decide)).sL.sL
      generalize hW : t_wantW M f v w v0 v1 c = W at hw
      have e0 : t_wantL M i n f v w v0 v1 c 0 = if c = 20 then (-1, t_fail M (-7) i n) else t_wantB W i n f c := by
        rw [← hW]
        rfl
      rw [e0]
      clear e0 hW
      split
      · with_reducible exact K7.rf.fail
      · unfold t_wantB
        repeat' split
        all_goals first | with_reducible exact hw.fail | exact ((wE_rows (M := t_clr c 60 W) (c := c)).1 47 (by decide)).trans (Eq.trans ((clr_keep (c := c) 60 W).2 47 (by decide)) hw)
    | succ r ih =>
      unfold t_wantL
      split
      · exact K7.rf
      · exact ih
  exact key _
/-- what want leaves unlooked -/
theorem want_un {C : mm_M} {f : Int32} {v w : Int64} {c : Nat} (ec : C.1 12 0 2 = nI c) (hc : c ≤ 20) {i k : Nat} (hi : i < 20) (hk : k < 60) (h1 : nI i < (s_wantR C f v w c c).2.1 12 0 2) (h2 : ¬ (s_wantR C f v w c c).2.1 17 i k = 400) : i < c := by
  have row := begM_row (C := C) (c := c) (f := f) (v := v) (w := w)
  have new : ∀ b, b < 60 → (s_begM C c f v w).1 17 c b = 400 := fun b hb => by
    obtain ⟨d1, -, -, -⟩ := s_clr_at (i := c) 60 (s_beg0 C c f v w) (Nat.le_refl _)
    have eB : s_begM C c f v w = s_beg4 (s_beg3 (s_beg2 (s_beg1 (s_clr c 60 (s_beg0 C c f v w)) c f) c) c) c f := by
      unfold s_begM
      rfl
    rw [eB]
    generalize s_clr c 60 (s_beg0 C c f v w) = X at *
    rw [beg4_k.1 17 (by decide), beg3_k.1 17 (by decide), beg2_k.1 17 (by decide), beg1_k.1 17 (by decide), d1, if_pos ⟨rfl, by omega, hb⟩]
  have lt : ∀ {d : Nat}, d < 2 ^ 31 → nI i < nI d → i < d := fun {d} hd z => Nat.not_le.mp fun y => absurd z (nI_nlt y (by omega))
  unfold s_wantR at h1 h2
  cases hL : s_wantL C f v w c c with
  | some m =>
    rw [hL] at h1
    have h1 : nI i < C.1 12 0 2 := h1
    rw [ec] at h1
    exact lt (by omega) h1
  | none =>
    rw [hL] at h1 h2
    have h1 : nI i < (s_wantN C f v w c).2.1 12 0 2 := h1
    have h2 : ¬ (s_wantN C f v w c).2.1 17 i k = 400 := h2
    unfold s_wantN at h1 h2
    by_cases hlt : c < 20
    · rw [if_pos hlt] at h1 h2
      by_cases q : s_beg C c f v w = true
      · rw [if_pos q] at h1 h2
        have r1 := sI_rows (M := s_begM C c f v w) (x := (s_begM C c f v w).1 12 0 2 + 1)
        have h1 : nI i < (mm_sI (s_begM C c f v w) 12 0 2 ((s_begM C c f v w).1 12 0 2 + 1)).1 12 0 2 := h1
        have h2 : ¬ (mm_sI (s_begM C c f v w) 12 0 2 ((s_begM C c f v w).1 12 0 2 + 1)).1 17 i k = 400 := h2
        rw [r1.2.1, if_pos rfl, row.2 12 (by decide), ec, nI_1] at h1
        rw [r1.1 17 (by decide)] at h2
        have := lt (by omega) h1
        by_cases e : i = c
        · rw [e] at h2
          exact absurd (new k hk) h2
        · omega
      · rw [if_neg q] at h1
        have h1 : nI i < (s_begM C c f v w).1 12 0 2 := h1
        rw [row.2 12 (by decide), ec] at h1
        exact lt (by omega) h1
    · rw [if_neg hlt] at h1
      have h1 : nI i < C.1 12 0 2 := h1
      rw [ec] at h1
      exact lt (by omega) h1
theorem passes_ps {C : mm_M} {j : Nat} {p a t : Int32} (la : LPc C j a) (h : (s_passes C j p a t).1 = true) : PS C j a t ∧ (s_passes C j p a t).2 = C := by
  have F : ∀ {q : Prop}, (false : Bool) = true → q := fun z => absurd z (by decide)
  unfold s_passes at h ⊢
  by_cases q1 : C.1 17 j a.toNatClampNeg = t
  · rw [if_pos q1]
    exact ⟨⟨la, Or.inl q1⟩, rfl⟩
  rw [if_neg q1] at h ⊢
  by_cases q2 : C.1 17 j a.toNatClampNeg = 300
  · have q2' : ¬ ¬ C.1 17 j a.toNatClampNeg = 300 := fun z => z q2
    rw [if_neg q2'] at h ⊢
    by_cases q3 : s_isInt t = false
    · rw [if_pos q3] at h
      exact F h
    rw [if_neg q3] at h ⊢
    by_cases q4 : s_holds t (C.2.1 19 j a.toNatClampNeg) = true
    · rw [if_pos q4]
      exact ⟨⟨la, Or.inr ⟨q2, by simpa using q3, q4⟩⟩, rfl⟩
    · rw [if_neg q4] at h
      exact F h
  · rw [if_pos q2] at h
    exact F h
