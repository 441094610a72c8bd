/-! running, on both sides -/
/-- so many steps lead from X to Y -/
def RE (X : mm_M) (s : Nat) (Y : mm_M) : Prop := ∀ g, t_steps (s + g) X = t_steps g Y ∧ (TS g Y → TS (s + g) X)
theorem RE.rf {X : mm_M} : RE X 0 X := fun g => by
  rw [Nat.zero_add]
  exact ⟨rfl, id⟩
theorem RE.tr {X Y Z : mm_M} {s s' : Nat} (h : RE X s Y) (h' : RE Y s' Z) : RE X (s + s') Z := fun g => by
  rw [Nat.add_assoc]
  exact ⟨(h _).1.trans (h' g).1, fun z => (h _).2 ((h' g).2 z)⟩
theorem RE.one {X : mm_M} (h1 : 0 < X.1 30 0 30) (h2 : X.2.1 30 0 34 = 0) (h3 : SS X) : RE X 1 (t_step X) := fun g => by
  rw [Nat.add_comm 1 g, t_steps_s, if_pos ⟨h1, h2⟩]
  refine ⟨rfl, fun z => ?_⟩
  rw [TS]
  exact fun _ _ => ⟨h3, z⟩
/-- below depth d and up to frame u all stands -/
def KB (d u : Nat) (R R' : mm_M) : Prop := (∀ k, k < d → R'.1 50 0 k = R.1 50 0 k ∧ R'.1 51 0 k = R.1 51 0 k ∧ R'.2.1 54 0 k = R.2.1 54 0 k) ∧ ∀ k, k ≤ u → R'.1 49 0 k = R.1 49 0 k ∧ R'.2.1 52 0 k = R.2.1 52 0 k ∧ R'.2.1 53 0 k = R.2.1 53 0 k
theorem KB.rf {d u : Nat} {R : mm_M} : KB d u R R := ⟨fun _ _ => ⟨rfl, rfl, rfl⟩, fun _ _ => ⟨rfl, rfl, rfl⟩⟩
theorem KB.tr {d u : Nat} {R R' R'' : mm_M} (h : KB d u R R') (h' : KB d u R' R'') : KB d u R R'' := by
  refine ⟨fun k hk => ?_, fun k hk => ?_⟩
  · obtain ⟨a1, a2, a3⟩ := h.1 k hk
    obtain ⟨b1, b2, b3⟩ := h'.1 k hk
    exact ⟨b1.trans a1, b2.trans a2, b3.trans a3⟩
  · obtain ⟨a1, a2, a3⟩ := h.2 k hk
    obtain ⟨b1, b2, b3⟩ := h'.2 k hk
    exact ⟨b1.trans a1, b2.trans a2, b3.trans a3⟩
theorem KB.le {d u d' u' : Nat} {R R' : mm_M} (h : KB d u R R') (hd : d' ≤ d) (hu : u' ≤ u) : KB d' u' R R' := ⟨fun k hk => h.1 k (by omega), fun k hk => h.2 k (by omega)⟩
/-- where the reference's machine is -/
def WS (X : mm_M) (d u e : Nat) : Prop := X.1 30 0 30 = nI d ∧ X.1 30 0 31 = nI u ∧ X.2.1 30 0 34 = 0 ∧ X.1 30 0 32 = nI e
/-- what becomes of a run from X -/
def OUT (C R0 : mm_M) (d u e b : Nat) (R X : mm_M) (r : Int64 × mm_M) (P : Int64 → Prop) : Prop := ∃ s e' Y, RE X s Y ∧ KZ R0 Y ∧ KM C r.2 ∧ e ≤ e' ∧ s ≤ 4 * (e' - e) + b ∧ e' ≤ 3001 ∧ Y.1 30 0 4 = r.2.1 21 0 3 ∧ ((s_isTrap r.1 = true ∧ Y.2.1 30 0 34 = r.1) ∨ (s_isTrap r.1 = false ∧ P r.1 ∧ Y.2.1 30 0 33 = r.1 ∧ r.2.1 21 0 2 = nI e' ∧ e' ≤ 3000 ∧ WS Y d u e' ∧ KB d u R Y))
theorem OUT.step {C R0 : mm_M} {d u e b : Nat} {R X X' : mm_M} {r : Int64 × mm_M} {P : Int64 → Prop} (h1 : 0 < X.1 30 0 30) (h2 : X.2.1 30 0 34 = 0) (h3 : SS X) (hs : t_step X = X') (h : OUT C R0 d u e b R X' r P) : OUT C R0 d u e (b + 1) R X r P := by
  obtain ⟨s, e', Y, a1, a2, a3, a4, a5, a6, a7, a8⟩ := h
  have o := RE.one h1 h2 h3
  rw [hs] at o
  exact ⟨1 + s, e', Y, o.tr a1, a2, a3, a4, by omega, a6, a7, a8⟩
theorem OUT.sub {C R0 : mm_M} {d u d1 u1 e b : Nat} {R R1 X : mm_M} {r : Int64 × mm_M} {k : Int64 → mm_M → Int64 × mm_M} {P Q : Int64 → Prop} (h : OUT C R0 d1 u1 e 0 R1 X r P)
    (hk : ∀ e' Y, KZ R0 Y → KM C r.2 → e ≤ e' → e' ≤ 3000 → Y.1 30 0 4 = r.2.1 21 0 3 → s_isTrap r.1 = false → P r.1 → Y.2.1 30 0 33 = r.1 → r.2.1 21 0 2 = nI e' → WS Y d1 u1 e' → KB d1 u1 R1 Y → OUT C R0 d u e' b R Y (k r.1 r.2) Q) : OUT C R0 d u e b R X (s_tr r k) Q := by
  obtain ⟨s, e', Y, a1, a2, a3, a4, a5, a6, a7, a8⟩ := h
  unfold s_tr
  rcases a8 with ⟨t1, t2⟩ | ⟨t1, t2, t3, t4, t5, t6, t7⟩
  · rw [if_pos t1]
    exact ⟨s, e', Y, a1, a2, a3, a4, by omega, a6, a7, Or.inl ⟨t1, t2⟩⟩
  · rw [if_neg (by rw [t1]; decide)]
    obtain ⟨s', e'', Z, b1, b2, b3, b4, b5, b6, b7, b8⟩ := hk e' Y a2 a3 a4 t5 a7 t1 t2 t3 t4 t6 t7
    exact ⟨s + s', e'', Z, a1.tr b1, b2, b3, by omega, by omega, b6, b7, b8⟩
theorem s_tr_id {r : Int64 × mm_M} : s_tr r (fun z M => (z, M)) = r := by
  unfold s_tr
  split <;> rfl
theorem OUT.mono {C R0 : mm_M} {d u e b b' : Nat} {R X : mm_M} {r : Int64 × mm_M} {P : Int64 → Prop} (h : OUT C R0 d u e b R X r P) (hb : b ≤ b') : OUT C R0 d u e b' R X r P := by
  obtain ⟨s, e', Y, a1, a2, a3, a4, a5, a6, a7, a8⟩ := h
  exact ⟨s, e', Y, a1, a2, a3, a4, by omega, a6, a7, a8⟩
/-- the node itself was counted -/
theorem OUT.ent {C R0 : mm_M} {d u e : Nat} {R X : mm_M} {r : Int64 × mm_M} {P : Int64 → Prop} (h : OUT C R0 d u (e + 1) 4 R X r P) : OUT C R0 d u e 0 R X r P := by
  obtain ⟨s, e', Y, a1, a2, a3, a4, a5, a6, a7, a8⟩ := h
  exact ⟨s, e', Y, a1, a2, a3, by omega, by omega, a6, a7, a8⟩
/-- a trap -/
theorem OUT.trap {C R0 : mm_M} {d u e b : Nat} {R X M : mm_M} {v : Int64} {P : Int64 → Prop} (hZ : KZ R0 X) (hM : KM C M) (he : e ≤ 3001) (hc : X.1 30 0 4 = M.1 21 0 3) (ht : s_isTrap v = true) (hv : X.2.1 30 0 34 = v) : OUT C R0 d u e b R X (v, M) P := ⟨0, e, X, RE.rf, hZ, hM, Nat.le_refl _, by omega, he, hc, Or.inl ⟨ht, hv⟩⟩
/-- a value -/
theorem OUT.val {C R0 : mm_M} {d u e b : Nat} {R X M : mm_M} {v : Int64} {P : Int64 → Prop} (hZ : KZ R0 X) (hM : KM C M) (he : e ≤ 3000) (hc : X.1 30 0 4 = M.1 21 0 3) (ht : s_isTrap v = false) (hP : P v) (hv : X.2.1 30 0 33 = v) (hn : M.1 21 0 2 = nI e) (hW : WS X d u e) (hK : KB d u R X) : OUT C R0 d u e b R X (v, M) P := ⟨0, e, X, RE.rf, hZ, hM, Nat.le_refl _, by omega, by omega, hc, Or.inr ⟨ht, hP, hv, hn, he, hW, hK⟩⟩
/-- the arguments of a frame -/
def ARG (C X : mm_M) (j u : Nat) (x y : Int64) : Prop := (s_isRun C j 0 = true → X.2.1 52 0 u = x ∧ s_holds (C.1 15 j 0) x = true) ∧ (s_isRun C j 1 = true → X.2.1 53 0 u = y ∧ s_holds (C.1 15 j 1) y = true)
/-- the reference's machine at a node -/
def ATN (C R0 R X : mm_M) (d u e j : Nat) (n p : Int32) (x y : Int64) (c : Int32) : Prop := KZ R0 X ∧ WS X (d + 1) u e ∧ X.1 50 0 d = n ∧ X.1 51 0 d = p ∧ KB d u R X ∧ X.1 49 0 u = nI j ∧ ARG C X j u x y ∧ X.1 30 0 4 = c
theorem nI_d {d : Nat} (h : d < 100) : (nI (d + 1) - 1).toNatClampNeg = d := by
  rw [nI_p, nI_clamp (by omega)]
theorem sp_rows {X : mm_M} {q : Int32} {d : Nat} (e : (X.1 30 0 30 - 1).toNatClampNeg = d) : (∀ g, g ≠ 51 → (t_sp X q).1 g = X.1 g) ∧ (∀ k, (t_sp X q).1 51 0 k = if k = d then q else X.1 51 0 k) ∧ (t_sp X q).2 = X.2 := by
  unfold t_sp
  rw [e]
  refine ⟨fun g hg => mm_u_row' hg, fun k => ?_, rfl⟩
  show mm_u X.1 51 0 d q 51 0 k = _
  rw [mm_u_own]
theorem pA_rows {X : mm_M} {d : Nat} (e : (X.1 30 0 30 - 1).toNatClampNeg = d) : (t_pA X).1 = X.1 ∧ (∀ g, g ≠ 54 → (t_pA X).2.1 g = X.2.1 g) ∧ (∀ k, (t_pA X).2.1 54 0 k = if k = d then X.2.1 30 0 33 else X.2.1 54 0 k) := by
  unfold t_pA
  rw [e]
  refine ⟨rfl, fun g hg => mm_u_row' hg, fun k => ?_⟩
  show mm_u X.2.1 54 0 d _ 54 0 k = _
  rw [mm_u_own]
theorem ATN.ix {C R0 R X : mm_M} {d u e j : Nat} {n p : Int32} {x y : Int64} {c : Int32} (h : ATN C R0 R X d u e j n p x y c) (hd : d < 100) : (X.1 30 0 30 - 1).toNatClampNeg = d := by
  rw [h.2.1.1]
  exact nI_d hd
theorem ATN.sp {C R0 R X : mm_M} {d u e j : Nat} {n p q : Int32} {x y : Int64} {c : Int32} (h : ATN C R0 R X d u e j n p x y c) (hd : d < 100) : ATN C R0 R (t_sp X q) d u e j n q x y c ∧ (t_sp X q).2 = X.2 := by
  obtain ⟨r1, r2, r3⟩ := sp_rows (q := q) (h.ix hd)
  obtain ⟨hZ, hW, h50, h51, hK, h49, hA, hc⟩ := h
  have hZ' : KZ R0 (t_sp X q) := hZ.sI (Or.inl (by decide))
  generalize t_sp X q = X' at *
  refine ⟨⟨hZ', ⟨by rw [r1 30 (by decide)]; exact hW.1, by rw [r1 30 (by decide)]; exact hW.2.1, by rw [r3]; exact hW.2.2.1, by rw [r1 30 (by decide)]; exact hW.2.2.2⟩, by rw [r1 50 (by decide)]; exact h50, by rw [r2, if_pos rfl], hK.tr ⟨fun k hk => ⟨by rw [r1 50 (by decide)], by rw [r2, if_neg (by omega)], by rw [r3]⟩, fun k hk => ⟨by rw [r1 49 (by decide)], by rw [r3], by rw [r3]⟩⟩, by rw [r1 49 (by decide)]; exact h49, ?_, by rw [r1 30 (by decide)]; exact hc⟩, r3⟩
  unfold ARG at *
  rw [r3]
  exact hA
theorem ATN.pA {C R0 R X : mm_M} {d u e j : Nat} {n p : Int32} {x y : Int64} {c : Int32} (h : ATN C R0 R X d u e j n p x y c) (hd : d < 100) : ATN C R0 R (t_pA X) d u e j n p x y c ∧ (t_pA X).2.1 54 0 d = X.2.1 30 0 33 ∧ (t_pA X).2.1 30 = X.2.1 30 := by
  obtain ⟨r1, r2, r3⟩ := pA_rows (h.ix hd)
  obtain ⟨hZ, hW, h50, h51, hK, h49, hA, hc⟩ := h
  have hZ' : KZ R0 (t_pA X) := hZ.sL (Or.inl (by decide))
  generalize t_pA X = X' at *
  refine ⟨⟨hZ', ⟨by rw [r1]; exact hW.1, by rw [r1]; exact hW.2.1, by rw [r2 30 (by decide)]; exact hW.2.2.1, by rw [r1]; exact hW.2.2.2⟩, by rw [r1]; exact h50, by rw [r1]; exact h51, hK.tr ⟨fun k hk => ⟨by rw [r1], by rw [r1], by rw [r3, if_neg (by omega)]⟩, fun k hk => ⟨by rw [r1], by rw [r2 52 (by decide)], by rw [r2 53 (by decide)]⟩⟩, by rw [r1]; exact h49, ?_, by rw [r1]; exact hc⟩, by rw [r3, if_pos rfl], r2 30 (by decide)⟩
  unfold ARG at *
  rw [r2 52 (by decide), r2 53 (by decide)]
  exact hA
/-- back from a node above -/
theorem ATN.ret {C R0 R X Y : mm_M} {d u e e' j : Nat} {n p : Int32} {x y : Int64} {c c' : Int32} (h : ATN C R0 R X d u e j n p x y c) (hZ : KZ R0 Y) (hW : WS Y (d + 1) u e') (hK : KB (d + 1) u X Y) (hc : Y.1 30 0 4 = c') : ATN C R0 R Y d u e' j n p x y c' ∧ Y.2.1 54 0 d = X.2.1 54 0 d := by
  obtain ⟨-, -, h50, h51, hK0, h49, hA, -⟩ := h
  obtain ⟨k1, k2, k3⟩ := hK.1 d (by omega)
  obtain ⟨l1, l2, l3⟩ := hK.2 u (Nat.le_refl _)
  refine ⟨⟨hZ, hW, k1.trans h50, k2.trans h51, hK0.tr (hK.le (by omega) (Nat.le_refl _)), l1.trans h49, ?_, hc⟩, k3⟩
  unfold ARG at *
  rw [l2, l3]
  exact hA
/-- the value of a node -/
def VL (C : mm_M) (j : Nat) (n : Int32) (v : Int64) : Prop := s_holds (C.1 17 j n.toNatClampNeg) v = true ∧ (¬ C.1 18 j n.toNatClampNeg = 0 → v = C.2.1 19 j n.toNatClampNeg)
theorem VL.ps {C : mm_M} {j : Nat} {n t : Int32} {v : Int64} (h : VL C j n v) (hp : PS C j n t) (hw : WN C j n.toNatClampNeg) : s_holds t v = true := by
  rcases hp.2 with q | ⟨q1, q2, q3⟩
  · rw [← q]
    exact h.1
  · have k := (hw.2.2 hp.1).2.1 q1
    rw [h.2 (by rw [k]; decide)]
    exact q3
/-- what stands while running -/
def SR (C R0 : mm_M) : Prop := SC C R0 ∧ CB C R0 ∧ IP C ∧ IQ C ∧ R0.2.2 = mm_gd ∧ SP R0
theorem SR.ip {C R0 X : mm_M} (h : SR C R0) (hZ : KZ R0 X) : IP X := by
  have k : KP (C.1, C.2.1, R0.2.2) R0 := ⟨rfl, fun f hf => h.1.1 f hf⟩
  have p : IP (C.1, C.2.1, R0.2.2) := h.2.2.1
  exact (p.kp k).kp hZ.kp
theorem SR.row {C R0 X : mm_M} (h : SR C R0) (hZ : KZ R0 X) (f : Nat) (hf : f < 12) : X.1 f = C.1 f := (hZ.2.1 f (by omega) (by omega)).1.trans (h.1.1 f hf)
theorem SR.at {C R0 X : mm_M} {j : Nat} {a : Int32} (h : SR C R0) (hZ : KZ R0 X) (hj : j < 20) (hc : nI j < C.1 12 0 2) (ha : vp_in a 60) (hl : LPc C j a) : t_at X 46 (nI j) a = C.1 17 j a.toNatClampNeg ∧ t_at X 45 (nI j) a = C.1 18 j a.toNatClampNeg ∧ (C.1 18 j a.toNatClampNeg = 1 → t_val X (nI j) a = C.2.1 19 j a.toNatClampNeg) ∧ t_at X 47 (nI j) a = R0.1 47 0 (60 * j + a.toNatClampNeg) ∧ WN C j a.toNatClampNeg := by
  obtain ⟨-, r, w⟩ := h.1.rd hj hc ha
  obtain ⟨r1, r2, r3⟩ := r hl
  unfold t_at t_val at *
  rw [(hZ.2.1 46 (by decide) (by decide)).1, (hZ.2.1 45 (by decide) (by decide)).1, (hZ.2.1 48 (by decide) (by decide)).2, (hZ.2.1 47 (by decide) (by decide)).1]
  exact ⟨r1, r2, r3, by rw [ix_eq hj ha], w⟩
theorem ATN.ins {C R0 R X : mm_M} {d u e j : Nat} {n p : Int32} {x y : Int64} {c : Int32} (h : ATN C R0 R X d u e j n p x y c) (hu : u < 100) : t_ins X = nI j := by
  unfold t_ins
  rw [h.2.1.2.1, nI_clamp (by omega)]
  exact h.2.2.2.2.2.1
theorem ATN.n {C R0 R X : mm_M} {d u e j : Nat} {n p : Int32} {x y : Int64} {c : Int32} (h : ATN C R0 R X d u e j n p x y c) (hd : d < 100) : t_n X = n ∧ t_ph X = p := by
  unfold t_n t_ph
  rw [h.ix hd]
  exact ⟨h.2.2.1, h.2.2.2.1⟩
theorem ATN.pos {C R0 R X : mm_M} {d u e j : Nat} {n p : Int32} {x y : Int64} {c : Int32} (h : ATN C R0 R X d u e j n p x y c) (hd : d < 100) : 0 < X.1 30 0 30 ∧ X.2.1 30 0 34 = 0 := by
  refine ⟨?_, h.2.1.2.2.1⟩
  rw [h.2.1.1, Int32.lt_iff_toInt_lt, nI_ti (by omega), Int32.toInt_zero]
  omega
theorem ATN.cm {C R0 R X : mm_M} {d u e j : Nat} {n p : Int32} {x y : Int64} {c : Int32} (h : ATN C R0 R X d u e j n p x y c) (hR : SR C R0) (hd : d < 60) (hu : u ≤ 5) (hj : j < 20) (hn : s_hasNode C n = true) : CM X n := by
  have hZ := h.1
  have e30 := h.2.1.1
  have e31 := h.2.1.2.1
  have e49 := h.2.2.2.2.2.1
  refine ⟨hZ.1.trans hR.2.2.2.2.1, hR.ip hZ, hZ.sp hR.2.2.2.2.2, ?_, ?_, ?_, ?_, ?_⟩
  · unfold s_hasNode at hn ⊢
    rw [hR.row hZ 1 (by decide)]
    exact hn
  · rw [e31]
    exact vp_in_nI (by omega) (by decide)
  · rw [e31, nI_clamp (by omega), e49]
    exact vp_in_nI hj (by decide)
  · rw [e30, nI_p]
    exact vp_in_nI (by omega) (by decide)
  · rw [e30]
    exact vp_in_nI (by omega) (by decide)
/-- leaving a node -/
theorem OUT.leave {C R0 : mm_M} {d u e b j : Nat} {R X M : mm_M} {n p : Int32} {x y v : Int64} {c : Int32} {P : Int64 → Prop} (h : ATN C R0 R X d u e j n p x y c) (hd : d < 100) (hM : KM C M) (he : e ≤ 3000) (hc : c = M.1 21 0 3) (ht : s_isTrap v = false) (hP : P v) (hn : M.1 21 0 2 = nI e) : OUT C R0 d u e b R (t_leave X v) (v, M) P := by
  obtain ⟨hZ, hW, h50, h51, hK, h49, hA, hcc⟩ := h
  have r1 : ∀ g, g ≠ 30 → (t_leave X v).1 g = X.1 g := fun g hg => mm_u_row' hg
  have r2 : ∀ k, (t_leave X v).1 30 0 k = if k = 30 then X.1 30 0 30 - 1 else X.1 30 0 k := fun k => by
    show mm_u X.1 30 0 30 _ 30 0 k = _
    rw [mm_u_own]
  have r3 : ∀ g, g ≠ 30 → (t_leave X v).2.1 g = X.2.1 g := fun g hg => mm_u_row' hg
  have r4 : ∀ k, (t_leave X v).2.1 30 0 k = if k = 33 then v else X.2.1 30 0 k := fun k => by
    show mm_u X.2.1 30 0 33 _ 30 0 k = _
    rw [mm_u_own]
  have hZ' : KZ R0 (t_leave X v) := hZ.leave
  generalize t_leave X v = Y at *
  refine OUT.val hZ' hM he (by rw [r2, if_neg (by decide)]; exact hcc.trans hc) ht hP (by rw [r4, if_pos rfl]) hn ⟨?_, ?_, ?_, ?_⟩ (hK.tr ⟨fun k hk => ⟨by rw [r1 50 (by decide)], by rw [r1 51 (by decide)], by rw [r3 54 (by decide)]⟩, fun k hk => ⟨by rw [r1 49 (by decide)], by rw [r3 52 (by decide)], by rw [r3 53 (by decide)]⟩⟩)
  · rw [r2, if_pos rfl, hW.1, nI_p]
  · rw [r2, if_neg (by decide)]
    exact hW.2.1
  · rw [r4, if_neg (by decide)]
    exact hW.2.2.1
  · rw [r2, if_neg (by decide)]
    exact hW.2.2.2
