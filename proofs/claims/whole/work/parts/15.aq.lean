/-! running as a function on the memory -/
def s_tr (r : Int64 × mm_M) (k : Int64 → mm_M → Int64 × mm_M) : Int64 × mm_M := if s_isTrap r.1 = true then r else k r.1 r.2
abbrev mm_Rn : Type := mm_M → Nat → Int32 → Int64 → Int64 → Int32 → Int64 × mm_M
def s_rP3 (M : mm_M) (j : Nat) (n : Int32) (z t : Int64) : Int64 × mm_M := (s_work (M.1 2 0 n.toNatClampNeg) (M.1 17 j n.toNatClampNeg) z t, M)
def s_rP2 (rn : mm_Rn) (M : mm_M) (j : Nat) (n : Int32) (x y : Int64) (u : Int32) (z : Int64) : Int64 × mm_M := s_tr (rn M j (M.1 4 0 n.toNatClampNeg) x y u) fun t M2 => s_rP3 M2 j n z t
def s_rPair (rn : mm_Rn) (M : mm_M) (j : Nat) (n : Int32) (x y : Int64) (u : Int32) : Int64 × mm_M := s_tr (rn M j (M.1 3 0 n.toNatClampNeg) x y u) fun z M1 => s_rP2 rn M1 j n x y u z
def s_rI2 (rn : mm_Rn) (M : mm_M) (j : Nat) (n : Int32) (x y : Int64) (u : Int32) (z : Int64) : Int64 × mm_M := rn M j (if z = 0 then M.1 5 0 n.toNatClampNeg else M.1 4 0 n.toNatClampNeg) x y u
def s_rI1 (rn : mm_Rn) (M : mm_M) (j : Nat) (a : Int32) (x y : Int64) (u : Int32) : Int64 × mm_M := if M.1 18 j a.toNatClampNeg = 0 then rn M j a x y u else (M.2.1 19 j a.toNatClampNeg, M)
def s_rIf (rn : mm_Rn) (M : mm_M) (j : Nat) (n : Int32) (x y : Int64) (u : Int32) : Int64 × mm_M := s_tr (s_rI1 rn M j (M.1 3 0 n.toNatClampNeg) x y u) fun z M1 => s_rI2 rn M1 j n x y u z
def s_rCast (rn : mm_Rn) (M : mm_M) (j : Nat) (n : Int32) (x y : Int64) (u : Int32) : Int64 × mm_M := s_tr (rn M j (M.1 3 0 n.toNatClampNeg) x y u) fun z M1 => (s_checked (M1.1 17 j n.toNatClampNeg) z, M1)
def s_rA (rn : mm_Rn) (M : mm_M) (j c : Nat) (k a : Int32) (x y : Int64) (u : Int32) : Int64 × mm_M := if s_isRun M c k = true then rn M j a x y u else (0, M)
def s_rC3 (rn : mm_Rn) (M : mm_M) (c : Nat) (u : Int32) (p q : Int64) : Int64 × mm_M := rn (mm_sI M 21 0 3 (M.1 21 0 3 + 1)) c (M.1 11 0 (M.1 14 c 0).toNatClampNeg) p q (u + 1)
def s_rC2 (rn : mm_Rn) (M : mm_M) (j c : Nat) (n : Int32) (x y : Int64) (u : Int32) (p : Int64) : Int64 × mm_M := s_tr (s_rA rn M j c 1 (M.1 5 0 n.toNatClampNeg) x y u) fun q M2 => s_rC3 rn M2 c u p q
def s_rC1 (rn : mm_Rn) (M : mm_M) (j c : Nat) (n : Int32) (x y : Int64) (u : Int32) : Int64 × mm_M := s_tr (s_rA rn M j c 0 (M.1 4 0 n.toNatClampNeg) x y u) fun p M1 => s_rC2 rn M1 j c n x y u p
def s_rCall (rn : mm_Rn) (M : mm_M) (j : Nat) (n : Int32) (x y : Int64) (u : Int32) : Int64 × mm_M := if u < 5 then s_rC1 rn M j (M.1 20 j n.toNatClampNeg).toNatClampNeg n x y u else (1000000000000003, M)
def s_rk (rn : mm_Rn) (M : mm_M) (j : Nat) (n : Int32) (x y : Int64) (u : Int32) : Int64 × mm_M :=
  if M.1 18 j n.toNatClampNeg = 0 then (if M.1 2 0 n.toNatClampNeg = 1 then (if M.1 3 0 n.toNatClampNeg = 0 then x else y, M) else if M.1 2 0 n.toNatClampNeg = 13 then s_rIf rn M j n x y u else if M.1 2 0 n.toNatClampNeg = 14 then s_rCast rn M j n x y u else if M.1 2 0 n.toNatClampNeg = 15 then s_rCall rn M j n x y u else s_rPair rn M j n x y u)
  else (M.2.1 19 j n.toNatClampNeg, M)
def s_rn : Nat → mm_Rn
  | 0, M, _, _, _, _, _ => (0, M)
  | F + 1, M, j, n, x, y, u => if M.1 21 0 2 < 3000 then s_rk (s_rn F) (mm_sI M 21 0 2 (M.1 21 0 2 + 1)) j n x y u else (1000000000000004, M)
/-- all but the machine's counters stand -/
def KM (M M' : mm_M) : Prop := M'.2 = M.2 ∧ ∀ f, f ≠ 21 → M'.1 f = M.1 f
theorem KM.rf {M : mm_M} : KM M M := ⟨rfl, fun _ _ => rfl⟩
theorem KM.tr {M M' M'' : mm_M} (h : KM M M') (h' : KM M' M'') : KM M M'' := ⟨h'.1.trans h.1, fun f hf => (h'.2 f hf).trans (h.2 f hf)⟩
theorem KM.s {M : mm_M} {i k : Nat} {x : Int32} : KM M (mm_sI M 21 i k x) := by
  refine ⟨rfl, fun g hg => ?_⟩
  funext b
  exact mm_u_row (fun q => by omega)
theorem KM.str {M : mm_M} {r : Int64 × mm_M} {k : Int64 → mm_M → Int64 × mm_M} (h : KM M r.2) (hk : ∀ z M', KM M' (k z M').2) : KM M (s_tr r k).2 := by
  unfold s_tr
  split
  · exact h
  · exact h.tr (hk _ _)
theorem KM.rn : ∀ (F : Nat) (M : mm_M) (j : Nat) (n : Int32) (x y : Int64) (u : Int32), KM M (s_rn F M j n x y u).2
  | 0, _, _, _, _, _, _ => KM.rf
  | F + 1, M, j, n, x, y, u => by
    have ih := KM.rn F
    unfold s_rn
    split
    · refine (KM.s (M := M) (i := 0) (k := 2) (x := M.1 21 0 2 + 1)).tr ?_
      unfold s_rk
      repeat' split
      · exact KM.rf
      · exact KM.rf
      · unfold s_rIf
        refine KM.str ?_ fun z M' => ih _ _ _ _ _ _
        unfold s_rI1
        split
        · exact ih _ _ _ _ _ _
        · exact KM.rf
      · exact KM.str (ih _ _ _ _ _ _) fun z M' => KM.rf
      · unfold s_rCall
        split
        · refine KM.str ?_ fun z M' => KM.str ?_ fun z' M'' => ?_
          · unfold s_rA
            split
            · exact ih _ _ _ _ _ _
            · exact KM.rf
          · unfold s_rA
            split
            · exact ih _ _ _ _ _ _
            · exact KM.rf
          · exact (KM.s (M := M'') (i := 0) (k := 3) (x := M''.1 21 0 3 + 1)).tr (ih _ _ _ _ _ _)
        · exact KM.rf
      · exact KM.str (ih _ _ _ _ _ _) fun z M' => KM.str (ih _ _ _ _ _ _) fun z' M'' => KM.rf
      · exact KM.rf
    · exact KM.rf
/-- node n of the program was looked at in instance j -/
def RN (M : mm_M) (j : Nat) (n : Int32) : Prop := s_hasNode M n = true ∧ s_was M j n = true
/-- what a run needs of the instances -/
def RM (M : mm_M) : Prop := ∀ j : Nat, j < 20 → nI j < M.1 12 0 2 → RN M j (M.1 11 0 (M.1 14 j 0).toNatClampNeg) ∧ ∀ n, RN M j n → M.1 18 j n.toNatClampNeg = 0 →
  ¬ M.1 2 0 n.toNatClampNeg = 0 ∧ ¬ M.1 2 0 n.toNatClampNeg = 16 ∧
  (M.1 2 0 n.toNatClampNeg = 13 → RN M j (M.1 3 0 n.toNatClampNeg) ∧
    (M.1 18 j (M.1 3 0 n.toNatClampNeg).toNatClampNeg = 0 → RN M j (M.1 4 0 n.toNatClampNeg) ∧ RN M j (M.1 5 0 n.toNatClampNeg)) ∧
    (¬ M.1 18 j (M.1 3 0 n.toNatClampNeg).toNatClampNeg = 0 → RN M j (if M.2.1 19 j (M.1 3 0 n.toNatClampNeg).toNatClampNeg = 0 then M.1 5 0 n.toNatClampNeg else M.1 4 0 n.toNatClampNeg))) ∧
  (M.1 2 0 n.toNatClampNeg = 14 → RN M j (M.1 3 0 n.toNatClampNeg)) ∧
  (M.1 2 0 n.toNatClampNeg = 15 → ∃ c, c < 20 ∧ M.1 20 j n.toNatClampNeg = nI c ∧ nI c < M.1 12 0 2 ∧ (s_isRun M c 0 = true → RN M j (M.1 4 0 n.toNatClampNeg)) ∧ (s_isRun M c 1 = true → RN M j (M.1 5 0 n.toNatClampNeg))) ∧
  (¬ M.1 2 0 n.toNatClampNeg = 1 → ¬ M.1 2 0 n.toNatClampNeg = 13 → ¬ M.1 2 0 n.toNatClampNeg = 14 → ¬ M.1 2 0 n.toNatClampNeg = 15 → RN M j (M.1 3 0 n.toNatClampNeg) ∧ RN M j (M.1 4 0 n.toNatClampNeg))
def RJ (F : Nat) (M : mm_M) (j : Nat) (n u : Int32) : Prop := JJ M ∧ RM M ∧ j < 20 ∧ nI j < M.1 12 0 2 ∧ RN M j n ∧ 0 ≤ u.toInt ∧ u.toInt ≤ 5 ∧ 9 * (5 - u.toInt) + lv M n ≤ F
theorem KM.kp {M M' : mm_M} (h : KM M M') : KP M M' := ⟨congrArg Prod.snd h.1, fun f hf => h.2 f (by omega)⟩
theorem KM.isRun {M M' : mm_M} (h : KM M M') (c : Nat) (k : Int32) : s_isRun M' c k = s_isRun M c k := by
  unfold s_isRun
  rw [h.2 15 (by decide)]
theorem KM.was {M M' : mm_M} (h : KM M M') (c : Nat) (k : Int32) : s_was M' c k = s_was M c k := by
  unfold s_was
  rw [h.2 17 (by decide)]
theorem KM.xRN {M M' : mm_M} (h : KM M M') (j : Nat) (n : Int32) : RN M' j n = RN M j n := by
  unfold RN
  rw [h.was, kp_hasNode h.kp]
theorem KM.xRM {M M' : mm_M} (h : KM M M') (p : RM M) : RM M' := by
  unfold RM at p ⊢
  simp only [h.xRN, h.isRun, h.2 12 (by decide), h.2 11 (by decide), h.2 14 (by decide), h.2 18 (by decide), h.2 2 (by decide), h.2 3 (by decide), h.2 4 (by decide), h.2 5 (by decide), h.2 20 (by decide), h.1]
  exact p
theorem KM.xJJ {M M' : mm_M} (h : KM M M') (p : JJ M) : JJ M' := by
  refine ⟨h.kp.1.trans p.1, p.2.1.kp h.kp, ?_⟩
  obtain ⟨c, h1, h2, h3⟩ := p.2.2
  refine ⟨c, h1, (by rw [h.2 12 (by decide)]; exact h2), fun j hj => ?_⟩
  rw [kp_hasFun h.kp, h.2 14 (by decide)]
  exact h3 j hj
theorem KM.xRJ {M M' : mm_M} (h : KM M M') {F j : Nat} {n u : Int32} (p : RJ F M j n u) : RJ F M' j n u := by
  obtain ⟨h1, h2, h3, h4, h5, h6, h7, h8⟩ := p
  refine ⟨h.xJJ h1, h.xRM h2, h3, (by rw [h.2 12 (by decide)]; exact h4), (by rw [h.xRN]; exact h5), h6, h7, ?_⟩
  rw [kp_lv h.kp]
  exact h8
theorem RJ.op {F : Nat} {M : mm_M} {j : Nat} {n u a : Int32} (p : RJ (F + 1) M j n u) (h : RN M j a) (hl : lv M a < lv M n) : RJ F M j a u := by
  obtain ⟨h1, h2, h3, h4, h5, h6, h7, h8⟩ := p
  exact ⟨h1, h2, h3, h4, h, h6, h7, by omega⟩
theorem RJ.cast {F : Nat} {M : mm_M} {j : Nat} {n u : Int32} (p : RJ (F + 1) M j n u) (h0 : M.1 18 j n.toNatClampNeg = 0) (hk : M.1 2 0 n.toNatClampNeg = 14) : RJ F M j (M.1 3 0 n.toNatClampNeg) u :=
  p.op ((((p.2.1 j p.2.2.1 p.2.2.2.1).2 n p.2.2.2.2.1) h0).2.2.2.1 hk) ((p.1.2.1.2.2.1 n p.2.2.2.2.1.1).2.2.2.2.2.1 hk).1.2
theorem RJ.ifA {F : Nat} {M : mm_M} {j : Nat} {n u : Int32} (p : RJ (F + 1) M j n u) (h0 : M.1 18 j n.toNatClampNeg = 0) (hk : M.1 2 0 n.toNatClampNeg = 13) : RJ F M j (M.1 3 0 n.toNatClampNeg) u :=
  p.op ((((p.2.1 j p.2.2.1 p.2.2.2.1).2 n p.2.2.2.2.1) h0).2.2.1 hk).1 ((p.1.2.1.2.2.1 n p.2.2.2.2.1.1).2.2.2.2.1 hk).1.2
theorem RJ.ifB {F : Nat} {M : mm_M} {j : Nat} {n u : Int32} (p : RJ (F + 1) M j n u) (h0 : M.1 18 j n.toNatClampNeg = 0) (hk : M.1 2 0 n.toNatClampNeg = 13) {z : Int64} (hz : ¬ M.1 18 j (M.1 3 0 n.toNatClampNeg).toNatClampNeg = 0 → z = M.2.1 19 j (M.1 3 0 n.toNatClampNeg).toNatClampNeg) : RJ F M j (if z = 0 then M.1 5 0 n.toNatClampNeg else M.1 4 0 n.toNatClampNeg) u := by
  obtain ⟨oa, ob, oc⟩ := (p.1.2.1.2.2.1 n p.2.2.2.2.1.1).2.2.2.2.1 hk
  obtain ⟨-, c2, c3⟩ := (((p.2.1 j p.2.2.1 p.2.2.2.1).2 n p.2.2.2.2.1) h0).2.2.1 hk
  by_cases q : M.1 18 j (M.1 3 0 n.toNatClampNeg).toNatClampNeg = 0
  · split
    · exact p.op (c2 q).2 oc.2
    · exact p.op (c2 q).1 ob.2
  · rw [hz q]
    refine p.op (c3 q) ?_
    split
    · exact oc.2
    · exact ob.2
theorem RJ.pair {F : Nat} {M : mm_M} {j : Nat} {n u : Int32} (p : RJ (F + 1) M j n u) (h0 : M.1 18 j n.toNatClampNeg = 0) (k1 : ¬ M.1 2 0 n.toNatClampNeg = 1) (k2 : ¬ M.1 2 0 n.toNatClampNeg = 13) (k3 : ¬ M.1 2 0 n.toNatClampNeg = 14) (k4 : ¬ M.1 2 0 n.toNatClampNeg = 15) : RJ F M j (M.1 3 0 n.toNatClampNeg) u ∧ RJ F M j (M.1 4 0 n.toNatClampNeg) u := by
  obtain ⟨c0, c16, -, -, -, c5⟩ := ((p.2.1 j p.2.2.1 p.2.2.2.1).2 n p.2.2.2.2.1) h0
  obtain ⟨oa, ob⟩ := (p.1.2.1.2.2.1 n p.2.2.2.2.1.1).2.2.2.2.2.2.2.2 c0 k1 k2 k3 k4 c16
  exact ⟨p.op (c5 k1 k2 k3 k4).1 oa.2, p.op (c5 k1 k2 k3 k4).2 ob.2⟩
theorem RJ.call {F : Nat} {M : mm_M} {j : Nat} {n u : Int32} (p : RJ (F + 1) M j n u) (h0 : M.1 18 j n.toNatClampNeg = 0) (hk : M.1 2 0 n.toNatClampNeg = 15) : ∃ c, c < 20 ∧ M.1 20 j n.toNatClampNeg = nI c ∧ nI c < M.1 12 0 2 ∧ (s_isRun M c 0 = true → RJ F M j (M.1 4 0 n.toNatClampNeg) u) ∧ (s_isRun M c 1 = true → RJ F M j (M.1 5 0 n.toNatClampNeg) u) := by
  obtain ⟨c, h1, h2, h3, h4, h5⟩ := (((p.2.1 j p.2.2.1 p.2.2.2.1).2 n p.2.2.2.2.1) h0).2.2.2.2.1 hk
  obtain ⟨-, ob, oc⟩ := (p.1.2.1.2.2.1 n p.2.2.2.2.1.1).2.2.2.2.2.2.1 hk
  have hm : ∀ M : mm_M, s_hasNode M (-1) = true → False := fun M h => by
    simp [s_hasNode] at h
  refine ⟨c, h1, h2, h3, fun q => ?_, fun q => ?_⟩
  · rcases ob with e | ob
    · have := (h4 q).1
      rw [e] at this
      exact (hm _ this).elim
    · exact p.op (h4 q) ob.2
  · rcases oc with e | oc
    · have := (h5 q).1
      rw [e] at this
      exact (hm _ this).elim
    · exact p.op (h5 q) oc.2
theorem RJ.callee {F : Nat} {M : mm_M} {j c : Nat} {n u : Int32} (p : RJ (F + 1) M j n u) (hu : u < 5) (hc : c < 20) (hc' : nI c < M.1 12 0 2) : RJ F M c (M.1 11 0 (M.1 14 c 0).toNatClampNeg) (u + 1) := by
  obtain ⟨h1, h2, h3, h4, h5, h6, h7, h8⟩ := p
  have hb := (h2 c hc hc').1
  have l1 := (h1.2.1.2.2.1 n h5.1).1
  have l2 := (h1.2.1.2.2.1 _ hb.1).2.1
  rw [Int32.lt_iff_toInt_lt, show (5 : Int32).toInt = 5 by decide] at hu
  have e : (u + 1).toInt = u.toInt + 1 := by
    rw [Int32.toInt_add, show (1 : Int32).toInt = 1 by decide]
    apply Int.bmod_eq_of_le <;> omega
  refine ⟨h1, h2, hc, hc', hb, ?_, ?_, ?_⟩ <;> rw [e] <;> omega
theorem RJ.n6 {F : Nat} {M : mm_M} {j : Nat} {n u : Int32} (p : RJ F M j n u) : vp_in n 60 := p.1.2.1.in60 p.2.2.2.2.1.1
