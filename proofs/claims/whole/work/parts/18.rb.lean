/-! node and define on both sides -/
def INV (M : mm_M) : Prop := M.2.2 = mm_gd ∧ IP M ∧ IQ M ∧ SP M ∧ SC M M ∧ CB M M ∧ M.1 30 0 4 = M.1 21 0 3 ∧ M.1 1 0 11 = t_cf M 8 0
theorem max_toInt {x y : Int32} : (s_max x y).toInt = max x.toInt y.toInt := by
  unfold s_max
  by_cases q : x < y
  · rw [if_pos q]
    rw [Int32.lt_iff_toInt_lt] at q
    omega
  · rw [if_neg q]
    rw [Int32.lt_iff_toInt_lt] at q
    omega
theorem max_as {x y z : Int32} : s_max (s_max x y) z = s_max x (s_max y z) := by
  apply Int32.toInt_inj.mp
  rw [max_toInt, max_toInt, max_toInt, max_toInt]
  omega
/-- a node as IP wants it -/
def OKx (C : mm_M) (l : Int) (x : Int32) : Prop := s_hasNode C x = true ∧ lv C x < l
def NDp (C : mm_M) (l : Int) (k a b c : Int32) : Prop := 1 ≤ l ∧ l ≤ 8 ∧ s_isOne k = true ∧ (k = 1 → a = 0 ∨ a = 1) ∧ (k = 13 → OKx C l a ∧ OKx C l b ∧ OKx C l c) ∧ (k = 14 → OKx C l a ∧ s_isCast b = true) ∧ (k = 15 → vp_in a 8 ∧ (b = -1 ∨ OKx C l b) ∧ (c = -1 ∨ OKx C l c)) ∧ (k = 16 → OKx C l a) ∧ (¬ k = 0 → ¬ k = 1 → ¬ k = 13 → ¬ k = 14 → ¬ k = 15 → ¬ k = 16 → OKx C l a ∧ OKx C l b)
theorem NDp.mono {C C' : mm_M} {l : Int} {k a b c : Int32} (h : NDp C l k a b c) (m : ∀ x, s_hasNode C x = true → s_hasNode C' x = true ∧ lv C' x = lv C x) : NDp C' l k a b c := by
  have o : ∀ {x : Int32}, OKx C l x → OKx C' l x := fun {x} z => ⟨(m x z.1).1, by rw [(m x z.1).2]; exact z.2⟩
  obtain ⟨h1, h2, h3, h4, h5, h6, h7, h8, h9⟩ := h
  exact ⟨h1, h2, h3, h4, fun z => ⟨o (h5 z).1, o (h5 z).2.1, o (h5 z).2.2⟩, fun z => ⟨o (h6 z).1, (h6 z).2⟩, fun z => ⟨(h7 z).1, (h7 z).2.1.imp id o, (h7 z).2.2.imp id o⟩, fun z => o (h8 z), fun a b c d e f => ⟨o (h9 a b c d e f).1, o (h9 a b c d e f).2⟩⟩
theorem IP.nd {C : mm_M} (h : IP C) {n : Int32} (hn : s_hasNode C n = true) : NDp C (lv C n) (C.1 2 0 n.toNatClampNeg) (C.1 3 0 n.toNatClampNeg) (C.1 4 0 n.toNatClampNeg) (C.1 5 0 n.toNatClampNeg) := h.2.2.1 n hn
theorem one_add {x : Int32} (h0 : 0 ≤ x.toInt) (h8 : x.toInt ≤ 8) : (1 + x).toInt = 1 + x.toInt := by
  rw [Int32.toInt_add, show (1 : Int32).toInt = 1 by decide]
  apply Int.bmod_eq_of_le <;> omega
/-- the new node -/
theorem new_nd {C : mm_M} {k a b c : Int32} (hp : IP C) (h1 : s_isOne k = true) (h2 : s_hasOps C k a b c = true) (h8 : s_lvAbove C k a b c ≤ 8) : NDp C (s_lvAbove C k a b c).toInt k a b c := by
  rw [Int32.le_iff_toInt_le, show (8 : Int32).toInt = 8 by decide] at h8
  have L : ∀ {x : Int32}, s_hasNode C x = true → 1 ≤ (C.1 6 0 x.toNatClampNeg).toInt ∧ (C.1 6 0 x.toNatClampNeg).toInt ≤ 8 := fun {x} z => ⟨(hp.2.2.1 x z).1, (hp.2.2.1 x z).2.1⟩
  have no : ∀ {p : Int32} {q : Prop}, ¬ p = p → q := fun z => absurd rfl z
  unfold s_hasOps at h2
  unfold s_lvAbove at h8 ⊢
  by_cases z0 : k = 0
  · subst z0
    rw [if_pos rfl]
    exact ⟨by decide, by decide, h1, fun z => absurd z (by decide), fun z => absurd z (by decide), fun z => absurd z (by decide), fun z => absurd z (by decide), fun z => absurd z (by decide), fun z => no z⟩
  rw [if_neg z0] at h2 h8 ⊢
  by_cases z1 : k = 1
  · subst z1
    rw [if_pos rfl] at h2 ⊢
    simp only [Bool.or_eq_true, decide_eq_true_eq] at h2
    exact ⟨by decide, by decide, h1, fun _ => h2, fun z => absurd z (by decide), fun z => absurd z (by decide), fun z => absurd z (by decide), fun z => absurd z (by decide), fun _ z => no z⟩
  rw [if_neg z1] at h2 h8 ⊢
  by_cases z13 : k = 13
  · subst z13
    rw [if_pos rfl] at h2 h8 ⊢
    simp only [Bool.and_eq_true] at h2
    obtain ⟨⟨ha, hb⟩, hc⟩ := h2
    obtain ⟨a1, a2⟩ := L ha
    obtain ⟨b1, b2⟩ := L hb
    obtain ⟨c1, c2⟩ := L hc
    have e : (1 + s_max (C.1 6 0 a.toNatClampNeg) (s_max (C.1 6 0 b.toNatClampNeg) (C.1 6 0 c.toNatClampNeg))).toInt = 1 + max (C.1 6 0 a.toNatClampNeg).toInt (max (C.1 6 0 b.toNatClampNeg).toInt (C.1 6 0 c.toNatClampNeg).toInt) := by
      rw [one_add, max_toInt, max_toInt] <;> rw [max_toInt, max_toInt] <;> omega
    rw [e] at h8 ⊢
    exact ⟨by omega, h8, h1, fun z => absurd z (by decide), fun _ => ⟨⟨ha, by unfold lv; omega⟩, ⟨hb, by unfold lv; omega⟩, ⟨hc, by unfold lv; omega⟩⟩, fun z => absurd z (by decide), fun z => absurd z (by decide), fun z => absurd z (by decide), fun _ _ z => no z⟩
  rw [if_neg z13] at h2 h8 ⊢
  by_cases z14 : k = 14
  · subst z14
    rw [if_pos rfl] at h2 h8 ⊢
    simp only [Bool.and_eq_true] at h2
    obtain ⟨ha, hb⟩ := h2
    obtain ⟨a1, a2⟩ := L ha
    rw [one_add (by omega) (by omega)] at h8 ⊢
    exact ⟨by omega, h8, h1, fun z => absurd z (by decide), fun z => absurd z (by decide), fun _ => ⟨⟨ha, by unfold lv; omega⟩, hb⟩, fun z => absurd z (by decide), fun z => absurd z (by decide), fun _ _ _ z => no z⟩
  rw [if_neg z14] at h2 h8 ⊢
  by_cases z15 : k = 15
  · subst z15
    rw [if_pos rfl] at h2 h8 ⊢
    simp only [Bool.and_eq_true, Bool.not_eq_true', decide_eq_false_iff_not, s_mayBe, Bool.or_eq_true, decide_eq_true_eq] at h2
    obtain ⟨⟨⟨f1, f2⟩, hb⟩, hc⟩ := h2
    have LA : ∀ {x : Int32}, (x = -1 ∨ s_hasNode C x = true) → 0 ≤ (s_lvArg C x).toInt ∧ (s_lvArg C x).toInt ≤ 8 ∧ (¬ x = -1 → lv C x = (s_lvArg C x).toInt) := fun {x} z => by
      unfold s_lvArg
      by_cases q : x = -1
      · rw [if_pos q]
        exact ⟨by decide, by decide, fun y => absurd q y⟩
      · rw [if_neg q]
        obtain ⟨x1, x2⟩ := L (z.resolve_left q)
        exact ⟨by omega, x2, fun _ => rfl⟩
    obtain ⟨b1, b2, b3⟩ := LA hb
    obtain ⟨c1, c2, c3⟩ := LA hc
    have e : (1 + s_max (s_lvArg C b) (s_lvArg C c)).toInt = 1 + max (s_lvArg C b).toInt (s_lvArg C c).toInt := by
      rw [one_add, max_toInt] <;> rw [max_toInt] <;> omega
    rw [e] at h8 ⊢
    have f8 : vp_in a 8 := by
      rw [vp_in_iff]
      rw [Int32.lt_iff_toInt_lt, Int32.toInt_zero] at f1
      rw [Int32.le_iff_toInt_le, show (8 : Int32).toInt = 8 by decide] at f2
      exact ⟨by omega, by omega⟩
    refine ⟨by omega, h8, h1, fun z => absurd z (by decide), fun z => absurd z (by decide), fun z => absurd z (by decide), fun _ => ⟨f8, ?_, ?_⟩, fun z => absurd z (by decide), fun _ _ _ _ z => no z⟩
    · by_cases q : b = -1
      · exact Or.inl q
      · have := b3 q
        exact Or.inr ⟨hb.resolve_left q, by omega⟩
    · by_cases q : c = -1
      · exact Or.inl q
      · have := c3 q
        exact Or.inr ⟨hc.resolve_left q, by omega⟩
  rw [if_neg z15] at h2 h8 ⊢
  by_cases z16 : k = 16
  · subst z16
    rw [if_pos rfl] at h2 h8 ⊢
    obtain ⟨a1, a2⟩ := L h2
    rw [one_add (by omega) (by omega)] at h8 ⊢
    exact ⟨by omega, h8, h1, fun z => absurd z (by decide), fun z => absurd z (by decide), fun z => absurd z (by decide), fun z => absurd z (by decide), fun _ => ⟨h2, by unfold lv; omega⟩, fun _ _ _ _ _ z => no z⟩
  rw [if_neg z16] at h2 h8 ⊢
  simp only [Bool.and_eq_true] at h2
  obtain ⟨ha, hb⟩ := h2
  obtain ⟨a1, a2⟩ := L ha
  obtain ⟨b1, b2⟩ := L hb
  have e : (1 + s_max (C.1 6 0 a.toNatClampNeg) (C.1 6 0 b.toNatClampNeg)).toInt = 1 + max (C.1 6 0 a.toNatClampNeg).toInt (C.1 6 0 b.toNatClampNeg).toInt := by
    rw [one_add, max_toInt] <;> rw [max_toInt] <;> omega
  rw [e] at h8 ⊢
  exact ⟨by omega, h8, h1, fun z => absurd z z1, fun z => absurd z z13, fun z => absurd z z14, fun z => absurd z z15, fun z => absurd z z16, fun _ _ _ _ _ _ => ⟨⟨ha, by unfold lv; omega⟩, ⟨hb, by unfold lv; omega⟩⟩⟩
/-- the level of a node, on both sides -/
theorem nlv_eq {C R : mm_M} {k a b c : Int32} (h6 : R.1 35 0 = C.1 6 0) (hp : IP C) (h2 : s_hasOps C k a b c = true) : t_nlv R k a b c = s_lvAbove C k a b c := by
  have N : ∀ {x : Int32}, s_hasNode C x = true → t_lv R x = C.1 6 0 x.toNatClampNeg := fun z => tlv_n h6 hp z
  have nn : ∀ {x : Int32}, s_hasNode C x = true → 0 ≤ C.1 6 0 x.toNatClampNeg := fun z => lv_nn hp z
  unfold s_hasOps at h2
  unfold t_nlv s_lvAbove t_above
  by_cases z0 : k = 0
  · rw [if_pos z0, if_pos z0]
  rw [if_neg z0] at h2
  rw [if_neg z0, if_neg z0]
  by_cases z1 : k = 1
  · rw [if_pos z1, if_pos z1]
  rw [if_neg z1] at h2
  rw [if_neg z1, if_neg z1]
  by_cases z13 : k = 13
  · rw [if_pos z13] at h2
    simp only [Bool.and_eq_true] at h2
    rw [if_pos z13, if_pos z13, N h2.1.1, N h2.1.2, N h2.2, gt_max, gt_max, max_as]
  rw [if_neg z13] at h2
  rw [if_neg z13, if_neg z13]
  by_cases z14 : k = 14
  · rw [if_pos z14] at h2
    simp only [Bool.and_eq_true] at h2
    rw [if_pos z14, if_pos z14, N h2.1, tlv_m, gt_0 (nn h2.1), gt_0 (nn h2.1)]
  rw [if_neg z14] at h2
  rw [if_neg z14, if_neg z14]
  by_cases z15 : k = 15
  · rw [if_pos z15] at h2
    simp only [Bool.and_eq_true, s_mayBe, Bool.or_eq_true, decide_eq_true_eq] at h2
    obtain ⟨b1, b2⟩ := tlv_arg h6 hp h2.1.2
    obtain ⟨c1, c2⟩ := tlv_arg h6 hp h2.2
    rw [if_pos z15, if_pos z15, b1, c1, tlv_m, gt_max (x := s_lvArg C b), gt_0 (max_nn b2 c2)]
  rw [if_neg z15] at h2
  rw [if_neg z15, if_neg z15]
  by_cases z16 : k = 16
  · rw [if_pos z16] at h2
    rw [if_pos z16, if_pos z16, N h2, tlv_m, gt_0 (nn h2), gt_0 (nn h2)]
  rw [if_neg z16] at h2
  simp only [Bool.and_eq_true] at h2
  rw [if_neg z16, if_neg z16, N h2.1, N h2.2, tlv_m, gt_max (x := C.1 6 0 a.toNatClampNeg), gt_0 (max_nn (nn h2.1) (nn h2.2))]
theorem SC.cong2 {C R C' R' : mm_M} (h : SC C R) (hC : ∀ f, 7 ≤ f → f < 22 → C'.1 f = C.1 f) (hL : ∀ f, f < 22 → C'.2.1 f = C.2.1 f) (h30 : ∀ k, 1 ≤ k → k ≤ 3 → R'.1 30 0 k = R.1 30 0 k) (hR : ∀ f, 41 ≤ f → R'.1 f = R.1 f) (hRL : ∀ f, 22 ≤ f → R'.2.1 f = R.2.1 f) (hP : ∀ f, f < 12 → R'.1 f = C'.1 f) : SC C' R' := h.cg (fun f h1 h2 => hC f h1 (by omega)) (fun f hf => hL f (by omega)) h30 (fun f h1 _ => hR f h1) (hRL 48 (by decide)) (hRL 56 (by decide)) (hRL 57 (by decide)) hP
theorem NC.cong {C R C' R' : mm_M} {j k : Nat} (h : NC C R j k) (r : ∀ g, 2 ≤ g → g ≤ 5 → C'.1 g 0 k = C.1 g 0 k) (hC : ∀ f, 12 ≤ f → f < 22 → C'.1 f = C.1 f) (hL : ∀ f, f < 22 → C'.2.1 f = C.2.1 f) (h47 : R'.1 47 = R.1 47) (h89 : N15 C R j k → C'.1 8 0 (C.1 3 0 k).toNatClampNeg = C.1 8 0 (C.1 3 0 k).toNatClampNeg ∧ C'.1 9 0 (C.1 3 0 k).toNatClampNeg = C.1 9 0 (C.1 3 0 k).toNatClampNeg) : NC C' R' j k := by
  have r2 := r 2 (by decide) (by decide)
  have r3 := r 3 (by decide) (by decide)
  have r4 := r 4 (by decide) (by decide)
  have r5 := r 5 (by decide) (by decide)
  have f12 := hC 12 (by decide) (by decide)
  have f14 := hC 14 (by decide) (by decide)
  have f15 := hC 15 (by decide) (by decide)
  have f17 := hC 17 (by decide) (by decide)
  have f18 := hC 18 (by decide) (by decide)
  have f20 := hC 20 (by decide) (by decide)
  have l19 := hL 19 (by decide)
  unfold NC at h ⊢
  rw [r2]
  rcases h with ⟨q, h⟩ | ⟨q, h⟩ | ⟨q, h⟩ | ⟨q, h⟩ | ⟨q, h⟩
  · refine Or.inl ⟨q, ?_⟩
    unfold N1 at *
    rw [r3, f15, f17]
    exact h
  · refine Or.inr (Or.inl ⟨q, ?_⟩)
    unfold N13 PS LPc at *
    simp only [r3, r4, r5, f17, f18, l19]
    exact h
  · refine Or.inr (Or.inr (Or.inl ⟨q, ?_⟩))
    unfold N14 LPc at *
    rw [r3, f17]
    exact h
  · refine Or.inr (Or.inr (Or.inr (Or.inl ⟨q, ?_⟩)))
    obtain ⟨h8, h9⟩ := h89 h
    unfold N15 PS LPc at *
    simp only [r3, r4, r5, f12, f14, f15, f17, f20, l19, h47, h8, h9]
    exact h
  · refine Or.inr (Or.inr (Or.inr (Or.inr ⟨q, ?_⟩)))
    unfold N2 PS LPc at *
    simp only [r2, r3, r4, f17, l19]
    exact h
