/-! what stands behind the inits -/
def m_0 : mm_M := (fun _ _ _ => 0, fun _ _ _ => 0, fun _ _ _ => none, fun f i => f = 999 ∧ i = 0)
def m_1 : mm_M := s_i0 (mm_mkd m_0 0 0)
def m_2 : mm_M := s_i5 (mm_mkd m_1 30 0)
theorem m0_cln : CLN m_0 := fun f i h => ⟨fun k => ⟨rfl, rfl, rfl⟩, fun a b c z => nomatch (z : (none : Option (Nat × Nat)) = some (f, i))⟩
theorem m1_pre : CLN (mm_mkd m_0 0 0) ∧ (mm_mkd m_0 0 0).2.2.2 0 0 ∧ ∀ f i, 1 ≤ f → f < 22 → ¬ (mm_mkd m_0 0 0).2.2.2 f i := by
  refine ⟨m0_cln.new, Or.inl ⟨rfl, rfl⟩, fun f i h1 h2 z => ?_⟩
  have z : (f = 0 ∧ i = 0) ∨ (f = 999 ∧ i = 0) := z
  omega
theorem m1_at : CLN m_1 ∧ ∀ x y, m_1.2.2.2 x y ↔ (y = 0 ∧ 1 ≤ x ∧ x < 14) ∨ (14 ≤ x ∧ x < 21 ∧ y < 20) ∨ (x = 21 ∧ y = 0) ∨ (x = 0 ∧ y = 0) ∨ (x = 999 ∧ y = 0) := i0_cln m1_pre.1 m1_pre.2.1 m1_pre.2.2
theorem m2_pre : CLN (mm_mkd m_1 30 0) ∧ (mm_mkd m_1 30 0).2.2.2 30 0 ∧ ∀ t, t < 27 → ¬ (mm_mkd m_1 30 0).2.2.2 (31 + t) 0 := by
  refine ⟨m1_at.1.new, Or.inl ⟨rfl, rfl⟩, fun t ht z => ?_⟩
  have z : (31 + t = 30 ∧ 0 = 0) ∨ m_1.2.2.2 (31 + t) 0 := z
  rw [m1_at.2] at z
  omega
theorem m2_D : m_2.2.2.2 = mm_dm := by
  funext x y
  have e : m_2.2.2.2 x y = (mkr 30 0 21 35 2 (s_i5b (mm_mkd m_1 30 0))).2.2.2 x y := rfl
  rw [e, propext ((mkr_at 2).2.2.2 x y)]
  have e2 : (s_i5b (mm_mkd m_1 30 0)).2.2.2 x y = (mkr 30 0 26 5 25 (s_i5a (mm_mkd m_1 30 0))).2.2.2 x y := rfl
  rw [e2, propext ((mkr_at 25).2.2.2 x y)]
  have e3 : (s_i5a (mm_mkd m_1 30 0)).2.2.2 x y = ((x = 30 ∧ y = 0) ∨ m_1.2.2.2 x y) := rfl
  rw [e3, propext (m1_at.2 x y)]
  unfold mm_dm
  apply propext
  constructor <;> intro h <;> omega
/-- numbers -/
theorem m1_I (x y z : Nat) : m_1.1 x y z = if x = 12 ∧ y = 0 ∧ z = 4 then -1 else if x = 14 ∧ y < 20 ∧ z = 1 then 500 else 0 := by
  have e : m_1.1 x y z = (s_i4 (mm_mkd (s_i0a (mm_mkd m_0 0 0)) 21 0)).1 x y z := rfl
  rw [e, i4_at.1]
  have e2 : (mm_mkd (s_i0a (mm_mkd m_0 0 0)) 21 0).1 x y z = (s_i2 (mm_mkd (s_i1 (mm_mkd (mm_mkd m_0 0 0) 1 0)) 12 0)).1 x y z := rfl
  rw [e2, i2_at.1]
  have e3 : (mm_mkd (s_i1 (mm_mkd (mm_mkd m_0 0 0) 1 0)) 12 0).1 x y z = (s_i1 (mm_mkd (mm_mkd m_0 0 0) 1 0)).1 x y z := rfl
  rw [e3, i1_at.1]
  have e4 : (mm_mkd (mm_mkd m_0 0 0) 1 0).1 x y z = 0 := rfl
  rw [e4]
  repeat' split
  all_goals first | rfl | (exfalso; omega)
set_option maxRecDepth 10000 in
theorem m1_L : m_1.2.1 = fun _ _ _ => 0 := by
  have e : m_1.2.1 = (s_i4 (mm_mkd (s_i0a (mm_mkd m_0 0 0)) 21 0)).2.1 := rfl
  rw [e, i4_at.2.1]
  have e2 : (mm_mkd (s_i0a (mm_mkd m_0 0 0)) 21 0).2.1 = (s_i2 (mm_mkd (s_i1 (mm_mkd (mm_mkd m_0 0 0) 1 0)) 12 0)).2.1 := rfl
  rw [e2, i2_at.2.1]
  have e3 : (mm_mkd (s_i1 (mm_mkd (mm_mkd m_0 0 0) 1 0)) 12 0).2.1 = (s_i1 (mm_mkd (mm_mkd m_0 0 0) 1 0)).2.1 := rfl
  rw [e3, i1_at.2.1]
  rfl
theorem m2_I (x y z : Nat) : m_2.1 x y z = if x = 30 ∧ y = 0 ∧ z = 2 then -1 else if x = 12 ∧ y = 0 ∧ z = 4 then -1 else if x = 14 ∧ y < 20 ∧ z = 1 then 500 else 0 := by
  have e : m_2.1 x y z = (mkr 30 0 21 35 2 (s_i5b (mm_mkd m_1 30 0))).1 x y z := rfl
  rw [e, (mkr_at 2).1]
  have e2 : (s_i5b (mm_mkd m_1 30 0)).1 = mm_u (mm_u (mm_u (mkr 30 0 26 5 25 (s_i5a (mm_mkd m_1 30 0))).1 30 0 30 (Int32.ofInt 0)) 30 0 31 (Int32.ofInt 0)) 30 0 32 (Int32.ofInt 0) := rfl
  rw [e2, (mkr_at 25).1]
  have e3 : (s_i5a (mm_mkd m_1 30 0)).1 = mm_u (mm_u (mm_u (mm_u (mm_u m_1.1 30 0 0 (Int32.ofInt 0)) 30 0 1 (Int32.ofInt 0)) 30 0 2 (Int32.ofInt (-1))) 30 0 3 (Int32.ofInt 0)) 30 0 4 (Int32.ofInt 0) := rfl
  rw [e3, show Int32.ofInt 0 = 0 by decide, show Int32.ofInt (-1) = -1 by decide]
  simp only [u3]
  rw [m1_I]
  repeat' split
  all_goals first | rfl | (exfalso; omega)
/-- references -/
theorem m1_R (x y z : Nat) : m_1.2.2.1 x y z = if x = 0 ∧ y = 0 ∧ z = 2 then some (21, 0) else if x = 21 ∧ y = 0 ∧ z = 1 then some (13, 0) else if x = 21 ∧ y = 0 ∧ z = 0 then some (1, 0) else if x = 0 ∧ y = 0 ∧ z = 1 then some (12, 0) else if x = 0 ∧ y = 0 ∧ z = 0 then some (1, 0) else if x = 13 ∧ y = 0 ∧ z < 20 then some (14, z) else if x = 14 ∧ y < 20 ∧ 2 ≤ z ∧ z < 8 then some (z + 13, y) else if x = 12 ∧ y = 0 ∧ z = 1 then some (13, 0) else if x = 12 ∧ y = 0 ∧ z = 0 then some (1, 0) else if x = 1 ∧ y = 0 ∧ z < 10 then some (z + 2, 0) else none := by
  have e : m_1.2.2.1 = mm_u (s_i4 (mm_mkd (s_i0a (mm_mkd m_0 0 0)) 21 0)).2.2.1 0 0 2 (some (21, 0)) := rfl
  rw [e, u3, i4_at.2.2.1]
  have e2 : (mm_mkd (s_i0a (mm_mkd m_0 0 0)) 21 0).2.2.1 = mm_u (mm_u (s_i2 (mm_mkd (s_i1 (mm_mkd (mm_mkd m_0 0 0) 1 0)) 12 0)).2.2.1 0 0 0 (some (1, 0))) 0 0 1 (some (12, 0)) := rfl
  rw [e2, u3, u3, i2_at.2.2.1]
  have e3 : (mm_mkd (s_i1 (mm_mkd (mm_mkd m_0 0 0) 1 0)) 12 0).2.2.1 = (s_i1 (mm_mkd (mm_mkd m_0 0 0) 1 0)).2.2.1 := rfl
  rw [e3, i1_at.2.2.1]
  have e4 : (mm_mkd (mm_mkd m_0 0 0) 1 0).2.2.1 x y z = none := rfl
  rw [e4]
theorem m2_Rw (x y z : Nat) : m_2.2.2.1 x y z = if x = 30 ∧ y = 0 ∧ 35 ≤ z ∧ z < 37 then some (z + 21, 0) else if x = 30 ∧ y = 0 ∧ 5 ≤ z ∧ z < 30 then some (z + 26, 0) else m_1.2.2.1 x y z := by
  have e : m_2.2.2.1 x y z = (mkr 30 0 21 35 2 (s_i5b (mm_mkd m_1 30 0))).2.2.1 x y z := rfl
  rw [e, (mkr_at 2).2.2.1]
  have e2 : (s_i5b (mm_mkd m_1 30 0)).2.2.1 = (mkr 30 0 26 5 25 (s_i5a (mm_mkd m_1 30 0))).2.2.1 := rfl
  rw [e2, (mkr_at 25).2.2.1]
  rfl
theorem rc_14 {i k : Nat} : mm_rc 14 i k = if i < 20 ∧ 2 ≤ k ∧ k < 8 then some (k + 13, i) else none := by
  unfold mm_rc
  by_cases q : i = 0
  · rw [if_pos q]
    show (if 2 ≤ k ∧ k < 8 then some (13 + k, i) else none) = _
    rw [Nat.add_comm 13 k]
    repeat' split
    all_goals first | rfl | (exfalso; omega)
  · rw [if_neg q, Nat.add_comm 13 k]
    repeat' split
    all_goals first | rfl | (exfalso; omega)
theorem rc_no {f i k : Nat} (h : ¬ f = 14) (hi : ¬ i = 0) : mm_rc f i k = none := by
  unfold mm_rc
  rw [if_neg hi, if_neg (fun z => h z.1)]
theorem rc_0 {k : Nat} : mm_rc 0 0 k = if k = 0 then some (1, 0) else if k = 1 then some (12, 0) else if k = 2 then some (21, 0) else none := by
  match k with
  | 0 => rfl
  | 1 => rfl
  | 2 => rfl
  | k + 3 => rw [if_neg (by omega), if_neg (by omega), if_neg (by omega)]; rfl
theorem rc_12 {k : Nat} : mm_rc 12 0 k = if k = 0 then some (1, 0) else if k = 1 then some (13, 0) else none := by
  match k with
  | 0 => rfl
  | 1 => rfl
  | k + 2 => rw [if_neg (by omega), if_neg (by omega)]; rfl
theorem rc_21 {k : Nat} : mm_rc 21 0 k = if k = 0 then some (1, 0) else if k = 1 then some (13, 0) else none := by
  match k with
  | 0 => rfl
  | 1 => rfl
  | k + 2 => rw [if_neg (by omega), if_neg (by omega)]; rfl
theorem rc_1 {k : Nat} : mm_rc 1 0 k = if k < 10 then some (k + 2, 0) else none := by
  rw [Nat.add_comm k 2]
  rfl
theorem rc_13 {k : Nat} : mm_rc 13 0 k = if k < 20 then some (14, k) else none := rfl
theorem rc_30 {k : Nat} : mm_rc 30 0 k = if 5 ≤ k ∧ k < 30 then some (k + 26, 0) else if 35 ≤ k ∧ k < 37 then some (k + 21, 0) else none := by
  rw [Nat.add_comm k 26, Nat.add_comm k 21]
  rfl
theorem rc_el {f k : Nat} (h0 : ¬ f = 0) (h1 : ¬ f = 1) (h12 : ¬ f = 12) (h13 : ¬ f = 13) (h14 : ¬ f = 14) (h21 : ¬ f = 21) (h30 : ¬ f = 30) : mm_rc f 0 k = none := by
  unfold mm_rc
  rw [if_pos rfl]
  split
  all_goals first | (exfalso; omega) | rfl | contradiction
theorem m2_R : m_2.2.2.1 = mm_rc := by
  funext x y z
  rw [m2_Rw, m1_R]
  by_cases a14 : x = 14
  · subst a14
    rw [rc_14]
    simp
  by_cases ay : ¬ y = 0
  · rw [rc_no a14 ay]
    simp [ay, a14]
  have ay := Classical.not_not.mp ay
  subst ay
  by_cases a0 : x = 0
  · subst a0
    rw [rc_0]
    match z with
    | 0 => rfl
    | 1 => rfl
    | 2 => rfl
    | z + 3 => simp
  by_cases a1 : x = 1
  · subst a1
    rw [rc_1]
    simp
  by_cases a12 : x = 12
  · subst a12
    rw [rc_12]
    match z with
    | 0 => rfl
    | 1 => rfl
    | z + 2 => simp
  by_cases a13 : x = 13
  · subst a13
    rw [rc_13]
    simp
  by_cases a21 : x = 21
  · subst a21
    rw [rc_21]
    match z with
    | 0 => rfl
    | 1 => rfl
    | z + 2 => simp
  by_cases a30 : x = 30
  · subst a30
    rw [rc_30]
    by_cases q : 35 ≤ z ∧ z < 37
    · rw [if_pos ⟨rfl, rfl, q⟩, if_neg (by omega), if_pos q]
    · rw [if_neg (fun w => q w.2.2), if_neg q]
      simp
  rw [rc_el a0 a1 a12 a13 a14 a21 a30]
  simp [a0, a1, a12, a13, a14, a21, a30]
theorem cf_zero {M : mm_M} (h : ∀ x, M.1 36 0 x = 0) : ∀ (r : Nat) (a : Int32), t_cf M r a = a
  | 0, _ => rfl
  | r + 1, a => by
    unfold t_cf
    rw [if_pos (h _)]
    exact cf_zero h r a
theorem m2_inv : INV m_2 := by
  have z : ∀ f, f ≠ 30 → f ≠ 12 → f ≠ 14 → ∀ y k, m_2.1 f y k = 0 := fun f h1 h2 h3 y k => by
    rw [m2_I, if_neg (fun q => h1 q.1), if_neg (fun q => h2 q.1), if_neg (fun q => h3 q.1)]
  have hn : ∀ n, ¬ s_hasNode m_2 n = true := fun n q => by
    unfold s_hasNode at q
    rw [z 1 (by decide) (by decide) (by decide)] at q
    simp only [Bool.and_eq_true, Bool.not_eq_true', decide_eq_false_iff_not, Int32.lt_iff_toInt_lt, Int32.le_iff_toInt_le] at q
    omega
  have hf : ∀ f, ¬ s_hasFun m_2 f = true := fun f q => (hasFun_iff.mp q).2 (z 7 (by decide) (by decide) (by decide) _ _)
  have c2 : m_2.1 12 0 2 = 0 := by rw [m2_I]; rfl
  have c3 : m_2.1 12 0 3 = 0 := by rw [m2_I]; rfl
  have c4 : m_2.1 12 0 4 = -1 := by rw [m2_I]; rfl
  have r0 : m_2.1 30 0 0 = 0 := by rw [m2_I]; rfl
  have r1 : m_2.1 30 0 1 = 0 := by rw [m2_I]; rfl
  have r2 : m_2.1 30 0 2 = -1 := by rw [m2_I]; rfl
  have r3 : m_2.1 30 0 3 = 0 := by rw [m2_I]; rfl
  have r4 : m_2.1 30 0 4 = 0 := by rw [m2_I]; rfl
  have row : ∀ a b, a ≠ 30 → a ≠ 12 → a ≠ 14 → b ≠ 30 → b ≠ 12 → b ≠ 14 → m_2.1 a 0 = m_2.1 b 0 := fun a b h1 h2 h3 h4 h5 h6 => by
    funext k
    rw [z a h1 h2 h3, z b h4 h5 h6]
  refine ⟨Prod.ext m2_R m2_D, ⟨?_, ?_, fun n q => absurd q (hn n), fun f q => absurd q (hf f)⟩, ⟨0, by decide, c2, fun j hj => absurd hj (Nat.not_lt_zero j)⟩, ⟨?_, ?_, ?_, ?_, ?_, ?_, ?_, ?_, ?_, ?_, ?_⟩, ?_, cb_none c2, ?_, ?_⟩
  · rw [z 1 (by decide) (by decide) (by decide)]
    decide
  · rw [z 1 (by decide) (by decide) (by decide)]
    decide
  · rw [r0, z 1 (by decide) (by decide) (by decide)]
  · exact row 31 2 (by decide) (by decide) (by decide) (by decide) (by decide) (by decide)
  · exact row 32 3 (by decide) (by decide) (by decide) (by decide) (by decide) (by decide)
  · exact row 33 4 (by decide) (by decide) (by decide) (by decide) (by decide) (by decide)
  · exact row 34 5 (by decide) (by decide) (by decide) (by decide) (by decide) (by decide)
  · exact row 35 6 (by decide) (by decide) (by decide) (by decide) (by decide) (by decide)
  · exact row 36 7 (by decide) (by decide) (by decide) (by decide) (by decide) (by decide)
  · exact row 37 8 (by decide) (by decide) (by decide) (by decide) (by decide) (by decide)
  · exact row 38 9 (by decide) (by decide) (by decide) (by decide) (by decide) (by decide)
  · exact row 39 10 (by decide) (by decide) (by decide) (by decide) (by decide) (by decide)
  · exact row 40 11 (by decide) (by decide) (by decide) (by decide) (by decide) (by decide)
  · exact sc_none (fun _ _ => rfl) r3 c2 (by rw [r1, c3]) (by rw [r2, c4])
  · rw [r4, z 21 (by decide) (by decide) (by decide)]
  · rw [z 1 (by decide) (by decide) (by decide), cf_zero (fun x => z 36 (by decide) (by decide) (by decide) _ _)]
