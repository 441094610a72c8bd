/-! what stands behind the inits: references and places -/
def mm_rc (f i k : Nat) : Option (Nat × Nat) :=
  if i = 0 then (match f with
    | 0 => (match k with
      | 0 => some (1, 0)
      | 1 => some (12, 0)
      | 2 => some (21, 0)
      | _ => none)
    | 1 => if k < 10 then some (2 + k, 0) else none
    | 12 => (match k with
      | 0 => some (1, 0)
      | 1 => some (13, 0)
      | _ => none)
    | 13 => if k < 20 then some (14, k) else none
    | 14 => if 2 ≤ k ∧ k < 8 then some (13 + k, i) else none
    | 21 => (match k with
      | 0 => some (1, 0)
      | 1 => some (13, 0)
      | _ => none)
    | 30 => if 5 ≤ k ∧ k < 30 then some (26 + k, 0) else if 35 ≤ k ∧ k < 37 then some (21 + k, 0) else none
    | _ => none)
  else if f = 14 ∧ i < 20 then (if 2 ≤ k ∧ k < 8 then some (13 + k, i) else none) else none
def mm_dm (f i : Nat) : Prop := ((f < 14 ∨ f = 21 ∨ (30 ≤ f ∧ f < 58) ∨ f = 999) ∧ i = 0) ∨ (14 ≤ f ∧ f < 21 ∧ i < 20)
def mm_gd : (Nat → Nat → Nat → Option (Nat × Nat)) × (Nat → Nat → Prop) := (mm_rc, mm_dm)
theorem gy_0 : mm_Y 0 = .inl 0 := rfl
theorem gm_0 : mm_gd.2 0 0 = True := eq_true (Or.inl ⟨by decide, rfl⟩)
theorem gy_1 : mm_Y 1 = .inl 1 := rfl
theorem gm_1 : mm_gd.2 1 0 = True := eq_true (Or.inl ⟨by decide, rfl⟩)
theorem gy_2 : mm_Y 2 = .inr (.int, 60) := rfl
theorem gl_2 : mm_len 2 = 60 := rfl
theorem gm_2 : mm_gd.2 2 0 = True := eq_true (Or.inl ⟨by decide, rfl⟩)
theorem gy_3 : mm_Y 3 = .inr (.int, 60) := rfl
theorem gl_3 : mm_len 3 = 60 := rfl
theorem gm_3 : mm_gd.2 3 0 = True := eq_true (Or.inl ⟨by decide, rfl⟩)
theorem gy_4 : mm_Y 4 = .inr (.int, 60) := rfl
theorem gl_4 : mm_len 4 = 60 := rfl
theorem gm_4 : mm_gd.2 4 0 = True := eq_true (Or.inl ⟨by decide, rfl⟩)
theorem gy_5 : mm_Y 5 = .inr (.int, 60) := rfl
theorem gl_5 : mm_len 5 = 60 := rfl
theorem gm_5 : mm_gd.2 5 0 = True := eq_true (Or.inl ⟨by decide, rfl⟩)
theorem gy_6 : mm_Y 6 = .inr (.int, 60) := rfl
theorem gl_6 : mm_len 6 = 60 := rfl
theorem gm_6 : mm_gd.2 6 0 = True := eq_true (Or.inl ⟨by decide, rfl⟩)
theorem gy_7 : mm_Y 7 = .inr (.boolean, 8) := rfl
theorem gl_7 : mm_len 7 = 8 := rfl
theorem gm_7 : mm_gd.2 7 0 = True := eq_true (Or.inl ⟨by decide, rfl⟩)
theorem gy_8 : mm_Y 8 = .inr (.int, 8) := rfl
theorem gl_8 : mm_len 8 = 8 := rfl
theorem gm_8 : mm_gd.2 8 0 = True := eq_true (Or.inl ⟨by decide, rfl⟩)
theorem gy_9 : mm_Y 9 = .inr (.int, 8) := rfl
theorem gl_9 : mm_len 9 = 8 := rfl
theorem gm_9 : mm_gd.2 9 0 = True := eq_true (Or.inl ⟨by decide, rfl⟩)
theorem gy_10 : mm_Y 10 = .inr (.int, 8) := rfl
theorem gl_10 : mm_len 10 = 8 := rfl
theorem gm_10 : mm_gd.2 10 0 = True := eq_true (Or.inl ⟨by decide, rfl⟩)
theorem gy_11 : mm_Y 11 = .inr (.int, 8) := rfl
theorem gl_11 : mm_len 11 = 8 := rfl
theorem gm_11 : mm_gd.2 11 0 = True := eq_true (Or.inl ⟨by decide, rfl⟩)
theorem gy_12 : mm_Y 12 = .inl 2 := rfl
theorem gm_12 : mm_gd.2 12 0 = True := eq_true (Or.inl ⟨by decide, rfl⟩)
theorem gy_13 : mm_Y 13 = .inr (.object "StagedCompiler$Instance", 20) := rfl
theorem gl_13 : mm_len 13 = 20 := rfl
theorem gm_13 : mm_gd.2 13 0 = True := eq_true (Or.inl ⟨by decide, rfl⟩)
theorem gy_14 : mm_Y 14 = .inl 3 := rfl
theorem gy_15 : mm_Y 15 = .inr (.int, 2) := rfl
theorem gl_15 : mm_len 15 = 2 := rfl
theorem gy_16 : mm_Y 16 = .inr (.long, 2) := rfl
theorem gl_16 : mm_len 16 = 2 := rfl
theorem gy_17 : mm_Y 17 = .inr (.int, 60) := rfl
theorem gl_17 : mm_len 17 = 60 := rfl
theorem gy_18 : mm_Y 18 = .inr (.boolean, 60) := rfl
theorem gl_18 : mm_len 18 = 60 := rfl
theorem gy_19 : mm_Y 19 = .inr (.long, 60) := rfl
theorem gl_19 : mm_len 19 = 60 := rfl
theorem gy_20 : mm_Y 20 = .inr (.int, 60) := rfl
theorem gl_20 : mm_len 20 = 60 := rfl
theorem gy_21 : mm_Y 21 = .inl 4 := rfl
theorem gm_21 : mm_gd.2 21 0 = True := eq_true (Or.inl ⟨by decide, rfl⟩)
theorem gy_30 : mm_Y 30 = .inl 5 := rfl
theorem gm_30 : mm_gd.2 30 0 = True := eq_true (Or.inl ⟨by decide, rfl⟩)
theorem gy_31 : mm_Y 31 = .inr (.int, 60) := rfl
theorem gl_31 : mm_len 31 = 60 := rfl
theorem gm_31 : mm_gd.2 31 0 = True := eq_true (Or.inl ⟨by decide, rfl⟩)
theorem gy_32 : mm_Y 32 = .inr (.int, 60) := rfl
theorem gl_32 : mm_len 32 = 60 := rfl
theorem gm_32 : mm_gd.2 32 0 = True := eq_true (Or.inl ⟨by decide, rfl⟩)
theorem gy_33 : mm_Y 33 = .inr (.int, 60) := rfl
theorem gl_33 : mm_len 33 = 60 := rfl
theorem gm_33 : mm_gd.2 33 0 = True := eq_true (Or.inl ⟨by decide, rfl⟩)
theorem gy_34 : mm_Y 34 = .inr (.int, 60) := rfl
theorem gl_34 : mm_len 34 = 60 := rfl
theorem gm_34 : mm_gd.2 34 0 = True := eq_true (Or.inl ⟨by decide, rfl⟩)
theorem gy_35 : mm_Y 35 = .inr (.int, 60) := rfl
theorem gl_35 : mm_len 35 = 60 := rfl
theorem gm_35 : mm_gd.2 35 0 = True := eq_true (Or.inl ⟨by decide, rfl⟩)
theorem gy_36 : mm_Y 36 = .inr (.boolean, 8) := rfl
theorem gl_36 : mm_len 36 = 8 := rfl
theorem gm_36 : mm_gd.2 36 0 = True := eq_true (Or.inl ⟨by decide, rfl⟩)
theorem gy_37 : mm_Y 37 = .inr (.int, 8) := rfl
theorem gl_37 : mm_len 37 = 8 := rfl
theorem gm_37 : mm_gd.2 37 0 = True := eq_true (Or.inl ⟨by decide, rfl⟩)
theorem gy_38 : mm_Y 38 = .inr (.int, 8) := rfl
theorem gl_38 : mm_len 38 = 8 := rfl
theorem gm_38 : mm_gd.2 38 0 = True := eq_true (Or.inl ⟨by decide, rfl⟩)
theorem gy_39 : mm_Y 39 = .inr (.int, 8) := rfl
theorem gl_39 : mm_len 39 = 8 := rfl
theorem gm_39 : mm_gd.2 39 0 = True := eq_true (Or.inl ⟨by decide, rfl⟩)
theorem gy_40 : mm_Y 40 = .inr (.int, 8) := rfl
theorem gl_40 : mm_len 40 = 8 := rfl
theorem gm_40 : mm_gd.2 40 0 = True := eq_true (Or.inl ⟨by decide, rfl⟩)
theorem gy_41 : mm_Y 41 = .inr (.int, 20) := rfl
theorem gl_41 : mm_len 41 = 20 := rfl
theorem gm_41 : mm_gd.2 41 0 = True := eq_true (Or.inl ⟨by decide, rfl⟩)
theorem gy_42 : mm_Y 42 = .inr (.int, 20) := rfl
theorem gl_42 : mm_len 42 = 20 := rfl
theorem gm_42 : mm_gd.2 42 0 = True := eq_true (Or.inl ⟨by decide, rfl⟩)
theorem gy_43 : mm_Y 43 = .inr (.int, 20) := rfl
theorem gl_43 : mm_len 43 = 20 := rfl
theorem gm_43 : mm_gd.2 43 0 = True := eq_true (Or.inl ⟨by decide, rfl⟩)
theorem gy_44 : mm_Y 44 = .inr (.boolean, 1200) := rfl
theorem gl_44 : mm_len 44 = 1200 := rfl
theorem gm_44 : mm_gd.2 44 0 = True := eq_true (Or.inl ⟨by decide, rfl⟩)
theorem gy_45 : mm_Y 45 = .inr (.boolean, 1200) := rfl
theorem gl_45 : mm_len 45 = 1200 := rfl
theorem gm_45 : mm_gd.2 45 0 = True := eq_true (Or.inl ⟨by decide, rfl⟩)
theorem gy_46 : mm_Y 46 = .inr (.int, 1200) := rfl
theorem gl_46 : mm_len 46 = 1200 := rfl
theorem gm_46 : mm_gd.2 46 0 = True := eq_true (Or.inl ⟨by decide, rfl⟩)
theorem gy_47 : mm_Y 47 = .inr (.int, 1200) := rfl
theorem gl_47 : mm_len 47 = 1200 := rfl
theorem gm_47 : mm_gd.2 47 0 = True := eq_true (Or.inl ⟨by decide, rfl⟩)
theorem gy_48 : mm_Y 48 = .inr (.long, 1200) := rfl
theorem gl_48 : mm_len 48 = 1200 := rfl
theorem gm_48 : mm_gd.2 48 0 = True := eq_true (Or.inl ⟨by decide, rfl⟩)
theorem gy_49 : mm_Y 49 = .inr (.int, 7) := rfl
theorem gl_49 : mm_len 49 = 7 := rfl
theorem gm_49 : mm_gd.2 49 0 = True := eq_true (Or.inl ⟨by decide, rfl⟩)
theorem gy_50 : mm_Y 50 = .inr (.int, 64) := rfl
theorem gl_50 : mm_len 50 = 64 := rfl
theorem gm_50 : mm_gd.2 50 0 = True := eq_true (Or.inl ⟨by decide, rfl⟩)
theorem gy_51 : mm_Y 51 = .inr (.int, 64) := rfl
theorem gl_51 : mm_len 51 = 64 := rfl
theorem gm_51 : mm_gd.2 51 0 = True := eq_true (Or.inl ⟨by decide, rfl⟩)
theorem gy_52 : mm_Y 52 = .inr (.long, 7) := rfl
theorem gl_52 : mm_len 52 = 7 := rfl
theorem gm_52 : mm_gd.2 52 0 = True := eq_true (Or.inl ⟨by decide, rfl⟩)
theorem gy_53 : mm_Y 53 = .inr (.long, 7) := rfl
theorem gl_53 : mm_len 53 = 7 := rfl
theorem gm_53 : mm_gd.2 53 0 = True := eq_true (Or.inl ⟨by decide, rfl⟩)
theorem gy_54 : mm_Y 54 = .inr (.long, 64) := rfl
theorem gl_54 : mm_len 54 = 64 := rfl
theorem gm_54 : mm_gd.2 54 0 = True := eq_true (Or.inl ⟨by decide, rfl⟩)
theorem gy_55 : mm_Y 55 = .inr (.long, 64) := rfl
theorem gl_55 : mm_len 55 = 64 := rfl
theorem gm_55 : mm_gd.2 55 0 = True := eq_true (Or.inl ⟨by decide, rfl⟩)
theorem gy_56 : mm_Y 56 = .inr (.long, 20) := rfl
theorem gl_56 : mm_len 56 = 20 := rfl
theorem gm_56 : mm_gd.2 56 0 = True := eq_true (Or.inl ⟨by decide, rfl⟩)
theorem gy_57 : mm_Y 57 = .inr (.long, 20) := rfl
theorem gl_57 : mm_len 57 = 20 := rfl
theorem gm_57 : mm_gd.2 57 0 = True := eq_true (Or.inl ⟨by decide, rfl⟩)
theorem gm_999 : mm_gd.2 999 0 = True := eq_true (Or.inl ⟨by decide, rfl⟩)
theorem gm_14 {i : Nat} (h : i < 20) : mm_gd.2 14 i = True := eq_true (Or.inr ⟨by decide, by decide, h⟩)
theorem gm_15 {i : Nat} (h : i < 20) : mm_gd.2 15 i = True := eq_true (Or.inr ⟨by decide, by decide, h⟩)
theorem gm_16 {i : Nat} (h : i < 20) : mm_gd.2 16 i = True := eq_true (Or.inr ⟨by decide, by decide, h⟩)
theorem gm_17 {i : Nat} (h : i < 20) : mm_gd.2 17 i = True := eq_true (Or.inr ⟨by decide, by decide, h⟩)
theorem gm_18 {i : Nat} (h : i < 20) : mm_gd.2 18 i = True := eq_true (Or.inr ⟨by decide, by decide, h⟩)
theorem gm_19 {i : Nat} (h : i < 20) : mm_gd.2 19 i = True := eq_true (Or.inr ⟨by decide, by decide, h⟩)
theorem gm_20 {i : Nat} (h : i < 20) : mm_gd.2 20 i = True := eq_true (Or.inr ⟨by decide, by decide, h⟩)
theorem gr_0_0 : mm_gd.1 0 0 0 = some (1, 0) := rfl
theorem gr_0_1 : mm_gd.1 0 0 1 = some (12, 0) := rfl
theorem gr_0_2 : mm_gd.1 0 0 2 = some (21, 0) := rfl
theorem gr_1_0 : mm_gd.1 1 0 0 = some (2, 0) := rfl
theorem gr_1_1 : mm_gd.1 1 0 1 = some (3, 0) := rfl
theorem gr_1_2 : mm_gd.1 1 0 2 = some (4, 0) := rfl
theorem gr_1_3 : mm_gd.1 1 0 3 = some (5, 0) := rfl
theorem gr_1_4 : mm_gd.1 1 0 4 = some (6, 0) := rfl
theorem gr_1_5 : mm_gd.1 1 0 5 = some (7, 0) := rfl
theorem gr_1_6 : mm_gd.1 1 0 6 = some (8, 0) := rfl
theorem gr_1_7 : mm_gd.1 1 0 7 = some (9, 0) := rfl
theorem gr_1_8 : mm_gd.1 1 0 8 = some (10, 0) := rfl
theorem gr_1_9 : mm_gd.1 1 0 9 = some (11, 0) := rfl
theorem gr_12_0 : mm_gd.1 12 0 0 = some (1, 0) := rfl
theorem gr_12_1 : mm_gd.1 12 0 1 = some (13, 0) := rfl
theorem gr_21_0 : mm_gd.1 21 0 0 = some (1, 0) := rfl
theorem gr_21_1 : mm_gd.1 21 0 1 = some (13, 0) := rfl
theorem gr_30_5 : mm_gd.1 30 0 5 = some (31, 0) := rfl
theorem gr_30_6 : mm_gd.1 30 0 6 = some (32, 0) := rfl
theorem gr_30_7 : mm_gd.1 30 0 7 = some (33, 0) := rfl
theorem gr_30_8 : mm_gd.1 30 0 8 = some (34, 0) := rfl
theorem gr_30_9 : mm_gd.1 30 0 9 = some (35, 0) := rfl
theorem gr_30_10 : mm_gd.1 30 0 10 = some (36, 0) := rfl
theorem gr_30_11 : mm_gd.1 30 0 11 = some (37, 0) := rfl
theorem gr_30_12 : mm_gd.1 30 0 12 = some (38, 0) := rfl
theorem gr_30_13 : mm_gd.1 30 0 13 = some (39, 0) := rfl
theorem gr_30_14 : mm_gd.1 30 0 14 = some (40, 0) := rfl
theorem gr_30_15 : mm_gd.1 30 0 15 = some (41, 0) := rfl
theorem gr_30_16 : mm_gd.1 30 0 16 = some (42, 0) := rfl
theorem gr_30_17 : mm_gd.1 30 0 17 = some (43, 0) := rfl
theorem gr_30_18 : mm_gd.1 30 0 18 = some (44, 0) := rfl
theorem gr_30_19 : mm_gd.1 30 0 19 = some (45, 0) := rfl
theorem gr_30_20 : mm_gd.1 30 0 20 = some (46, 0) := rfl
theorem gr_30_21 : mm_gd.1 30 0 21 = some (47, 0) := rfl
theorem gr_30_22 : mm_gd.1 30 0 22 = some (48, 0) := rfl
theorem gr_30_23 : mm_gd.1 30 0 23 = some (49, 0) := rfl
theorem gr_30_24 : mm_gd.1 30 0 24 = some (50, 0) := rfl
theorem gr_30_25 : mm_gd.1 30 0 25 = some (51, 0) := rfl
theorem gr_30_26 : mm_gd.1 30 0 26 = some (52, 0) := rfl
theorem gr_30_27 : mm_gd.1 30 0 27 = some (53, 0) := rfl
theorem gr_30_28 : mm_gd.1 30 0 28 = some (54, 0) := rfl
theorem gr_30_29 : mm_gd.1 30 0 29 = some (55, 0) := rfl
theorem gr_30_35 : mm_gd.1 30 0 35 = some (56, 0) := rfl
theorem gr_30_36 : mm_gd.1 30 0 36 = some (57, 0) := rfl
theorem gr_13 {k : Nat} (h : k < 20) : mm_gd.1 13 0 k = some (14, k) := if_pos h
theorem gr_14_2 {i : Nat} (h : i < 20) : mm_gd.1 14 i 2 = some (15, i) := by
  show mm_rc 14 i 2 = _
  unfold mm_rc
  split
  · rfl
  · rw [if_pos ⟨rfl, h⟩]
    rfl
theorem gr_14_3 {i : Nat} (h : i < 20) : mm_gd.1 14 i 3 = some (16, i) := by
  show mm_rc 14 i 3 = _
  unfold mm_rc
  split
  · rfl
  · rw [if_pos ⟨rfl, h⟩]
    rfl
theorem gr_14_4 {i : Nat} (h : i < 20) : mm_gd.1 14 i 4 = some (17, i) := by
  show mm_rc 14 i 4 = _
  unfold mm_rc
  split
  · rfl
  · rw [if_pos ⟨rfl, h⟩]
    rfl
theorem gr_14_5 {i : Nat} (h : i < 20) : mm_gd.1 14 i 5 = some (18, i) := by
  show mm_rc 14 i 5 = _
  unfold mm_rc
  split
  · rfl
  · rw [if_pos ⟨rfl, h⟩]
    rfl
theorem gr_14_6 {i : Nat} (h : i < 20) : mm_gd.1 14 i 6 = some (19, i) := by
  show mm_rc 14 i 6 = _
  unfold mm_rc
  split
  · rfl
  · rw [if_pos ⟨rfl, h⟩]
    rfl
theorem gr_14_7 {i : Nat} (h : i < 20) : mm_gd.1 14 i 7 = some (20, i) := by
  show mm_rc 14 i 7 = _
  unfold mm_rc
  split
  · rfl
  · rw [if_pos ⟨rfl, h⟩]
    rfl
theorem gf_0_0 : mm_ft 0 0 = .object "StagedCompiler$Program" := rfl
theorem gn_0_0 {g : mm_F} : mm_pf g 0 0 = (mm_fin 0 0 = false ∨ (g.1 = 0 ∧ g.2.2.2.2.2.2.2 = true)) := rfl
theorem gq_0_0 : mm_fin 0 0 = true := rfl
theorem gf_0_1 : mm_ft 0 1 = .object "StagedCompiler$Compilation" := rfl
theorem gn_0_1 {g : mm_F} : mm_pf g 0 1 = (mm_fin 0 1 = false ∨ (g.1 = 0 ∧ g.2.2.2.2.2.2.2 = true)) := rfl
theorem gq_0_1 : mm_fin 0 1 = true := rfl
theorem gf_0_2 : mm_ft 0 2 = .object "StagedCompiler$Machine" := rfl
theorem gn_0_2 {g : mm_F} : mm_pf g 0 2 = (mm_fin 0 2 = false ∨ (g.1 = 0 ∧ g.2.2.2.2.2.2.2 = true)) := rfl
theorem gq_0_2 : mm_fin 0 2 = true := rfl
theorem gf_1_0 : mm_ft 1 0 = .array .int := rfl
theorem gn_1_0 {g : mm_F} : mm_pf g 1 0 = (mm_fin 1 0 = false ∨ (g.1 = 1 ∧ g.2.2.2.2.2.2.2 = true)) := rfl
theorem gq_1_0 : mm_fin 1 0 = true := rfl
theorem gf_1_1 : mm_ft 1 1 = .array .int := rfl
theorem gn_1_1 {g : mm_F} : mm_pf g 1 1 = (mm_fin 1 1 = false ∨ (g.1 = 1 ∧ g.2.2.2.2.2.2.2 = true)) := rfl
theorem gq_1_1 : mm_fin 1 1 = true := rfl
theorem gf_1_2 : mm_ft 1 2 = .array .int := rfl
theorem gn_1_2 {g : mm_F} : mm_pf g 1 2 = (mm_fin 1 2 = false ∨ (g.1 = 1 ∧ g.2.2.2.2.2.2.2 = true)) := rfl
theorem gq_1_2 : mm_fin 1 2 = true := rfl
theorem gf_1_3 : mm_ft 1 3 = .array .int := rfl
theorem gn_1_3 {g : mm_F} : mm_pf g 1 3 = (mm_fin 1 3 = false ∨ (g.1 = 1 ∧ g.2.2.2.2.2.2.2 = true)) := rfl
theorem gq_1_3 : mm_fin 1 3 = true := rfl
theorem gf_1_4 : mm_ft 1 4 = .array .int := rfl
theorem gn_1_4 {g : mm_F} : mm_pf g 1 4 = (mm_fin 1 4 = false ∨ (g.1 = 1 ∧ g.2.2.2.2.2.2.2 = true)) := rfl
theorem gq_1_4 : mm_fin 1 4 = true := rfl
theorem gf_1_5 : mm_ft 1 5 = .array .boolean := rfl
theorem gn_1_5 {g : mm_F} : mm_pf g 1 5 = (mm_fin 1 5 = false ∨ (g.1 = 1 ∧ g.2.2.2.2.2.2.2 = true)) := rfl
theorem gq_1_5 : mm_fin 1 5 = true := rfl
theorem gf_1_6 : mm_ft 1 6 = .array .int := rfl
theorem gn_1_6 {g : mm_F} : mm_pf g 1 6 = (mm_fin 1 6 = false ∨ (g.1 = 1 ∧ g.2.2.2.2.2.2.2 = true)) := rfl
theorem gq_1_6 : mm_fin 1 6 = true := rfl
theorem gf_1_7 : mm_ft 1 7 = .array .int := rfl
theorem gn_1_7 {g : mm_F} : mm_pf g 1 7 = (mm_fin 1 7 = false ∨ (g.1 = 1 ∧ g.2.2.2.2.2.2.2 = true)) := rfl
theorem gq_1_7 : mm_fin 1 7 = true := rfl
theorem gf_1_8 : mm_ft 1 8 = .array .int := rfl
theorem gn_1_8 {g : mm_F} : mm_pf g 1 8 = (mm_fin 1 8 = false ∨ (g.1 = 1 ∧ g.2.2.2.2.2.2.2 = true)) := rfl
theorem gq_1_8 : mm_fin 1 8 = true := rfl
theorem gf_1_9 : mm_ft 1 9 = .array .int := rfl
theorem gn_1_9 {g : mm_F} : mm_pf g 1 9 = (mm_fin 1 9 = false ∨ (g.1 = 1 ∧ g.2.2.2.2.2.2.2 = true)) := rfl
theorem gq_1_9 : mm_fin 1 9 = true := rfl
theorem gf_1_10 : mm_ft 1 10 = .int := rfl
theorem gn_1_10 {g : mm_F} : mm_pf g 1 10 = (mm_fin 1 10 = false ∨ (g.1 = 1 ∧ g.2.2.2.2.2.2.2 = true)) := rfl
theorem gq_1_10 : mm_fin 1 10 = false := rfl
theorem gf_1_11 : mm_ft 1 11 = .int := rfl
theorem gn_1_11 {g : mm_F} : mm_pf g 1 11 = (mm_fin 1 11 = false ∨ (g.1 = 1 ∧ g.2.2.2.2.2.2.2 = true)) := rfl
theorem gq_1_11 : mm_fin 1 11 = false := rfl
theorem gf_2_0 : mm_ft 2 0 = .object "StagedCompiler$Program" := rfl
theorem gn_2_0 {g : mm_F} : mm_pf g 2 0 = (mm_fin 2 0 = false ∨ (g.1 = 2 ∧ g.2.2.2.2.2.2.2 = true)) := rfl
theorem gq_2_0 : mm_fin 2 0 = true := rfl
theorem gf_2_1 : mm_ft 2 1 = .array (.object "StagedCompiler$Instance") := rfl
theorem gn_2_1 {g : mm_F} : mm_pf g 2 1 = (mm_fin 2 1 = false ∨ (g.1 = 2 ∧ g.2.2.2.2.2.2.2 = true)) := rfl
theorem gq_2_1 : mm_fin 2 1 = true := rfl
theorem gf_2_2 : mm_ft 2 2 = .int := rfl
theorem gn_2_2 {g : mm_F} : mm_pf g 2 2 = (mm_fin 2 2 = false ∨ (g.1 = 2 ∧ g.2.2.2.2.2.2.2 = true)) := rfl
theorem gq_2_2 : mm_fin 2 2 = false := rfl
theorem gf_2_3 : mm_ft 2 3 = .int := rfl
theorem gn_2_3 {g : mm_F} : mm_pf g 2 3 = (mm_fin 2 3 = false ∨ (g.1 = 2 ∧ g.2.2.2.2.2.2.2 = true)) := rfl
theorem gq_2_3 : mm_fin 2 3 = false := rfl
theorem gf_2_4 : mm_ft 2 4 = .int := rfl
theorem gn_2_4 {g : mm_F} : mm_pf g 2 4 = (mm_fin 2 4 = false ∨ (g.1 = 2 ∧ g.2.2.2.2.2.2.2 = true)) := rfl
theorem gq_2_4 : mm_fin 2 4 = false := rfl
theorem gf_3_0 : mm_ft 3 0 = .int := rfl
theorem gn_3_0 {g : mm_F} : mm_pf g 3 0 = (mm_fin 3 0 = false ∨ (g.1 = 3 ∧ g.2.2.2.2.2.2.2 = true)) := rfl
theorem gq_3_0 : mm_fin 3 0 = false := rfl
theorem gf_3_1 : mm_ft 3 1 = .int := rfl
theorem gn_3_1 {g : mm_F} : mm_pf g 3 1 = (mm_fin 3 1 = false ∨ (g.1 = 3 ∧ g.2.2.2.2.2.2.2 = true)) := rfl
theorem gq_3_1 : mm_fin 3 1 = false := rfl
theorem gf_3_2 : mm_ft 3 2 = .array .int := rfl
theorem gn_3_2 {g : mm_F} : mm_pf g 3 2 = (mm_fin 3 2 = false ∨ (g.1 = 3 ∧ g.2.2.2.2.2.2.2 = true)) := rfl
theorem gq_3_2 : mm_fin 3 2 = true := rfl
theorem gf_3_3 : mm_ft 3 3 = .array .long := rfl
theorem gn_3_3 {g : mm_F} : mm_pf g 3 3 = (mm_fin 3 3 = false ∨ (g.1 = 3 ∧ g.2.2.2.2.2.2.2 = true)) := rfl
theorem gq_3_3 : mm_fin 3 3 = true := rfl
theorem gf_3_4 : mm_ft 3 4 = .array .int := rfl
theorem gn_3_4 {g : mm_F} : mm_pf g 3 4 = (mm_fin 3 4 = false ∨ (g.1 = 3 ∧ g.2.2.2.2.2.2.2 = true)) := rfl
theorem gq_3_4 : mm_fin 3 4 = true := rfl
theorem gf_3_5 : mm_ft 3 5 = .array .boolean := rfl
theorem gn_3_5 {g : mm_F} : mm_pf g 3 5 = (mm_fin 3 5 = false ∨ (g.1 = 3 ∧ g.2.2.2.2.2.2.2 = true)) := rfl
theorem gq_3_5 : mm_fin 3 5 = true := rfl
theorem gf_3_6 : mm_ft 3 6 = .array .long := rfl
theorem gn_3_6 {g : mm_F} : mm_pf g 3 6 = (mm_fin 3 6 = false ∨ (g.1 = 3 ∧ g.2.2.2.2.2.2.2 = true)) := rfl
theorem gq_3_6 : mm_fin 3 6 = true := rfl
theorem gf_3_7 : mm_ft 3 7 = .array .int := rfl
theorem gn_3_7 {g : mm_F} : mm_pf g 3 7 = (mm_fin 3 7 = false ∨ (g.1 = 3 ∧ g.2.2.2.2.2.2.2 = true)) := rfl
theorem gq_3_7 : mm_fin 3 7 = true := rfl
theorem gf_4_0 : mm_ft 4 0 = .object "StagedCompiler$Program" := rfl
theorem gn_4_0 {g : mm_F} : mm_pf g 4 0 = (mm_fin 4 0 = false ∨ (g.1 = 4 ∧ g.2.2.2.2.2.2.2 = true)) := rfl
theorem gq_4_0 : mm_fin 4 0 = true := rfl
theorem gf_4_1 : mm_ft 4 1 = .array (.object "StagedCompiler$Instance") := rfl
theorem gn_4_1 {g : mm_F} : mm_pf g 4 1 = (mm_fin 4 1 = false ∨ (g.1 = 4 ∧ g.2.2.2.2.2.2.2 = true)) := rfl
theorem gq_4_1 : mm_fin 4 1 = true := rfl
theorem gf_4_2 : mm_ft 4 2 = .int := rfl
theorem gn_4_2 {g : mm_F} : mm_pf g 4 2 = (mm_fin 4 2 = false ∨ (g.1 = 4 ∧ g.2.2.2.2.2.2.2 = true)) := rfl
theorem gq_4_2 : mm_fin 4 2 = false := rfl
theorem gf_4_3 : mm_ft 4 3 = .int := rfl
theorem gn_4_3 {g : mm_F} : mm_pf g 4 3 = (mm_fin 4 3 = false ∨ (g.1 = 4 ∧ g.2.2.2.2.2.2.2 = true)) := rfl
theorem gq_4_3 : mm_fin 4 3 = false := rfl
theorem gf_5_0 : mm_ft 5 0 = .int := rfl
theorem gn_5_0 {g : mm_F} : mm_pf g 5 0 = (mm_fin 5 0 = false ∨ (g.1 = 5 ∧ g.2.2.2.2.2.2.2 = true)) := rfl
theorem gq_5_0 : mm_fin 5 0 = false := rfl
theorem gf_5_1 : mm_ft 5 1 = .int := rfl
theorem gn_5_1 {g : mm_F} : mm_pf g 5 1 = (mm_fin 5 1 = false ∨ (g.1 = 5 ∧ g.2.2.2.2.2.2.2 = true)) := rfl
theorem gq_5_1 : mm_fin 5 1 = false := rfl
theorem gf_5_2 : mm_ft 5 2 = .int := rfl
theorem gn_5_2 {g : mm_F} : mm_pf g 5 2 = (mm_fin 5 2 = false ∨ (g.1 = 5 ∧ g.2.2.2.2.2.2.2 = true)) := rfl
theorem gq_5_2 : mm_fin 5 2 = false := rfl
theorem gf_5_3 : mm_ft 5 3 = .int := rfl
theorem gn_5_3 {g : mm_F} : mm_pf g 5 3 = (mm_fin 5 3 = false ∨ (g.1 = 5 ∧ g.2.2.2.2.2.2.2 = true)) := rfl
theorem gq_5_3 : mm_fin 5 3 = false := rfl
theorem gf_5_4 : mm_ft 5 4 = .int := rfl
theorem gn_5_4 {g : mm_F} : mm_pf g 5 4 = (mm_fin 5 4 = false ∨ (g.1 = 5 ∧ g.2.2.2.2.2.2.2 = true)) := rfl
theorem gq_5_4 : mm_fin 5 4 = false := rfl
theorem gf_5_5 : mm_ft 5 5 = .array .int := rfl
theorem gn_5_5 {g : mm_F} : mm_pf g 5 5 = (mm_fin 5 5 = false ∨ (g.1 = 5 ∧ g.2.2.2.2.2.2.2 = true)) := rfl
theorem gq_5_5 : mm_fin 5 5 = true := rfl
theorem gf_5_6 : mm_ft 5 6 = .array .int := rfl
theorem gn_5_6 {g : mm_F} : mm_pf g 5 6 = (mm_fin 5 6 = false ∨ (g.1 = 5 ∧ g.2.2.2.2.2.2.2 = true)) := rfl
theorem gq_5_6 : mm_fin 5 6 = true := rfl
theorem gf_5_7 : mm_ft 5 7 = .array .int := rfl
theorem gn_5_7 {g : mm_F} : mm_pf g 5 7 = (mm_fin 5 7 = false ∨ (g.1 = 5 ∧ g.2.2.2.2.2.2.2 = true)) := rfl
theorem gq_5_7 : mm_fin 5 7 = true := rfl
theorem gf_5_8 : mm_ft 5 8 = .array .int := rfl
theorem gn_5_8 {g : mm_F} : mm_pf g 5 8 = (mm_fin 5 8 = false ∨ (g.1 = 5 ∧ g.2.2.2.2.2.2.2 = true)) := rfl
theorem gq_5_8 : mm_fin 5 8 = true := rfl
theorem gf_5_9 : mm_ft 5 9 = .array .int := rfl
theorem gn_5_9 {g : mm_F} : mm_pf g 5 9 = (mm_fin 5 9 = false ∨ (g.1 = 5 ∧ g.2.2.2.2.2.2.2 = true)) := rfl
theorem gq_5_9 : mm_fin 5 9 = true := rfl
theorem gf_5_10 : mm_ft 5 10 = .array .boolean := rfl
theorem gn_5_10 {g : mm_F} : mm_pf g 5 10 = (mm_fin 5 10 = false ∨ (g.1 = 5 ∧ g.2.2.2.2.2.2.2 = true)) := rfl
theorem gq_5_10 : mm_fin 5 10 = true := rfl
theorem gf_5_11 : mm_ft 5 11 = .array .int := rfl
theorem gn_5_11 {g : mm_F} : mm_pf g 5 11 = (mm_fin 5 11 = false ∨ (g.1 = 5 ∧ g.2.2.2.2.2.2.2 = true)) := rfl
theorem gq_5_11 : mm_fin 5 11 = true := rfl
theorem gf_5_12 : mm_ft 5 12 = .array .int := rfl
theorem gn_5_12 {g : mm_F} : mm_pf g 5 12 = (mm_fin 5 12 = false ∨ (g.1 = 5 ∧ g.2.2.2.2.2.2.2 = true)) := rfl
theorem gq_5_12 : mm_fin 5 12 = true := rfl
theorem gf_5_13 : mm_ft 5 13 = .array .int := rfl
theorem gn_5_13 {g : mm_F} : mm_pf g 5 13 = (mm_fin 5 13 = false ∨ (g.1 = 5 ∧ g.2.2.2.2.2.2.2 = true)) := rfl
theorem gq_5_13 : mm_fin 5 13 = true := rfl
theorem gf_5_14 : mm_ft 5 14 = .array .int := rfl
theorem gn_5_14 {g : mm_F} : mm_pf g 5 14 = (mm_fin 5 14 = false ∨ (g.1 = 5 ∧ g.2.2.2.2.2.2.2 = true)) := rfl
theorem gq_5_14 : mm_fin 5 14 = true := rfl
theorem gf_5_15 : mm_ft 5 15 = .array .int := rfl
theorem gn_5_15 {g : mm_F} : mm_pf g 5 15 = (mm_fin 5 15 = false ∨ (g.1 = 5 ∧ g.2.2.2.2.2.2.2 = true)) := rfl
theorem gq_5_15 : mm_fin 5 15 = true := rfl
theorem gf_5_16 : mm_ft 5 16 = .array .int := rfl
theorem gn_5_16 {g : mm_F} : mm_pf g 5 16 = (mm_fin 5 16 = false ∨ (g.1 = 5 ∧ g.2.2.2.2.2.2.2 = true)) := rfl
theorem gq_5_16 : mm_fin 5 16 = true := rfl
theorem gf_5_17 : mm_ft 5 17 = .array .int := rfl
theorem gn_5_17 {g : mm_F} : mm_pf g 5 17 = (mm_fin 5 17 = false ∨ (g.1 = 5 ∧ g.2.2.2.2.2.2.2 = true)) := rfl
theorem gq_5_17 : mm_fin 5 17 = true := rfl
theorem gf_5_18 : mm_ft 5 18 = .array .boolean := rfl
theorem gn_5_18 {g : mm_F} : mm_pf g 5 18 = (mm_fin 5 18 = false ∨ (g.1 = 5 ∧ g.2.2.2.2.2.2.2 = true)) := rfl
theorem gq_5_18 : mm_fin 5 18 = true := rfl
theorem gf_5_19 : mm_ft 5 19 = .array .boolean := rfl
theorem gn_5_19 {g : mm_F} : mm_pf g 5 19 = (mm_fin 5 19 = false ∨ (g.1 = 5 ∧ g.2.2.2.2.2.2.2 = true)) := rfl
theorem gq_5_19 : mm_fin 5 19 = true := rfl
theorem gf_5_20 : mm_ft 5 20 = .array .int := rfl
theorem gn_5_20 {g : mm_F} : mm_pf g 5 20 = (mm_fin 5 20 = false ∨ (g.1 = 5 ∧ g.2.2.2.2.2.2.2 = true)) := rfl
theorem gq_5_20 : mm_fin 5 20 = true := rfl
theorem gf_5_21 : mm_ft 5 21 = .array .int := rfl
theorem gn_5_21 {g : mm_F} : mm_pf g 5 21 = (mm_fin 5 21 = false ∨ (g.1 = 5 ∧ g.2.2.2.2.2.2.2 = true)) := rfl
theorem gq_5_21 : mm_fin 5 21 = true := rfl
theorem gf_5_22 : mm_ft 5 22 = .array .long := rfl
theorem gn_5_22 {g : mm_F} : mm_pf g 5 22 = (mm_fin 5 22 = false ∨ (g.1 = 5 ∧ g.2.2.2.2.2.2.2 = true)) := rfl
theorem gq_5_22 : mm_fin 5 22 = true := rfl
theorem gf_5_23 : mm_ft 5 23 = .array .int := rfl
theorem gn_5_23 {g : mm_F} : mm_pf g 5 23 = (mm_fin 5 23 = false ∨ (g.1 = 5 ∧ g.2.2.2.2.2.2.2 = true)) := rfl
theorem gq_5_23 : mm_fin 5 23 = true := rfl
theorem gf_5_24 : mm_ft 5 24 = .array .int := rfl
theorem gn_5_24 {g : mm_F} : mm_pf g 5 24 = (mm_fin 5 24 = false ∨ (g.1 = 5 ∧ g.2.2.2.2.2.2.2 = true)) := rfl
theorem gq_5_24 : mm_fin 5 24 = true := rfl
theorem gf_5_25 : mm_ft 5 25 = .array .int := rfl
theorem gn_5_25 {g : mm_F} : mm_pf g 5 25 = (mm_fin 5 25 = false ∨ (g.1 = 5 ∧ g.2.2.2.2.2.2.2 = true)) := rfl
theorem gq_5_25 : mm_fin 5 25 = true := rfl
theorem gf_5_26 : mm_ft 5 26 = .array .long := rfl
theorem gn_5_26 {g : mm_F} : mm_pf g 5 26 = (mm_fin 5 26 = false ∨ (g.1 = 5 ∧ g.2.2.2.2.2.2.2 = true)) := rfl
theorem gq_5_26 : mm_fin 5 26 = true := rfl
theorem gf_5_27 : mm_ft 5 27 = .array .long := rfl
theorem gn_5_27 {g : mm_F} : mm_pf g 5 27 = (mm_fin 5 27 = false ∨ (g.1 = 5 ∧ g.2.2.2.2.2.2.2 = true)) := rfl
theorem gq_5_27 : mm_fin 5 27 = true := rfl
theorem gf_5_28 : mm_ft 5 28 = .array .long := rfl
theorem gn_5_28 {g : mm_F} : mm_pf g 5 28 = (mm_fin 5 28 = false ∨ (g.1 = 5 ∧ g.2.2.2.2.2.2.2 = true)) := rfl
theorem gq_5_28 : mm_fin 5 28 = true := rfl
theorem gf_5_29 : mm_ft 5 29 = .array .long := rfl
theorem gn_5_29 {g : mm_F} : mm_pf g 5 29 = (mm_fin 5 29 = false ∨ (g.1 = 5 ∧ g.2.2.2.2.2.2.2 = true)) := rfl
theorem gq_5_29 : mm_fin 5 29 = true := rfl
theorem gf_5_30 : mm_ft 5 30 = .int := rfl
theorem gn_5_30 {g : mm_F} : mm_pf g 5 30 = (mm_fin 5 30 = false ∨ (g.1 = 5 ∧ g.2.2.2.2.2.2.2 = true)) := rfl
theorem gq_5_30 : mm_fin 5 30 = false := rfl
theorem gf_5_31 : mm_ft 5 31 = .int := rfl
theorem gn_5_31 {g : mm_F} : mm_pf g 5 31 = (mm_fin 5 31 = false ∨ (g.1 = 5 ∧ g.2.2.2.2.2.2.2 = true)) := rfl
theorem gq_5_31 : mm_fin 5 31 = false := rfl
theorem gf_5_32 : mm_ft 5 32 = .int := rfl
theorem gn_5_32 {g : mm_F} : mm_pf g 5 32 = (mm_fin 5 32 = false ∨ (g.1 = 5 ∧ g.2.2.2.2.2.2.2 = true)) := rfl
theorem gq_5_32 : mm_fin 5 32 = false := rfl
theorem gf_5_33 : mm_ft 5 33 = .long := rfl
theorem gn_5_33 {g : mm_F} : mm_pf g 5 33 = (mm_fin 5 33 = false ∨ (g.1 = 5 ∧ g.2.2.2.2.2.2.2 = true)) := rfl
theorem gq_5_33 : mm_fin 5 33 = false := rfl
theorem gf_5_34 : mm_ft 5 34 = .long := rfl
theorem gn_5_34 {g : mm_F} : mm_pf g 5 34 = (mm_fin 5 34 = false ∨ (g.1 = 5 ∧ g.2.2.2.2.2.2.2 = true)) := rfl
theorem gq_5_34 : mm_fin 5 34 = false := rfl
theorem gf_5_35 : mm_ft 5 35 = .array .long := rfl
theorem gn_5_35 {g : mm_F} : mm_pf g 5 35 = (mm_fin 5 35 = false ∨ (g.1 = 5 ∧ g.2.2.2.2.2.2.2 = true)) := rfl
theorem gq_5_35 : mm_fin 5 35 = true := rfl
theorem gf_5_36 : mm_ft 5 36 = .array .long := rfl
theorem gn_5_36 {g : mm_F} : mm_pf g 5 36 = (mm_fin 5 36 = false ∨ (g.1 = 5 ∧ g.2.2.2.2.2.2.2 = true)) := rfl
theorem gq_5_36 : mm_fin 5 36 = true := rfl
theorem mk_0 : mm_mk 0 = 0 := rfl
theorem mk_1 : mm_mk 1 = 1 := rfl
theorem mk_2 : mm_mk 2 = 2 := rfl
theorem mk_3 : mm_mk 3 = 3 := rfl
theorem mk_4 : mm_mk 4 = 4 := rfl
theorem mk_5 : mm_mk 5 = 5 := rfl
theorem mk_8 : mm_mk 8 = 0 := rfl
theorem mk_9 : mm_mk 9 = 0 := rfl
theorem mk_10 : mm_mk 10 = 0 := rfl
theorem mk_11 : mm_mk 11 = 0 := rfl
theorem mk_12 : mm_mk 12 = 0 := rfl
theorem mk_13 : mm_mk 13 = 0 := rfl
theorem mk_14 : mm_mk 14 = 0 := rfl
theorem mk_15 : mm_mk 15 = 0 := rfl
theorem mk_16 : mm_mk 16 = 0 := rfl
theorem mk_17 : mm_mk 17 = 0 := rfl
theorem mk_18 : mm_mk 18 = 0 := rfl
theorem mk_19 : mm_mk 19 = 1 := rfl
theorem mk_20 : mm_mk 20 = 1 := rfl
theorem mk_21 : mm_mk 21 = 1 := rfl
theorem mk_22 : mm_mk 22 = 1 := rfl
theorem mk_23 : mm_mk 23 = 1 := rfl
theorem mk_24 : mm_mk 24 = 1 := rfl
theorem mk_25 : mm_mk 25 = 1 := rfl
theorem mk_26 : mm_mk 26 = 1 := rfl
theorem mk_27 : mm_mk 27 = 1 := rfl
theorem mk_28 : mm_mk 28 = 2 := rfl
theorem mk_29 : mm_mk 29 = 2 := rfl
theorem mk_30 : mm_mk 30 = 2 := rfl
theorem mk_31 : mm_mk 31 = 2 := rfl
theorem mk_32 : mm_mk 32 = 2 := rfl
theorem mk_33 : mm_mk 33 = 2 := rfl
theorem mk_34 : mm_mk 34 = 2 := rfl
theorem mk_35 : mm_mk 35 = 2 := rfl
theorem mk_36 : mm_mk 36 = 2 := rfl
theorem mk_37 : mm_mk 37 = 2 := rfl
theorem mk_38 : mm_mk 38 = 2 := rfl
theorem mk_39 : mm_mk 39 = 2 := rfl
theorem mk_40 : mm_mk 40 = 2 := rfl
theorem mk_41 : mm_mk 41 = 2 := rfl
theorem mk_42 : mm_mk 42 = 2 := rfl
theorem mk_43 : mm_mk 43 = 2 := rfl
theorem mk_44 : mm_mk 44 = 2 := rfl
theorem mk_45 : mm_mk 45 = 2 := rfl
theorem mk_46 : mm_mk 46 = 3 := rfl
theorem mk_47 : mm_mk 47 = 3 := rfl
theorem mk_48 : mm_mk 48 = 3 := rfl
theorem mk_49 : mm_mk 49 = 3 := rfl
theorem mk_50 : mm_mk 50 = 3 := rfl
theorem mk_51 : mm_mk 51 = 3 := rfl
theorem mk_52 : mm_mk 52 = 3 := rfl
theorem mk_53 : mm_mk 53 = 3 := rfl
theorem mk_54 : mm_mk 54 = 3 := rfl
theorem mk_55 : mm_mk 55 = 3 := rfl
theorem mk_56 : mm_mk 56 = 4 := rfl
theorem mk_57 : mm_mk 57 = 4 := rfl
theorem mk_58 : mm_mk 58 = 4 := rfl
theorem mk_59 : mm_mk 59 = 4 := rfl
theorem mk_60 : mm_mk 60 = 4 := rfl
theorem mk_61 : mm_mk 61 = 4 := rfl
theorem mk_62 : mm_mk 62 = 5 := rfl
theorem mk_63 : mm_mk 63 = 5 := rfl
theorem mk_64 : mm_mk 64 = 5 := rfl
theorem mk_65 : mm_mk 65 = 5 := rfl
theorem mk_66 : mm_mk 66 = 5 := rfl
theorem mk_67 : mm_mk 67 = 5 := rfl
theorem mk_68 : mm_mk 68 = 5 := rfl
theorem mk_69 : mm_mk 69 = 5 := rfl
theorem mk_70 : mm_mk 70 = 5 := rfl
theorem mk_71 : mm_mk 71 = 5 := rfl
theorem mk_72 : mm_mk 72 = 5 := rfl
theorem mk_73 : mm_mk 73 = 5 := rfl
theorem mk_74 : mm_mk 74 = 5 := rfl
theorem mk_75 : mm_mk 75 = 5 := rfl
theorem mk_76 : mm_mk 76 = 5 := rfl
theorem mk_77 : mm_mk 77 = 5 := rfl
theorem mk_78 : mm_mk 78 = 5 := rfl
theorem mk_79 : mm_mk 79 = 5 := rfl
theorem mk_80 : mm_mk 80 = 5 := rfl
theorem mk_81 : mm_mk 81 = 5 := rfl
theorem mk_82 : mm_mk 82 = 5 := rfl
theorem mk_83 : mm_mk 83 = 5 := rfl
theorem mk_84 : mm_mk 84 = 5 := rfl
theorem mk_85 : mm_mk 85 = 5 := rfl
theorem mk_86 : mm_mk 86 = 5 := rfl
theorem mk_87 : mm_mk 87 = 5 := rfl
theorem mk_88 : mm_mk 88 = 5 := rfl
theorem mk_89 : mm_mk 89 = 5 := rfl
theorem mk_90 : mm_mk 90 = 5 := rfl
theorem mk_91 : mm_mk 91 = 5 := rfl
theorem mk_92 : mm_mk 92 = 5 := rfl
theorem mk_93 : mm_mk 93 = 5 := rfl
theorem mk_94 : mm_mk 94 = 5 := rfl
theorem mk_95 : mm_mk 95 = 5 := rfl
theorem mk_96 : mm_mk 96 = 5 := rfl
theorem mk_97 : mm_mk 97 = 5 := rfl
theorem mk_98 : mm_mk 98 = 5 := rfl
theorem mk_99 : mm_mk 99 = 5 := rfl
theorem mk_100 : mm_mk 100 = 5 := rfl
theorem mk_101 : mm_mk 101 = 5 := rfl
theorem mk_102 : mm_mk 102 = 5 := rfl
theorem mk_103 : mm_mk 103 = 5 := rfl
theorem mk_104 : mm_mk 104 = 5 := rfl
theorem mk_105 : mm_mk 105 = 5 := rfl
theorem mk_106 : mm_mk 106 = 5 := rfl
theorem mk_107 : mm_mk 107 = 5 := rfl
theorem mk_108 : mm_mk 108 = 6 := rfl
theorem mk_109 : mm_mk 109 = 6 := rfl
theorem mk_110 : mm_mk 110 = 6 := rfl
theorem mk_111 : mm_mk 111 = 6 := rfl
theorem mk_112 : mm_mk 112 = 7 := rfl
theorem mk_113 : mm_mk 113 = 7 := rfl
theorem mk_114 : mm_mk 114 = 7 := rfl
theorem mk_115 : mm_mk 115 = 7 := rfl
theorem mk_116 : mm_mk 116 = 7 := rfl
theorem mk_117 : mm_mk 117 = 7 := rfl
theorem mk_118 : mm_mk 118 = 7 := rfl
theorem mk_119 : mm_mk 119 = 7 := rfl
theorem mk_120 : mm_mk 120 = 8 := rfl
theorem mk_121 : mm_mk 121 = 8 := rfl
theorem mk_122 : mm_mk 122 = 8 := rfl
theorem mk_123 : mm_mk 123 = 8 := rfl
theorem mk_124 : mm_mk 124 = 8 := rfl
section MMQ
variable {M : mm_M} {f i k : Nat}
theorem gs_1 {x : Int32} : (mm_sI M f i k x).2 = M.2 := rfl
theorem gs_2 {x : Int64} : (mm_sL M f i k x).2.2 = M.2.2 := rfl
theorem gs_3 {x : Int64} : (mm_sL M f i k x).1 = M.1 := rfl
theorem gs_4 {x : Int32} : (mm_sI M f i k x).1 = mm_u M.1 f i k x := rfl
theorem gs_5 {x : Int64} : (mm_sL M f i k x).2.1 = mm_u M.2.1 f i k x := rfl
theorem gg_i : mm_get M .int f i k = .inl (M.1 f i k) := rfl
theorem gg_z : mm_get M .boolean f i k = .inl (M.1 f i k) := rfl
theorem gg_l : mm_get M .long f i k = .inr (.inl (M.2.1 f i k)) := rfl
theorem gg_o {C : String} : mm_get M (.object C) f i k = .inr (.inr (M.2.2.1 f i k)) := rfl
theorem gg_a {t : FieldType} : mm_get M (.array t) f i k = .inr (.inr (M.2.2.1 f i k)) := rfl
theorem gi_s {ci : Nat} : mm_is M f i ci = (mm_Y f = .inl ci ∧ f ≠ 999 ∧ M.2.2.2 f i) := rfl
theorem gi_a {ty : FieldType} : mm_ia M f i ty = (mm_Y f = .inr (ty, mm_len f) ∧ f ≠ 999 ∧ M.2.2.2 f i) := rfl
end MMQ
