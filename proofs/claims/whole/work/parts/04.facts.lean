/-! what the tables say of these -/
def mm_clP (ci : Nat) (r : vw_C) : Prop := r.1 = mm_nm ci ∧ r.2.2 = mm_N ci ∧ (∀ w ∈ u_ws r.1 r.2.1 r.2.2, w ∈ mm_T) ∧ (∀ k, k < r.2.2 → parseFieldDescriptor (r.2.1 k).2.2.1 = some (mm_ft ci k)) ∧ (∀ a, a < r.2.2 → ∀ b, b < r.2.2 → a ≠ b → (r.2.1 a).2.1 ≠ (r.2.1 b).2.1) ∧ ∀ k, k < r.2.2 → (r.2.1 k).2.2.2 = mm_fin ci k ∧ (r.2.1 k).1 = mm_nm ci
theorem ly_0_0 : u_lay (mm_own 0) mm_tb0 0 ∈ mm_T := (mm_mem 182 (by decide +kernel) (by decide +kernel))
theorem ly_0_1 : u_lay (mm_own 0) mm_tb0 1 ∈ mm_T := (mm_mem 184 (by decide +kernel) (by decide +kernel))
theorem ly_0_2 : u_lay (mm_own 0) mm_tb0 2 ∈ mm_T := (mm_mem 186 (by decide +kernel) (by decide +kernel))
theorem lp_0 : ∀ k, k < 3 → u_lay (mm_own 0) mm_tb0 k ∈ mm_T
  | 0, _ => ly_0_0
  | 1, _ => ly_0_1
  | 2, _ => ly_0_2
  | j + 3, h => absurd h (by omega)
theorem cp_0 : mm_clP 0 (mm_own 0, mm_tb0, 3) := by
  refine ⟨rfl, rfl, fun w hw => ?_, by decide +kernel, by decide +kernel, by decide +kernel⟩
  obtain ⟨k, hk, rfl⟩ := List.mem_map.mp hw
  exact lp_0 k (List.mem_range.mp hk)
theorem ly_1_0 : u_lay (mm_own 1) mm_tb1 0 ∈ mm_T := (mm_mem 54 (by decide +kernel) (by decide +kernel))
theorem ly_1_1 : u_lay (mm_own 1) mm_tb1 1 ∈ mm_T := (mm_mem 56 (by decide +kernel) (by decide +kernel))
theorem ly_1_2 : u_lay (mm_own 1) mm_tb1 2 ∈ mm_T := (mm_mem 58 (by decide +kernel) (by decide +kernel))
theorem ly_1_3 : u_lay (mm_own 1) mm_tb1 3 ∈ mm_T := (mm_mem 60 (by decide +kernel) (by decide +kernel))
theorem ly_1_4 : u_lay (mm_own 1) mm_tb1 4 ∈ mm_T := (mm_mem 62 (by decide +kernel) (by decide +kernel))
theorem ly_1_5 : u_lay (mm_own 1) mm_tb1 5 ∈ mm_T := (mm_mem 64 (by decide +kernel) (by decide +kernel))
theorem ly_1_6 : u_lay (mm_own 1) mm_tb1 6 ∈ mm_T := (mm_mem 66 (by decide +kernel) (by decide +kernel))
theorem ly_1_7 : u_lay (mm_own 1) mm_tb1 7 ∈ mm_T := (mm_mem 68 (by decide +kernel) (by decide +kernel))
theorem ly_1_8 : u_lay (mm_own 1) mm_tb1 8 ∈ mm_T := (mm_mem 70 (by decide +kernel) (by decide +kernel))
theorem ly_1_9 : u_lay (mm_own 1) mm_tb1 9 ∈ mm_T := (mm_mem 72 (by decide +kernel) (by decide +kernel))
theorem ly_1_10 : u_lay (mm_own 1) mm_tb1 10 ∈ mm_T := (mm_mem 74 (by decide +kernel) (by decide +kernel))
theorem ly_1_11 : u_lay (mm_own 1) mm_tb1 11 ∈ mm_T := (mm_mem 76 (by decide +kernel) (by decide +kernel))
theorem lp_1 : ∀ k, k < 12 → u_lay (mm_own 1) mm_tb1 k ∈ mm_T
  | 0, _ => ly_1_0
  | 1, _ => ly_1_1
  | 2, _ => ly_1_2
  | 3, _ => ly_1_3
  | 4, _ => ly_1_4
  | 5, _ => ly_1_5
  | 6, _ => ly_1_6
  | 7, _ => ly_1_7
  | 8, _ => ly_1_8
  | 9, _ => ly_1_9
  | 10, _ => ly_1_10
  | 11, _ => ly_1_11
  | j + 12, h => absurd h (by omega)
theorem cp_1 : mm_clP 1 (mm_own 1, mm_tb1, 12) := by
  refine ⟨rfl, rfl, fun w hw => ?_, by decide +kernel, by decide +kernel, by decide +kernel⟩
  obtain ⟨k, hk, rfl⟩ := List.mem_map.mp hw
  exact lp_1 k (List.mem_range.mp hk)
theorem ly_2_0 : u_lay (mm_own 2) mm_tb2 0 ∈ mm_T := (mm_mem 148 (by decide +kernel) (by decide +kernel))
theorem ly_2_1 : u_lay (mm_own 2) mm_tb2 1 ∈ mm_T := (mm_mem 150 (by decide +kernel) (by decide +kernel))
theorem ly_2_2 : u_lay (mm_own 2) mm_tb2 2 ∈ mm_T := (mm_mem 152 (by decide +kernel) (by decide +kernel))
theorem ly_2_3 : u_lay (mm_own 2) mm_tb2 3 ∈ mm_T := (mm_mem 154 (by decide +kernel) (by decide +kernel))
theorem ly_2_4 : u_lay (mm_own 2) mm_tb2 4 ∈ mm_T := (mm_mem 156 (by decide +kernel) (by decide +kernel))
theorem lp_2 : ∀ k, k < 5 → u_lay (mm_own 2) mm_tb2 k ∈ mm_T
  | 0, _ => ly_2_0
  | 1, _ => ly_2_1
  | 2, _ => ly_2_2
  | 3, _ => ly_2_3
  | 4, _ => ly_2_4
  | j + 5, h => absurd h (by omega)
theorem cp_2 : mm_clP 2 (mm_own 2, mm_tb2, 5) := by
  refine ⟨rfl, rfl, fun w hw => ?_, by decide +kernel, by decide +kernel, by decide +kernel⟩
  obtain ⟨k, hk, rfl⟩ := List.mem_map.mp hw
  exact lp_2 k (List.mem_range.mp hk)
theorem ly_3_0 : u_lay (mm_own 3) mm_tb3 0 ∈ mm_T := (mm_mem 122 (by decide +kernel) (by decide +kernel))
theorem ly_3_1 : u_lay (mm_own 3) mm_tb3 1 ∈ mm_T := (mm_mem 124 (by decide +kernel) (by decide +kernel))
theorem ly_3_2 : u_lay (mm_own 3) mm_tb3 2 ∈ mm_T := (mm_mem 126 (by decide +kernel) (by decide +kernel))
theorem ly_3_3 : u_lay (mm_own 3) mm_tb3 3 ∈ mm_T := (mm_mem 128 (by decide +kernel) (by decide +kernel))
theorem ly_3_4 : u_lay (mm_own 3) mm_tb3 4 ∈ mm_T := (mm_mem 130 (by decide +kernel) (by decide +kernel))
theorem ly_3_5 : u_lay (mm_own 3) mm_tb3 5 ∈ mm_T := (mm_mem 132 (by decide +kernel) (by decide +kernel))
theorem ly_3_6 : u_lay (mm_own 3) mm_tb3 6 ∈ mm_T := (mm_mem 134 (by decide +kernel) (by decide +kernel))
theorem ly_3_7 : u_lay (mm_own 3) mm_tb3 7 ∈ mm_T := (mm_mem 136 (by decide +kernel) (by decide +kernel))
theorem lp_3 : ∀ k, k < 8 → u_lay (mm_own 3) mm_tb3 k ∈ mm_T
  | 0, _ => ly_3_0
  | 1, _ => ly_3_1
  | 2, _ => ly_3_2
  | 3, _ => ly_3_3
  | 4, _ => ly_3_4
  | 5, _ => ly_3_5
  | 6, _ => ly_3_6
  | 7, _ => ly_3_7
  | j + 8, h => absurd h (by omega)
theorem cp_3 : mm_clP 3 (mm_own 3, mm_tb3, 8) := by
  refine ⟨rfl, rfl, fun w hw => ?_, by decide +kernel, by decide +kernel, by decide +kernel⟩
  obtain ⟨k, hk, rfl⟩ := List.mem_map.mp hw
  exact lp_3 k (List.mem_range.mp hk)
theorem ly_4_0 : u_lay (mm_own 4) mm_tb4 0 ∈ mm_T := (mm_mem 170 (by decide +kernel) (by decide +kernel))
theorem ly_4_1 : u_lay (mm_own 4) mm_tb4 1 ∈ mm_T := (mm_mem 172 (by decide +kernel) (by decide +kernel))
theorem ly_4_2 : u_lay (mm_own 4) mm_tb4 2 ∈ mm_T := (mm_mem 174 (by decide +kernel) (by decide +kernel))
theorem ly_4_3 : u_lay (mm_own 4) mm_tb4 3 ∈ mm_T := (mm_mem 176 (by decide +kernel) (by decide +kernel))
theorem lp_4 : ∀ k, k < 4 → u_lay (mm_own 4) mm_tb4 k ∈ mm_T
  | 0, _ => ly_4_0
  | 1, _ => ly_4_1
  | 2, _ => ly_4_2
  | 3, _ => ly_4_3
  | j + 4, h => absurd h (by omega)
theorem cp_4 : mm_clP 4 (mm_own 4, mm_tb4, 4) := by
  refine ⟨rfl, rfl, fun w hw => ?_, by decide +kernel, by decide +kernel, by decide +kernel⟩
  obtain ⟨k, hk, rfl⟩ := List.mem_map.mp hw
  exact lp_4 k (List.mem_range.mp hk)
theorem ly_5_0 : u_lay (mm_own 5) mm_tb5 0 ∈ mm_T := (mm_mem 538 (by decide +kernel) (by decide +kernel))
theorem ly_5_1 : u_lay (mm_own 5) mm_tb5 1 ∈ mm_T := (mm_mem 540 (by decide +kernel) (by decide +kernel))
theorem ly_5_2 : u_lay (mm_own 5) mm_tb5 2 ∈ mm_T := (mm_mem 542 (by decide +kernel) (by decide +kernel))
theorem ly_5_3 : u_lay (mm_own 5) mm_tb5 3 ∈ mm_T := (mm_mem 544 (by decide +kernel) (by decide +kernel))
theorem ly_5_4 : u_lay (mm_own 5) mm_tb5 4 ∈ mm_T := (mm_mem 546 (by decide +kernel) (by decide +kernel))
theorem ly_5_5 : u_lay (mm_own 5) mm_tb5 5 ∈ mm_T := (mm_mem 548 (by decide +kernel) (by decide +kernel))
theorem ly_5_6 : u_lay (mm_own 5) mm_tb5 6 ∈ mm_T := (mm_mem 550 (by decide +kernel) (by decide +kernel))
theorem ly_5_7 : u_lay (mm_own 5) mm_tb5 7 ∈ mm_T := (mm_mem 552 (by decide +kernel) (by decide +kernel))
theorem ly_5_8 : u_lay (mm_own 5) mm_tb5 8 ∈ mm_T := (mm_mem 554 (by decide +kernel) (by decide +kernel))
theorem ly_5_9 : u_lay (mm_own 5) mm_tb5 9 ∈ mm_T := (mm_mem 556 (by decide +kernel) (by decide +kernel))
theorem ly_5_10 : u_lay (mm_own 5) mm_tb5 10 ∈ mm_T := (mm_mem 558 (by decide +kernel) (by decide +kernel))
theorem ly_5_11 : u_lay (mm_own 5) mm_tb5 11 ∈ mm_T := (mm_mem 560 (by decide +kernel) (by decide +kernel))
theorem ly_5_12 : u_lay (mm_own 5) mm_tb5 12 ∈ mm_T := (mm_mem 562 (by decide +kernel) (by decide +kernel))
theorem ly_5_13 : u_lay (mm_own 5) mm_tb5 13 ∈ mm_T := (mm_mem 564 (by decide +kernel) (by decide +kernel))
theorem ly_5_14 : u_lay (mm_own 5) mm_tb5 14 ∈ mm_T := (mm_mem 566 (by decide +kernel) (by decide +kernel))
theorem ly_5_15 : u_lay (mm_own 5) mm_tb5 15 ∈ mm_T := (mm_mem 568 (by decide +kernel) (by decide +kernel))
theorem ly_5_16 : u_lay (mm_own 5) mm_tb5 16 ∈ mm_T := (mm_mem 570 (by decide +kernel) (by decide +kernel))
theorem ly_5_17 : u_lay (mm_own 5) mm_tb5 17 ∈ mm_T := (mm_mem 572 (by decide +kernel) (by decide +kernel))
theorem ly_5_18 : u_lay (mm_own 5) mm_tb5 18 ∈ mm_T := (mm_mem 574 (by decide +kernel) (by decide +kernel))
theorem ly_5_19 : u_lay (mm_own 5) mm_tb5 19 ∈ mm_T := (mm_mem 576 (by decide +kernel) (by decide +kernel))
theorem ly_5_20 : u_lay (mm_own 5) mm_tb5 20 ∈ mm_T := (mm_mem 578 (by decide +kernel) (by decide +kernel))
theorem ly_5_21 : u_lay (mm_own 5) mm_tb5 21 ∈ mm_T := (mm_mem 580 (by decide +kernel) (by decide +kernel))
theorem ly_5_22 : u_lay (mm_own 5) mm_tb5 22 ∈ mm_T := (mm_mem 582 (by decide +kernel) (by decide +kernel))
theorem ly_5_23 : u_lay (mm_own 5) mm_tb5 23 ∈ mm_T := (mm_mem 584 (by decide +kernel) (by decide +kernel))
theorem ly_5_24 : u_lay (mm_own 5) mm_tb5 24 ∈ mm_T := (mm_mem 586 (by decide +kernel) (by decide +kernel))
theorem ly_5_25 : u_lay (mm_own 5) mm_tb5 25 ∈ mm_T := (mm_mem 588 (by decide +kernel) (by decide +kernel))
theorem ly_5_26 : u_lay (mm_own 5) mm_tb5 26 ∈ mm_T := (mm_mem 590 (by decide +kernel) (by decide +kernel))
theorem ly_5_27 : u_lay (mm_own 5) mm_tb5 27 ∈ mm_T := (mm_mem 592 (by decide +kernel) (by decide +kernel))
theorem ly_5_28 : u_lay (mm_own 5) mm_tb5 28 ∈ mm_T := (mm_mem 594 (by decide +kernel) (by decide +kernel))
theorem ly_5_29 : u_lay (mm_own 5) mm_tb5 29 ∈ mm_T := (mm_mem 596 (by decide +kernel) (by decide +kernel))
theorem ly_5_30 : u_lay (mm_own 5) mm_tb5 30 ∈ mm_T := (mm_mem 598 (by decide +kernel) (by decide +kernel))
theorem ly_5_31 : u_lay (mm_own 5) mm_tb5 31 ∈ mm_T := (mm_mem 600 (by decide +kernel) (by decide +kernel))
theorem ly_5_32 : u_lay (mm_own 5) mm_tb5 32 ∈ mm_T := (mm_mem 602 (by decide +kernel) (by decide +kernel))
theorem ly_5_33 : u_lay (mm_own 5) mm_tb5 33 ∈ mm_T := (mm_mem 604 (by decide +kernel) (by decide +kernel))
theorem ly_5_34 : u_lay (mm_own 5) mm_tb5 34 ∈ mm_T := (mm_mem 606 (by decide +kernel) (by decide +kernel))
theorem ly_5_35 : u_lay (mm_own 5) mm_tb5 35 ∈ mm_T := (mm_mem 608 (by decide +kernel) (by decide +kernel))
theorem ly_5_36 : u_lay (mm_own 5) mm_tb5 36 ∈ mm_T := (mm_mem 610 (by decide +kernel) (by decide +kernel))
theorem lp_5 : ∀ k, k < 37 → u_lay (mm_own 5) mm_tb5 k ∈ mm_T
  | 0, _ => ly_5_0
  | 1, _ => ly_5_1
  | 2, _ => ly_5_2
  | 3, _ => ly_5_3
  | 4, _ => ly_5_4
  | 5, _ => ly_5_5
  | 6, _ => ly_5_6
  | 7, _ => ly_5_7
  | 8, _ => ly_5_8
  | 9, _ => ly_5_9
  | 10, _ => ly_5_10
  | 11, _ => ly_5_11
  | 12, _ => ly_5_12
  | 13, _ => ly_5_13
  | 14, _ => ly_5_14
  | 15, _ => ly_5_15
  | 16, _ => ly_5_16
  | 17, _ => ly_5_17
  | 18, _ => ly_5_18
  | 19, _ => ly_5_19
  | 20, _ => ly_5_20
  | 21, _ => ly_5_21
  | 22, _ => ly_5_22
  | 23, _ => ly_5_23
  | 24, _ => ly_5_24
  | 25, _ => ly_5_25
  | 26, _ => ly_5_26
  | 27, _ => ly_5_27
  | 28, _ => ly_5_28
  | 29, _ => ly_5_29
  | 30, _ => ly_5_30
  | 31, _ => ly_5_31
  | 32, _ => ly_5_32
  | 33, _ => ly_5_33
  | 34, _ => ly_5_34
  | 35, _ => ly_5_35
  | 36, _ => ly_5_36
  | j + 37, h => absurd h (by omega)
theorem cp_5 : mm_clP 5 (mm_own 5, mm_tb5, 37) := by
  refine ⟨rfl, rfl, fun w hw => ?_, by decide +kernel, by decide +kernel, by decide +kernel⟩
  obtain ⟨k, hk, rfl⟩ := List.mem_map.mp hw
  exact lp_5 k (List.mem_range.mp hk)
theorem mm_Ylt {f ci : Nat} (h : mm_Y f = .inl ci) : ci < 6 := by
  unfold mm_Y at h
  split at h <;> cases h <;> decide
theorem mm_clok {f ci : Nat} (h : mm_Y f = .inl ci) : ∃ r, mm_cl[ci]? = some r ∧ mm_clP ci r :=
  match ci, mm_Ylt h with
  | 0, _ => ⟨_, rfl, cp_0⟩
  | 1, _ => ⟨_, rfl, cp_1⟩
  | 2, _ => ⟨_, rfl, cp_2⟩
  | 3, _ => ⟨_, rfl, cp_3⟩
  | 4, _ => ⟨_, rfl, cp_4⟩
  | 5, _ => ⟨_, rfl, cp_5⟩
theorem mm_ownI {f ci : Nat} (_ : mm_Y f = .inl ci) : mm_own ci = mm_nm ci := rfl
theorem mm_ftok {f ci k : Nat} (h : mm_Y f = .inl ci) (hk : k < mm_N ci) : mm_ft ci k ≠ .float ∧ mm_ft ci k ≠ .double := by
  have h2 : ∀ c, c < 6 → ∀ k, k < mm_N c → mm_ft c k ≠ .float ∧ mm_ft c k ≠ .double := by decide +kernel
  exact h2 ci (mm_Ylt h) k hk
theorem mm_Yok {f n : Nat} {ty : FieldType} (h : mm_Y f = .inr (ty, n)) : ty ∈ mm_tyl := by
  unfold mm_Y at h
  split at h <;> cases h <;> decide
theorem mm_prtok {ty : FieldType} (h : ty ∈ mm_prt) : Cond.arrayClass ty ∈ mm_T ∧ ty ∈ mm_tyl := by
  unfold mm_prt at h
  simp at h
  rcases h with rfl | rfl | rfl
  · exact ⟨(mm_mem 79 (by decide +kernel) (by decide +kernel)), by decide⟩
  · exact ⟨(mm_mem 80 (by decide +kernel) (by decide +kernel)), by decide⟩
  · exact ⟨(mm_mem 139 (by decide +kernel) (by decide +kernel)), by decide⟩
def mm_FLp (q : Nat × Nat × Nat × Nat) : Prop := ∀ r, mm_cl[q.2.2.1]? = some r → q.2.2.2 < r.2.2 ∧ (Cond.fieldLink (mm_own q.1) q.2.1 (r.2.1 q.2.2.2).1 (r.2.1 q.2.2.2).2.1 (r.2.1 q.2.2.2).2.2.1 ∈ mm_T ∨ ∃ h, (mm_own q.1, q.2.1, (r.2.1 q.2.2.2).1, (r.2.1 q.2.2.2).2.1, (r.2.1 q.2.2.2).2.2.1, h) ∈ mm_nF)
theorem flp_0_15 : mm_FLp (0, 15, 0, 0) := by
  intro r hr
  obtain rfl := Option.some.inj hr
  exact ⟨by decide +kernel, Or.inl (mm_mem 179 (by decide +kernel) (by decide +kernel))⟩
theorem flp_0_21 : mm_FLp (0, 21, 0, 1) := by
  intro r hr
  obtain rfl := Option.some.inj hr
  exact ⟨by decide +kernel, Or.inl (mm_mem 180 (by decide +kernel) (by decide +kernel))⟩
theorem flp_0_27 : mm_FLp (0, 27, 2, 1) := by
  intro r hr
  obtain rfl := Option.some.inj hr
  exact ⟨by decide +kernel, Or.inr ⟨"StagedCompiler", List.mem_of_getElem? (i := 0) (by decide +kernel)⟩⟩
theorem flp_0_34 : mm_FLp (0, 34, 0, 2) := by
  intro r hr
  obtain rfl := Option.some.inj hr
  exact ⟨by decide +kernel, Or.inl (mm_mem 181 (by decide +kernel) (by decide +kernel))⟩
theorem flp_1_9 : mm_FLp (1, 9, 1, 0) := by
  intro r hr
  obtain rfl := Option.some.inj hr
  exact ⟨by decide +kernel, Or.inl (mm_mem 25 (by decide +kernel) (by decide +kernel))⟩
theorem flp_1_15 : mm_FLp (1, 15, 1, 1) := by
  intro r hr
  obtain rfl := Option.some.inj hr
  exact ⟨by decide +kernel, Or.inl (mm_mem 28 (by decide +kernel) (by decide +kernel))⟩
theorem flp_1_18 : mm_FLp (1, 18, 1, 2) := by
  intro r hr
  obtain rfl := Option.some.inj hr
  exact ⟨by decide +kernel, Or.inl (mm_mem 31 (by decide +kernel) (by decide +kernel))⟩
theorem flp_1_21 : mm_FLp (1, 21, 1, 3) := by
  intro r hr
  obtain rfl := Option.some.inj hr
  exact ⟨by decide +kernel, Or.inl (mm_mem 34 (by decide +kernel) (by decide +kernel))⟩
theorem flp_1_24 : mm_FLp (1, 24, 1, 4) := by
  intro r hr
  obtain rfl := Option.some.inj hr
  exact ⟨by decide +kernel, Or.inl (mm_mem 37 (by decide +kernel) (by decide +kernel))⟩
theorem flp_1_27 : mm_FLp (1, 27, 1, 5) := by
  intro r hr
  obtain rfl := Option.some.inj hr
  exact ⟨by decide +kernel, Or.inl (mm_mem 38 (by decide +kernel) (by decide +kernel))⟩
theorem flp_1_31 : mm_FLp (1, 31, 1, 6) := by
  intro r hr
  obtain rfl := Option.some.inj hr
  exact ⟨by decide +kernel, Or.inl (mm_mem 39 (by decide +kernel) (by decide +kernel))⟩
theorem flp_1_34 : mm_FLp (1, 34, 1, 7) := by
  intro r hr
  obtain rfl := Option.some.inj hr
  exact ⟨by decide +kernel, Or.inl (mm_mem 42 (by decide +kernel) (by decide +kernel))⟩
theorem flp_1_37 : mm_FLp (1, 37, 1, 8) := by
  intro r hr
  obtain rfl := Option.some.inj hr
  exact ⟨by decide +kernel, Or.inl (mm_mem 45 (by decide +kernel) (by decide +kernel))⟩
theorem flp_1_40 : mm_FLp (1, 40, 1, 9) := by
  intro r hr
  obtain rfl := Option.some.inj hr
  exact ⟨by decide +kernel, Or.inl (mm_mem 47 (by decide +kernel) (by decide +kernel))⟩
theorem flp_1_43 : mm_FLp (1, 43, 1, 10) := by
  intro r hr
  obtain rfl := Option.some.inj hr
  exact ⟨by decide +kernel, Or.inl (mm_mem 50 (by decide +kernel) (by decide +kernel))⟩
theorem flp_1_47 : mm_FLp (1, 47, 1, 11) := by
  intro r hr
  obtain rfl := Option.some.inj hr
  exact ⟨by decide +kernel, Or.inl (mm_mem 52 (by decide +kernel) (by decide +kernel))⟩
theorem flp_2_9 : mm_FLp (2, 9, 2, 0) := by
  intro r hr
  obtain rfl := Option.some.inj hr
  exact ⟨by decide +kernel, Or.inl (mm_mem 140 (by decide +kernel) (by decide +kernel))⟩
theorem flp_2_17 : mm_FLp (2, 17, 2, 1) := by
  intro r hr
  obtain rfl := Option.some.inj hr
  exact ⟨by decide +kernel, Or.inl (mm_mem 141 (by decide +kernel) (by decide +kernel))⟩
theorem flp_2_22 : mm_FLp (2, 22, 2, 2) := by
  intro r hr
  obtain rfl := Option.some.inj hr
  exact ⟨by decide +kernel, Or.inl (mm_mem 143 (by decide +kernel) (by decide +kernel))⟩
theorem flp_2_26 : mm_FLp (2, 26, 2, 3) := by
  intro r hr
  obtain rfl := Option.some.inj hr
  exact ⟨by decide +kernel, Or.inl (mm_mem 145 (by decide +kernel) (by decide +kernel))⟩
theorem flp_2_29 : mm_FLp (2, 29, 2, 4) := by
  intro r hr
  obtain rfl := Option.some.inj hr
  exact ⟨by decide +kernel, Or.inl (mm_mem 146 (by decide +kernel) (by decide +kernel))⟩
theorem flp_3_9 : mm_FLp (3, 9, 3, 2) := by
  intro r hr
  obtain rfl := Option.some.inj hr
  exact ⟨by decide +kernel, Or.inl (mm_mem 100 (by decide +kernel) (by decide +kernel))⟩
theorem flp_3_15 : mm_FLp (3, 15, 3, 3) := by
  intro r hr
  obtain rfl := Option.some.inj hr
  exact ⟨by decide +kernel, Or.inl (mm_mem 103 (by decide +kernel) (by decide +kernel))⟩
theorem flp_3_19 : mm_FLp (3, 19, 3, 4) := by
  intro r hr
  obtain rfl := Option.some.inj hr
  exact ⟨by decide +kernel, Or.inl (mm_mem 106 (by decide +kernel) (by decide +kernel))⟩
theorem flp_3_22 : mm_FLp (3, 22, 3, 5) := by
  intro r hr
  obtain rfl := Option.some.inj hr
  exact ⟨by decide +kernel, Or.inl (mm_mem 110 (by decide +kernel) (by decide +kernel))⟩
theorem flp_3_26 : mm_FLp (3, 26, 3, 6) := by
  intro r hr
  obtain rfl := Option.some.inj hr
  exact ⟨by decide +kernel, Or.inl (mm_mem 115 (by decide +kernel) (by decide +kernel))⟩
theorem flp_3_29 : mm_FLp (3, 29, 3, 7) := by
  intro r hr
  obtain rfl := Option.some.inj hr
  exact ⟨by decide +kernel, Or.inl (mm_mem 119 (by decide +kernel) (by decide +kernel))⟩
theorem flp_3_32 : mm_FLp (3, 32, 3, 0) := by
  intro r hr
  obtain rfl := Option.some.inj hr
  exact ⟨by decide +kernel, Or.inl (mm_mem 94 (by decide +kernel) (by decide +kernel))⟩
theorem flp_3_38 : mm_FLp (3, 38, 3, 1) := by
  intro r hr
  obtain rfl := Option.some.inj hr
  exact ⟨by decide +kernel, Or.inl (mm_mem 98 (by decide +kernel) (by decide +kernel))⟩
theorem flp_4_9 : mm_FLp (4, 9, 4, 0) := by
  intro r hr
  obtain rfl := Option.some.inj hr
  exact ⟨by decide +kernel, Or.inl (mm_mem 165 (by decide +kernel) (by decide +kernel))⟩
theorem flp_4_15 : mm_FLp (4, 15, 4, 1) := by
  intro r hr
  obtain rfl := Option.some.inj hr
  exact ⟨by decide +kernel, Or.inl (mm_mem 166 (by decide +kernel) (by decide +kernel))⟩
theorem flp_4_19 : mm_FLp (4, 19, 4, 2) := by
  intro r hr
  obtain rfl := Option.some.inj hr
  exact ⟨by decide +kernel, Or.inl (mm_mem 167 (by decide +kernel) (by decide +kernel))⟩
theorem flp_4_23 : mm_FLp (4, 23, 4, 3) := by
  intro r hr
  obtain rfl := Option.some.inj hr
  exact ⟨by decide +kernel, Or.inl (mm_mem 168 (by decide +kernel) (by decide +kernel))⟩
theorem flp_5_7 : mm_FLp (5, 7, 5, 0) := by
  intro r hr
  obtain rfl := Option.some.inj hr
  exact ⟨by decide +kernel, Or.inl (mm_mem 501 (by decide +kernel) (by decide +kernel))⟩
theorem flp_5_13 : mm_FLp (5, 13, 5, 1) := by
  intro r hr
  obtain rfl := Option.some.inj hr
  exact ⟨by decide +kernel, Or.inl (mm_mem 502 (by decide +kernel) (by decide +kernel))⟩
theorem flp_5_16 : mm_FLp (5, 16, 5, 2) := by
  intro r hr
  obtain rfl := Option.some.inj hr
  exact ⟨by decide +kernel, Or.inl (mm_mem 503 (by decide +kernel) (by decide +kernel))⟩
theorem flp_5_19 : mm_FLp (5, 19, 5, 3) := by
  intro r hr
  obtain rfl := Option.some.inj hr
  exact ⟨by decide +kernel, Or.inl (mm_mem 504 (by decide +kernel) (by decide +kernel))⟩
theorem flp_5_22 : mm_FLp (5, 22, 5, 4) := by
  intro r hr
  obtain rfl := Option.some.inj hr
  exact ⟨by decide +kernel, Or.inl (mm_mem 505 (by decide +kernel) (by decide +kernel))⟩
theorem flp_5_25 : mm_FLp (5, 25, 5, 5) := by
  intro r hr
  obtain rfl := Option.some.inj hr
  exact ⟨by decide +kernel, Or.inl (mm_mem 506 (by decide +kernel) (by decide +kernel))⟩
theorem flp_5_29 : mm_FLp (5, 29, 5, 6) := by
  intro r hr
  obtain rfl := Option.some.inj hr
  exact ⟨by decide +kernel, Or.inl (mm_mem 507 (by decide +kernel) (by decide +kernel))⟩
theorem flp_5_32 : mm_FLp (5, 32, 5, 7) := by
  intro r hr
  obtain rfl := Option.some.inj hr
  exact ⟨by decide +kernel, Or.inl (mm_mem 508 (by decide +kernel) (by decide +kernel))⟩
theorem flp_5_35 : mm_FLp (5, 35, 5, 8) := by
  intro r hr
  obtain rfl := Option.some.inj hr
  exact ⟨by decide +kernel, Or.inl (mm_mem 509 (by decide +kernel) (by decide +kernel))⟩
theorem flp_5_38 : mm_FLp (5, 38, 5, 9) := by
  intro r hr
  obtain rfl := Option.some.inj hr
  exact ⟨by decide +kernel, Or.inl (mm_mem 510 (by decide +kernel) (by decide +kernel))⟩
theorem flp_5_41 : mm_FLp (5, 41, 5, 10) := by
  intro r hr
  obtain rfl := Option.some.inj hr
  exact ⟨by decide +kernel, Or.inl (mm_mem 511 (by decide +kernel) (by decide +kernel))⟩
theorem flp_5_45 : mm_FLp (5, 45, 5, 11) := by
  intro r hr
  obtain rfl := Option.some.inj hr
  exact ⟨by decide +kernel, Or.inl (mm_mem 512 (by decide +kernel) (by decide +kernel))⟩
theorem flp_5_48 : mm_FLp (5, 48, 5, 12) := by
  intro r hr
  obtain rfl := Option.some.inj hr
  exact ⟨by decide +kernel, Or.inl (mm_mem 513 (by decide +kernel) (by decide +kernel))⟩
theorem flp_5_51 : mm_FLp (5, 51, 5, 13) := by
  intro r hr
  obtain rfl := Option.some.inj hr
  exact ⟨by decide +kernel, Or.inl (mm_mem 514 (by decide +kernel) (by decide +kernel))⟩
theorem flp_5_54 : mm_FLp (5, 54, 5, 14) := by
  intro r hr
  obtain rfl := Option.some.inj hr
  exact ⟨by decide +kernel, Or.inl (mm_mem 515 (by decide +kernel) (by decide +kernel))⟩
theorem flp_5_57 : mm_FLp (5, 57, 5, 15) := by
  intro r hr
  obtain rfl := Option.some.inj hr
  exact ⟨by decide +kernel, Or.inl (mm_mem 516 (by decide +kernel) (by decide +kernel))⟩
theorem flp_5_60 : mm_FLp (5, 60, 5, 16) := by
  intro r hr
  obtain rfl := Option.some.inj hr
  exact ⟨by decide +kernel, Or.inl (mm_mem 517 (by decide +kernel) (by decide +kernel))⟩
theorem flp_5_63 : mm_FLp (5, 63, 5, 17) := by
  intro r hr
  obtain rfl := Option.some.inj hr
  exact ⟨by decide +kernel, Or.inl (mm_mem 518 (by decide +kernel) (by decide +kernel))⟩
theorem flp_5_66 : mm_FLp (5, 66, 5, 18) := by
  intro r hr
  obtain rfl := Option.some.inj hr
  exact ⟨by decide +kernel, Or.inl (mm_mem 519 (by decide +kernel) (by decide +kernel))⟩
theorem flp_5_69 : mm_FLp (5, 69, 5, 19) := by
  intro r hr
  obtain rfl := Option.some.inj hr
  exact ⟨by decide +kernel, Or.inl (mm_mem 520 (by decide +kernel) (by decide +kernel))⟩
theorem flp_5_72 : mm_FLp (5, 72, 5, 20) := by
  intro r hr
  obtain rfl := Option.some.inj hr
  exact ⟨by decide +kernel, Or.inl (mm_mem 521 (by decide +kernel) (by decide +kernel))⟩
theorem flp_5_75 : mm_FLp (5, 75, 5, 21) := by
  intro r hr
  obtain rfl := Option.some.inj hr
  exact ⟨by decide +kernel, Or.inl (mm_mem 522 (by decide +kernel) (by decide +kernel))⟩
theorem flp_5_78 : mm_FLp (5, 78, 5, 22) := by
  intro r hr
  obtain rfl := Option.some.inj hr
  exact ⟨by decide +kernel, Or.inl (mm_mem 523 (by decide +kernel) (by decide +kernel))⟩
theorem flp_5_82 : mm_FLp (5, 82, 5, 23) := by
  intro r hr
  obtain rfl := Option.some.inj hr
  exact ⟨by decide +kernel, Or.inl (mm_mem 524 (by decide +kernel) (by decide +kernel))⟩
theorem flp_5_85 : mm_FLp (5, 85, 5, 24) := by
  intro r hr
  obtain rfl := Option.some.inj hr
  exact ⟨by decide +kernel, Or.inl (mm_mem 525 (by decide +kernel) (by decide +kernel))⟩
theorem flp_5_88 : mm_FLp (5, 88, 5, 25) := by
  intro r hr
  obtain rfl := Option.some.inj hr
  exact ⟨by decide +kernel, Or.inl (mm_mem 526 (by decide +kernel) (by decide +kernel))⟩
theorem flp_5_91 : mm_FLp (5, 91, 5, 26) := by
  intro r hr
  obtain rfl := Option.some.inj hr
  exact ⟨by decide +kernel, Or.inl (mm_mem 527 (by decide +kernel) (by decide +kernel))⟩
theorem flp_5_94 : mm_FLp (5, 94, 5, 27) := by
  intro r hr
  obtain rfl := Option.some.inj hr
  exact ⟨by decide +kernel, Or.inl (mm_mem 528 (by decide +kernel) (by decide +kernel))⟩
theorem flp_5_97 : mm_FLp (5, 97, 5, 28) := by
  intro r hr
  obtain rfl := Option.some.inj hr
  exact ⟨by decide +kernel, Or.inl (mm_mem 529 (by decide +kernel) (by decide +kernel))⟩
theorem flp_5_100 : mm_FLp (5, 100, 5, 29) := by
  intro r hr
  obtain rfl := Option.some.inj hr
  exact ⟨by decide +kernel, Or.inl (mm_mem 530 (by decide +kernel) (by decide +kernel))⟩
theorem flp_5_103 : mm_FLp (5, 103, 5, 30) := by
  intro r hr
  obtain rfl := Option.some.inj hr
  exact ⟨by decide +kernel, Or.inl (mm_mem 531 (by decide +kernel) (by decide +kernel))⟩
theorem flp_5_106 : mm_FLp (5, 106, 5, 31) := by
  intro r hr
  obtain rfl := Option.some.inj hr
  exact ⟨by decide +kernel, Or.inl (mm_mem 532 (by decide +kernel) (by decide +kernel))⟩
theorem flp_5_109 : mm_FLp (5, 109, 5, 32) := by
  intro r hr
  obtain rfl := Option.some.inj hr
  exact ⟨by decide +kernel, Or.inl (mm_mem 533 (by decide +kernel) (by decide +kernel))⟩
theorem flp_5_112 : mm_FLp (5, 112, 5, 33) := by
  intro r hr
  obtain rfl := Option.some.inj hr
  exact ⟨by decide +kernel, Or.inl (mm_mem 534 (by decide +kernel) (by decide +kernel))⟩
theorem flp_5_116 : mm_FLp (5, 116, 5, 34) := by
  intro r hr
  obtain rfl := Option.some.inj hr
  exact ⟨by decide +kernel, Or.inl (mm_mem 535 (by decide +kernel) (by decide +kernel))⟩
theorem flp_5_119 : mm_FLp (5, 119, 5, 35) := by
  intro r hr
  obtain rfl := Option.some.inj hr
  exact ⟨by decide +kernel, Or.inl (mm_mem 536 (by decide +kernel) (by decide +kernel))⟩
theorem flp_5_122 : mm_FLp (5, 122, 5, 36) := by
  intro r hr
  obtain rfl := Option.some.inj hr
  exact ⟨by decide +kernel, Or.inl (mm_mem 537 (by decide +kernel) (by decide +kernel))⟩
theorem flp_0_54 : mm_FLp (0, 54, 2, 4) := by
  intro r hr
  obtain rfl := Option.some.inj hr
  exact ⟨by decide +kernel, Or.inr ⟨"StagedCompiler", List.mem_of_getElem? (i := 1) (by decide +kernel)⟩⟩
theorem flp_0_61 : mm_FLp (0, 61, 3, 0) := by
  intro r hr
  obtain rfl := Option.some.inj hr
  exact ⟨by decide +kernel, Or.inr ⟨"StagedCompiler", List.mem_of_getElem? (i := 2) (by decide +kernel)⟩⟩
theorem flp_0_68 : mm_FLp (0, 68, 3, 2) := by
  intro r hr
  obtain rfl := Option.some.inj hr
  exact ⟨by decide +kernel, Or.inr ⟨"StagedCompiler", List.mem_of_getElem? (i := 3) (by decide +kernel)⟩⟩
theorem flp_0_74 : mm_FLp (0, 74, 3, 3) := by
  intro r hr
  obtain rfl := Option.some.inj hr
  exact ⟨by decide +kernel, Or.inr ⟨"StagedCompiler", List.mem_of_getElem? (i := 4) (by decide +kernel)⟩⟩
theorem flp_0_81 : mm_FLp (0, 81, 3, 4) := by
  intro r hr
  obtain rfl := Option.some.inj hr
  exact ⟨by decide +kernel, Or.inr ⟨"StagedCompiler", List.mem_of_getElem? (i := 5) (by decide +kernel)⟩⟩
theorem flp_0_84 : mm_FLp (0, 84, 3, 5) := by
  intro r hr
  obtain rfl := Option.some.inj hr
  exact ⟨by decide +kernel, Or.inr ⟨"StagedCompiler", List.mem_of_getElem? (i := 6) (by decide +kernel)⟩⟩
theorem flp_0_88 : mm_FLp (0, 88, 3, 6) := by
  intro r hr
  obtain rfl := Option.some.inj hr
  exact ⟨by decide +kernel, Or.inr ⟨"StagedCompiler", List.mem_of_getElem? (i := 7) (by decide +kernel)⟩⟩
theorem flp_0_103 : mm_FLp (0, 103, 1, 10) := by
  intro r hr
  obtain rfl := Option.some.inj hr
  exact ⟨by decide +kernel, Or.inr ⟨"StagedCompiler", List.mem_of_getElem? (i := 8) (by decide +kernel)⟩⟩
theorem flp_0_106 : mm_FLp (0, 106, 1, 11) := by
  intro r hr
  obtain rfl := Option.some.inj hr
  exact ⟨by decide +kernel, Or.inr ⟨"StagedCompiler", List.mem_of_getElem? (i := 9) (by decide +kernel)⟩⟩
theorem flp_0_109 : mm_FLp (0, 109, 2, 2) := by
  intro r hr
  obtain rfl := Option.some.inj hr
  exact ⟨by decide +kernel, Or.inr ⟨"StagedCompiler", List.mem_of_getElem? (i := 10) (by decide +kernel)⟩⟩
theorem flp_0_112 : mm_FLp (0, 112, 4, 3) := by
  intro r hr
  obtain rfl := Option.some.inj hr
  exact ⟨by decide +kernel, Or.inr ⟨"StagedCompiler", List.mem_of_getElem? (i := 11) (by decide +kernel)⟩⟩
theorem flp_1_99 : mm_FLp (1, 99, 3, 5) := by
  intro r hr
  obtain rfl := Option.some.inj hr
  exact ⟨by decide +kernel, Or.inr ⟨"StagedCompiler", List.mem_of_getElem? (i := 12) (by decide +kernel)⟩⟩
theorem flp_2_40 : mm_FLp (2, 40, 1, 9) := by
  intro r hr
  obtain rfl := Option.some.inj hr
  exact ⟨by decide +kernel, Or.inr ⟨"StagedCompiler", List.mem_of_getElem? (i := 13) (by decide +kernel)⟩⟩
theorem flp_2_46 : mm_FLp (2, 46, 3, 0) := by
  intro r hr
  obtain rfl := Option.some.inj hr
  exact ⟨by decide +kernel, Or.inr ⟨"StagedCompiler", List.mem_of_getElem? (i := 14) (by decide +kernel)⟩⟩
theorem flp_2_53 : mm_FLp (2, 53, 3, 1) := by
  intro r hr
  obtain rfl := Option.some.inj hr
  exact ⟨by decide +kernel, Or.inr ⟨"StagedCompiler", List.mem_of_getElem? (i := 15) (by decide +kernel)⟩⟩
theorem flp_2_68 : mm_FLp (2, 68, 3, 4) := by
  intro r hr
  obtain rfl := Option.some.inj hr
  exact ⟨by decide +kernel, Or.inr ⟨"StagedCompiler", List.mem_of_getElem? (i := 16) (by decide +kernel)⟩⟩
theorem flp_2_77 : mm_FLp (2, 77, 3, 6) := by
  intro r hr
  obtain rfl := Option.some.inj hr
  exact ⟨by decide +kernel, Or.inr ⟨"StagedCompiler", List.mem_of_getElem? (i := 17) (by decide +kernel)⟩⟩
theorem flp_2_88 : mm_FLp (2, 88, 1, 0) := by
  intro r hr
  obtain rfl := Option.some.inj hr
  exact ⟨by decide +kernel, Or.inr ⟨"StagedCompiler", List.mem_of_getElem? (i := 18) (by decide +kernel)⟩⟩
theorem flp_2_91 : mm_FLp (2, 91, 1, 1) := by
  intro r hr
  obtain rfl := Option.some.inj hr
  exact ⟨by decide +kernel, Or.inr ⟨"StagedCompiler", List.mem_of_getElem? (i := 19) (by decide +kernel)⟩⟩
theorem flp_2_116 : mm_FLp (2, 116, 3, 2) := by
  intro r hr
  obtain rfl := Option.some.inj hr
  exact ⟨by decide +kernel, Or.inr ⟨"StagedCompiler", List.mem_of_getElem? (i := 20) (by decide +kernel)⟩⟩
theorem flp_2_119 : mm_FLp (2, 119, 3, 3) := by
  intro r hr
  obtain rfl := Option.some.inj hr
  exact ⟨by decide +kernel, Or.inr ⟨"StagedCompiler", List.mem_of_getElem? (i := 21) (by decide +kernel)⟩⟩
theorem flp_2_126 : mm_FLp (2, 126, 1, 2) := by
  intro r hr
  obtain rfl := Option.some.inj hr
  exact ⟨by decide +kernel, Or.inr ⟨"StagedCompiler", List.mem_of_getElem? (i := 22) (by decide +kernel)⟩⟩
theorem flp_2_144 : mm_FLp (2, 144, 3, 5) := by
  intro r hr
  obtain rfl := Option.some.inj hr
  exact ⟨by decide +kernel, Or.inr ⟨"StagedCompiler", List.mem_of_getElem? (i := 23) (by decide +kernel)⟩⟩
theorem flp_2_160 : mm_FLp (2, 160, 1, 3) := by
  intro r hr
  obtain rfl := Option.some.inj hr
  exact ⟨by decide +kernel, Or.inr ⟨"StagedCompiler", List.mem_of_getElem? (i := 24) (by decide +kernel)⟩⟩
theorem flp_2_173 : mm_FLp (2, 173, 1, 6) := by
  intro r hr
  obtain rfl := Option.some.inj hr
  exact ⟨by decide +kernel, Or.inr ⟨"StagedCompiler", List.mem_of_getElem? (i := 25) (by decide +kernel)⟩⟩
theorem flp_2_179 : mm_FLp (2, 179, 1, 7) := by
  intro r hr
  obtain rfl := Option.some.inj hr
  exact ⟨by decide +kernel, Or.inr ⟨"StagedCompiler", List.mem_of_getElem? (i := 26) (by decide +kernel)⟩⟩
theorem flp_2_193 : mm_FLp (2, 193, 3, 7) := by
  intro r hr
  obtain rfl := Option.some.inj hr
  exact ⟨by decide +kernel, Or.inr ⟨"StagedCompiler", List.mem_of_getElem? (i := 27) (by decide +kernel)⟩⟩
theorem flp_3_41 : mm_FLp (3, 41, 1, 6) := by
  intro r hr
  obtain rfl := Option.some.inj hr
  exact ⟨by decide +kernel, Or.inr ⟨"StagedCompiler", List.mem_of_getElem? (i := 28) (by decide +kernel)⟩⟩
theorem flp_3_46 : mm_FLp (3, 46, 1, 7) := by
  intro r hr
  obtain rfl := Option.some.inj hr
  exact ⟨by decide +kernel, Or.inr ⟨"StagedCompiler", List.mem_of_getElem? (i := 29) (by decide +kernel)⟩⟩
theorem flp_3_53 : mm_FLp (3, 53, 1, 8) := by
  intro r hr
  obtain rfl := Option.some.inj hr
  exact ⟨by decide +kernel, Or.inr ⟨"StagedCompiler", List.mem_of_getElem? (i := 30) (by decide +kernel)⟩⟩
theorem flp_4_26 : mm_FLp (4, 26, 1, 9) := by
  intro r hr
  obtain rfl := Option.some.inj hr
  exact ⟨by decide +kernel, Or.inr ⟨"StagedCompiler", List.mem_of_getElem? (i := 31) (by decide +kernel)⟩⟩
theorem flp_4_32 : mm_FLp (4, 32, 3, 0) := by
  intro r hr
  obtain rfl := Option.some.inj hr
  exact ⟨by decide +kernel, Or.inr ⟨"StagedCompiler", List.mem_of_getElem? (i := 32) (by decide +kernel)⟩⟩
theorem flp_4_43 : mm_FLp (4, 43, 3, 5) := by
  intro r hr
  obtain rfl := Option.some.inj hr
  exact ⟨by decide +kernel, Or.inr ⟨"StagedCompiler", List.mem_of_getElem? (i := 33) (by decide +kernel)⟩⟩
theorem flp_4_47 : mm_FLp (4, 47, 3, 6) := by
  intro r hr
  obtain rfl := Option.some.inj hr
  exact ⟨by decide +kernel, Or.inr ⟨"StagedCompiler", List.mem_of_getElem? (i := 34) (by decide +kernel)⟩⟩
theorem flp_4_51 : mm_FLp (4, 51, 1, 0) := by
  intro r hr
  obtain rfl := Option.some.inj hr
  exact ⟨by decide +kernel, Or.inr ⟨"StagedCompiler", List.mem_of_getElem? (i := 35) (by decide +kernel)⟩⟩
theorem flp_4_54 : mm_FLp (4, 54, 1, 1) := by
  intro r hr
  obtain rfl := Option.some.inj hr
  exact ⟨by decide +kernel, Or.inr ⟨"StagedCompiler", List.mem_of_getElem? (i := 36) (by decide +kernel)⟩⟩
theorem flp_4_75 : mm_FLp (4, 75, 1, 2) := by
  intro r hr
  obtain rfl := Option.some.inj hr
  exact ⟨by decide +kernel, Or.inr ⟨"StagedCompiler", List.mem_of_getElem? (i := 37) (by decide +kernel)⟩⟩
theorem flp_4_78 : mm_FLp (4, 78, 3, 4) := by
  intro r hr
  obtain rfl := Option.some.inj hr
  exact ⟨by decide +kernel, Or.inr ⟨"StagedCompiler", List.mem_of_getElem? (i := 38) (by decide +kernel)⟩⟩
theorem flp_4_85 : mm_FLp (4, 85, 1, 3) := by
  intro r hr
  obtain rfl := Option.some.inj hr
  exact ⟨by decide +kernel, Or.inr ⟨"StagedCompiler", List.mem_of_getElem? (i := 39) (by decide +kernel)⟩⟩
theorem flp_4_94 : mm_FLp (4, 94, 3, 7) := by
  intro r hr
  obtain rfl := Option.some.inj hr
  exact ⟨by decide +kernel, Or.inr ⟨"StagedCompiler", List.mem_of_getElem? (i := 40) (by decide +kernel)⟩⟩
theorem flp_g0 : ∀ q ∈ ([(0, 15, 0, 0), (0, 21, 0, 1), (0, 27, 2, 1), (0, 34, 0, 2), (1, 9, 1, 0), (1, 15, 1, 1), (1, 18, 1, 2), (1, 21, 1, 3), (1, 24, 1, 4), (1, 27, 1, 5), (1, 31, 1, 6), (1, 34, 1, 7), (1, 37, 1, 8), (1, 40, 1, 9), (1, 43, 1, 10), (1, 47, 1, 11), (2, 9, 2, 0), (2, 17, 2, 1), (2, 22, 2, 2), (2, 26, 2, 3), (2, 29, 2, 4), (3, 9, 3, 2), (3, 15, 3, 3), (3, 19, 3, 4), (3, 22, 3, 5)] : List (Nat × Nat × Nat × Nat)), mm_FLp q := List.forall_mem_cons.mpr ⟨flp_0_15, List.forall_mem_cons.mpr ⟨flp_0_21, List.forall_mem_cons.mpr ⟨flp_0_27, List.forall_mem_cons.mpr ⟨flp_0_34, List.forall_mem_cons.mpr ⟨flp_1_9, List.forall_mem_cons.mpr ⟨flp_1_15, List.forall_mem_cons.mpr ⟨flp_1_18, List.forall_mem_cons.mpr ⟨flp_1_21, List.forall_mem_cons.mpr ⟨flp_1_24, List.forall_mem_cons.mpr ⟨flp_1_27, List.forall_mem_cons.mpr ⟨flp_1_31, List.forall_mem_cons.mpr ⟨flp_1_34, List.forall_mem_cons.mpr ⟨flp_1_37, List.forall_mem_cons.mpr ⟨flp_1_40, List.forall_mem_cons.mpr ⟨flp_1_43, List.forall_mem_cons.mpr ⟨flp_1_47, List.forall_mem_cons.mpr ⟨flp_2_9, List.forall_mem_cons.mpr ⟨flp_2_17, List.forall_mem_cons.mpr ⟨flp_2_22, List.forall_mem_cons.mpr ⟨flp_2_26, List.forall_mem_cons.mpr ⟨flp_2_29, List.forall_mem_cons.mpr ⟨flp_3_9, List.forall_mem_cons.mpr ⟨flp_3_15, List.forall_mem_cons.mpr ⟨flp_3_19, List.forall_mem_cons.mpr ⟨flp_3_22, fun _ h => absurd h List.not_mem_nil⟩⟩⟩⟩⟩⟩⟩⟩⟩⟩⟩⟩⟩⟩⟩⟩⟩⟩⟩⟩⟩⟩⟩⟩⟩
theorem flp_g1 : ∀ q ∈ ([(3, 26, 3, 6), (3, 29, 3, 7), (3, 32, 3, 0), (3, 38, 3, 1), (4, 9, 4, 0), (4, 15, 4, 1), (4, 19, 4, 2), (4, 23, 4, 3), (5, 7, 5, 0), (5, 13, 5, 1), (5, 16, 5, 2), (5, 19, 5, 3), (5, 22, 5, 4), (5, 25, 5, 5), (5, 29, 5, 6), (5, 32, 5, 7), (5, 35, 5, 8), (5, 38, 5, 9), (5, 41, 5, 10), (5, 45, 5, 11), (5, 48, 5, 12), (5, 51, 5, 13), (5, 54, 5, 14), (5, 57, 5, 15), (5, 60, 5, 16)] : List (Nat × Nat × Nat × Nat)), mm_FLp q := List.forall_mem_cons.mpr ⟨flp_3_26, List.forall_mem_cons.mpr ⟨flp_3_29, List.forall_mem_cons.mpr ⟨flp_3_32, List.forall_mem_cons.mpr ⟨flp_3_38, List.forall_mem_cons.mpr ⟨flp_4_9, List.forall_mem_cons.mpr ⟨flp_4_15, List.forall_mem_cons.mpr ⟨flp_4_19, List.forall_mem_cons.mpr ⟨flp_4_23, List.forall_mem_cons.mpr ⟨flp_5_7, List.forall_mem_cons.mpr ⟨flp_5_13, List.forall_mem_cons.mpr ⟨flp_5_16, List.forall_mem_cons.mpr ⟨flp_5_19, List.forall_mem_cons.mpr ⟨flp_5_22, List.forall_mem_cons.mpr ⟨flp_5_25, List.forall_mem_cons.mpr ⟨flp_5_29, List.forall_mem_cons.mpr ⟨flp_5_32, List.forall_mem_cons.mpr ⟨flp_5_35, List.forall_mem_cons.mpr ⟨flp_5_38, List.forall_mem_cons.mpr ⟨flp_5_41, List.forall_mem_cons.mpr ⟨flp_5_45, List.forall_mem_cons.mpr ⟨flp_5_48, List.forall_mem_cons.mpr ⟨flp_5_51, List.forall_mem_cons.mpr ⟨flp_5_54, List.forall_mem_cons.mpr ⟨flp_5_57, List.forall_mem_cons.mpr ⟨flp_5_60, fun _ h => absurd h List.not_mem_nil⟩⟩⟩⟩⟩⟩⟩⟩⟩⟩⟩⟩⟩⟩⟩⟩⟩⟩⟩⟩⟩⟩⟩⟩⟩
theorem flp_g2 : ∀ q ∈ ([(5, 63, 5, 17), (5, 66, 5, 18), (5, 69, 5, 19), (5, 72, 5, 20), (5, 75, 5, 21), (5, 78, 5, 22), (5, 82, 5, 23), (5, 85, 5, 24), (5, 88, 5, 25), (5, 91, 5, 26), (5, 94, 5, 27), (5, 97, 5, 28), (5, 100, 5, 29), (5, 103, 5, 30), (5, 106, 5, 31), (5, 109, 5, 32), (5, 112, 5, 33), (5, 116, 5, 34), (5, 119, 5, 35), (5, 122, 5, 36), (0, 54, 2, 4), (0, 61, 3, 0), (0, 68, 3, 2), (0, 74, 3, 3), (0, 81, 3, 4)] : List (Nat × Nat × Nat × Nat)), mm_FLp q := List.forall_mem_cons.mpr ⟨flp_5_63, List.forall_mem_cons.mpr ⟨flp_5_66, List.forall_mem_cons.mpr ⟨flp_5_69, List.forall_mem_cons.mpr ⟨flp_5_72, List.forall_mem_cons.mpr ⟨flp_5_75, List.forall_mem_cons.mpr ⟨flp_5_78, List.forall_mem_cons.mpr ⟨flp_5_82, List.forall_mem_cons.mpr ⟨flp_5_85, List.forall_mem_cons.mpr ⟨flp_5_88, List.forall_mem_cons.mpr ⟨flp_5_91, List.forall_mem_cons.mpr ⟨flp_5_94, List.forall_mem_cons.mpr ⟨flp_5_97, List.forall_mem_cons.mpr ⟨flp_5_100, List.forall_mem_cons.mpr ⟨flp_5_103, List.forall_mem_cons.mpr ⟨flp_5_106, List.forall_mem_cons.mpr ⟨flp_5_109, List.forall_mem_cons.mpr ⟨flp_5_112, List.forall_mem_cons.mpr ⟨flp_5_116, List.forall_mem_cons.mpr ⟨flp_5_119, List.forall_mem_cons.mpr ⟨flp_5_122, List.forall_mem_cons.mpr ⟨flp_0_54, List.forall_mem_cons.mpr ⟨flp_0_61, List.forall_mem_cons.mpr ⟨flp_0_68, List.forall_mem_cons.mpr ⟨flp_0_74, List.forall_mem_cons.mpr ⟨flp_0_81, fun _ h => absurd h List.not_mem_nil⟩⟩⟩⟩⟩⟩⟩⟩⟩⟩⟩⟩⟩⟩⟩⟩⟩⟩⟩⟩⟩⟩⟩⟩⟩
theorem flp_g3 : ∀ q ∈ ([(0, 84, 3, 5), (0, 88, 3, 6), (0, 103, 1, 10), (0, 106, 1, 11), (0, 109, 2, 2), (0, 112, 4, 3), (1, 99, 3, 5), (2, 40, 1, 9), (2, 46, 3, 0), (2, 53, 3, 1), (2, 68, 3, 4), (2, 77, 3, 6), (2, 88, 1, 0), (2, 91, 1, 1), (2, 116, 3, 2), (2, 119, 3, 3), (2, 126, 1, 2), (2, 144, 3, 5), (2, 160, 1, 3), (2, 173, 1, 6), (2, 179, 1, 7), (2, 193, 3, 7), (3, 41, 1, 6), (3, 46, 1, 7), (3, 53, 1, 8)] : List (Nat × Nat × Nat × Nat)), mm_FLp q := List.forall_mem_cons.mpr ⟨flp_0_84, List.forall_mem_cons.mpr ⟨flp_0_88, List.forall_mem_cons.mpr ⟨flp_0_103, List.forall_mem_cons.mpr ⟨flp_0_106, List.forall_mem_cons.mpr ⟨flp_0_109, List.forall_mem_cons.mpr ⟨flp_0_112, List.forall_mem_cons.mpr ⟨flp_1_99, List.forall_mem_cons.mpr ⟨flp_2_40, List.forall_mem_cons.mpr ⟨flp_2_46, List.forall_mem_cons.mpr ⟨flp_2_53, List.forall_mem_cons.mpr ⟨flp_2_68, List.forall_mem_cons.mpr ⟨flp_2_77, List.forall_mem_cons.mpr ⟨flp_2_88, List.forall_mem_cons.mpr ⟨flp_2_91, List.forall_mem_cons.mpr ⟨flp_2_116, List.forall_mem_cons.mpr ⟨flp_2_119, List.forall_mem_cons.mpr ⟨flp_2_126, List.forall_mem_cons.mpr ⟨flp_2_144, List.forall_mem_cons.mpr ⟨flp_2_160, List.forall_mem_cons.mpr ⟨flp_2_173, List.forall_mem_cons.mpr ⟨flp_2_179, List.forall_mem_cons.mpr ⟨flp_2_193, List.forall_mem_cons.mpr ⟨flp_3_41, List.forall_mem_cons.mpr ⟨flp_3_46, List.forall_mem_cons.mpr ⟨flp_3_53, fun _ h => absurd h List.not_mem_nil⟩⟩⟩⟩⟩⟩⟩⟩⟩⟩⟩⟩⟩⟩⟩⟩⟩⟩⟩⟩⟩⟩⟩⟩⟩
theorem flp_g4 : ∀ q ∈ ([(4, 26, 1, 9), (4, 32, 3, 0), (4, 43, 3, 5), (4, 47, 3, 6), (4, 51, 1, 0), (4, 54, 1, 1), (4, 75, 1, 2), (4, 78, 3, 4), (4, 85, 1, 3), (4, 94, 3, 7)] : List (Nat × Nat × Nat × Nat)), mm_FLp q := List.forall_mem_cons.mpr ⟨flp_4_26, List.forall_mem_cons.mpr ⟨flp_4_32, List.forall_mem_cons.mpr ⟨flp_4_43, List.forall_mem_cons.mpr ⟨flp_4_47, List.forall_mem_cons.mpr ⟨flp_4_51, List.forall_mem_cons.mpr ⟨flp_4_54, List.forall_mem_cons.mpr ⟨flp_4_75, List.forall_mem_cons.mpr ⟨flp_4_78, List.forall_mem_cons.mpr ⟨flp_4_85, List.forall_mem_cons.mpr ⟨flp_4_94, fun _ h => absurd h List.not_mem_nil⟩⟩⟩⟩⟩⟩⟩⟩⟩⟩
theorem flp_all : ∀ q ∈ mm_FLs, mm_FLp q := by
  intro q hq
  have e : mm_FLs = ([(0, 15, 0, 0), (0, 21, 0, 1), (0, 27, 2, 1), (0, 34, 0, 2), (1, 9, 1, 0), (1, 15, 1, 1), (1, 18, 1, 2), (1, 21, 1, 3), (1, 24, 1, 4), (1, 27, 1, 5), (1, 31, 1, 6), (1, 34, 1, 7), (1, 37, 1, 8), (1, 40, 1, 9), (1, 43, 1, 10), (1, 47, 1, 11), (2, 9, 2, 0), (2, 17, 2, 1), (2, 22, 2, 2), (2, 26, 2, 3), (2, 29, 2, 4), (3, 9, 3, 2), (3, 15, 3, 3), (3, 19, 3, 4), (3, 22, 3, 5)] : List (Nat × Nat × Nat × Nat)) ++ (([(3, 26, 3, 6), (3, 29, 3, 7), (3, 32, 3, 0), (3, 38, 3, 1), (4, 9, 4, 0), (4, 15, 4, 1), (4, 19, 4, 2), (4, 23, 4, 3), (5, 7, 5, 0), (5, 13, 5, 1), (5, 16, 5, 2), (5, 19, 5, 3), (5, 22, 5, 4), (5, 25, 5, 5), (5, 29, 5, 6), (5, 32, 5, 7), (5, 35, 5, 8), (5, 38, 5, 9), (5, 41, 5, 10), (5, 45, 5, 11), (5, 48, 5, 12), (5, 51, 5, 13), (5, 54, 5, 14), (5, 57, 5, 15), (5, 60, 5, 16)] : List (Nat × Nat × Nat × Nat)) ++ (([(5, 63, 5, 17), (5, 66, 5, 18), (5, 69, 5, 19), (5, 72, 5, 20), (5, 75, 5, 21), (5, 78, 5, 22), (5, 82, 5, 23), (5, 85, 5, 24), (5, 88, 5, 25), (5, 91, 5, 26), (5, 94, 5, 27), (5, 97, 5, 28), (5, 100, 5, 29), (5, 103, 5, 30), (5, 106, 5, 31), (5, 109, 5, 32), (5, 112, 5, 33), (5, 116, 5, 34), (5, 119, 5, 35), (5, 122, 5, 36), (0, 54, 2, 4), (0, 61, 3, 0), (0, 68, 3, 2), (0, 74, 3, 3), (0, 81, 3, 4)] : List (Nat × Nat × Nat × Nat)) ++ (([(0, 84, 3, 5), (0, 88, 3, 6), (0, 103, 1, 10), (0, 106, 1, 11), (0, 109, 2, 2), (0, 112, 4, 3), (1, 99, 3, 5), (2, 40, 1, 9), (2, 46, 3, 0), (2, 53, 3, 1), (2, 68, 3, 4), (2, 77, 3, 6), (2, 88, 1, 0), (2, 91, 1, 1), (2, 116, 3, 2), (2, 119, 3, 3), (2, 126, 1, 2), (2, 144, 3, 5), (2, 160, 1, 3), (2, 173, 1, 6), (2, 179, 1, 7), (2, 193, 3, 7), (3, 41, 1, 6), (3, 46, 1, 7), (3, 53, 1, 8)] : List (Nat × Nat × Nat × Nat)) ++ (([(4, 26, 1, 9), (4, 32, 3, 0), (4, 43, 3, 5), (4, 47, 3, 6), (4, 51, 1, 0), (4, 54, 1, 1), (4, 75, 1, 2), (4, 78, 3, 4), (4, 85, 1, 3), (4, 94, 3, 7)] : List (Nat × Nat × Nat × Nat)))))) := rfl
  rw [e] at hq
  rcases List.mem_append.mp hq with hq | hq
  · exact flp_g0 q hq
  rcases List.mem_append.mp hq with hq | hq
  · exact flp_g1 q hq
  rcases List.mem_append.mp hq with hq | hq
  · exact flp_g2 q hq
  rcases List.mem_append.mp hq with hq | hq
  · exact flp_g3 q hq
  exact flp_g4 q hq
theorem mm_FLok {o ix ci k : Nat} {r : vw_C} (h : mm_FL o ix = some (ci, k)) (hc : mm_cl[ci]? = some r) : k < r.2.2 ∧ (Cond.fieldLink (mm_own o) ix (r.2.1 k).1 (r.2.1 k).2.1 (r.2.1 k).2.2.1 ∈ mm_T ∨ ∃ h, (mm_own o, ix, (r.2.1 k).1, (r.2.1 k).2.1, (r.2.1 k).2.2.1, h) ∈ mm_nF) := flp_all (o, ix, ci, k) (mm_findI h) r hc
theorem mm_CIok {o ix : Nat} {x : Int32} (h : mm_CI o ix = some x) : Cond.constant (mm_own o) ix x ∈ mm_T := by
  have hm := mm_findI h
  exact absurd hm List.not_mem_nil
theorem mm_CLok {o ix : Nat} {x : Int64} (h : mm_CL o ix = some x) : Cond.constantLong (mm_own o) ix x ∈ mm_T := by
  have hm := mm_findI h
  unfold mm_CLs at hm
  simp only [List.mem_cons, List.not_mem_nil, or_false, Prod.mk.injEq] at hm
  rcases hm with ⟨rfl, rfl, rfl⟩ | ⟨rfl, rfl, rfl⟩ | ⟨rfl, rfl, rfl⟩ | ⟨rfl, rfl, rfl⟩ | ⟨rfl, rfl, rfl⟩ | ⟨rfl, rfl, rfl⟩ | ⟨rfl, rfl, rfl⟩ | ⟨rfl, rfl, rfl⟩ | ⟨rfl, rfl, rfl⟩ | ⟨rfl, rfl, rfl⟩ | ⟨rfl, rfl, rfl⟩ | ⟨rfl, rfl, rfl⟩ | ⟨rfl, rfl, rfl⟩ | ⟨rfl, rfl, rfl⟩ | ⟨rfl, rfl, rfl⟩ | ⟨rfl, rfl, rfl⟩ | ⟨rfl, rfl, rfl⟩ | ⟨rfl, rfl, rfl⟩
  · exact (mm_mem 426 (by decide +kernel) (by decide +kernel))
  · exact (mm_mem 409 (by decide +kernel) (by decide +kernel))
  · exact (mm_mem 281 (by decide +kernel) (by decide +kernel))
  · exact (mm_mem 469 (by decide +kernel) (by decide +kernel))
  · exact (mm_mem 484 (by decide +kernel) (by decide +kernel))
  · exact (mm_mem 665 (by decide +kernel) (by decide +kernel))
  · exact (mm_mem 710 (by decide +kernel) (by decide +kernel))
  · exact (mm_mem 715 (by decide +kernel) (by decide +kernel))
  · exact (mm_mem 720 (by decide +kernel) (by decide +kernel))
  · exact (mm_mem 721 (by decide +kernel) (by decide +kernel))
  · exact (mm_mem 755 (by decide +kernel) (by decide +kernel))
  · exact (mm_mem 776 (by decide +kernel) (by decide +kernel))
  · exact (mm_mem 750 (by decide +kernel) (by decide +kernel))
  · exact (mm_mem 329 (by decide +kernel) (by decide +kernel))
  · exact (mm_mem 333 (by decide +kernel) (by decide +kernel))
  · exact (mm_mem 408 (by decide +kernel) (by decide +kernel))
  · exact (mm_mem 389 (by decide +kernel) (by decide +kernel))
  · exact (mm_mem 388 (by decide +kernel) (by decide +kernel))
theorem mm_CCok {o ix : Nat} {x : Nat} (h : mm_CC o ix = some x) : Cond.classLink (mm_own o) ix (mm_nm x) ∈ mm_T ∧ Cond.instantiable (mm_nm x) (mm_N x) ∈ mm_T ∧ Cond.initialized (mm_nm x) ∈ mm_T := by
  have hm := mm_findI h
  unfold mm_CCs at hm
  simp only [List.mem_cons, List.not_mem_nil, or_false, Prod.mk.injEq] at hm
  rcases hm with ⟨rfl, rfl, rfl⟩ | ⟨rfl, rfl, rfl⟩ | ⟨rfl, rfl, rfl⟩ | ⟨rfl, rfl, rfl⟩ | ⟨rfl, rfl, rfl⟩ | ⟨rfl, rfl, rfl⟩
  · exact ⟨(mm_mem 19 (by decide +kernel) (by decide +kernel)), (mm_mem 20 (by decide +kernel) (by decide +kernel)), (mm_mem 2 (by decide +kernel) (by decide +kernel))⟩
  · exact ⟨(mm_mem 81 (by decide +kernel) (by decide +kernel)), (mm_mem 82 (by decide +kernel) (by decide +kernel)), (mm_mem 3 (by decide +kernel) (by decide +kernel))⟩
  · exact ⟨(mm_mem 159 (by decide +kernel) (by decide +kernel)), (mm_mem 160 (by decide +kernel) (by decide +kernel)), (mm_mem 5 (by decide +kernel) (by decide +kernel))⟩
  · exact ⟨(mm_mem 87 (by decide +kernel) (by decide +kernel)), (mm_mem 89 (by decide +kernel) (by decide +kernel)), (mm_mem 4 (by decide +kernel) (by decide +kernel))⟩
  · exact ⟨(mm_mem 11 (by decide +kernel) (by decide +kernel)), (mm_mem 12 (by decide +kernel) (by decide +kernel)), (mm_mem 1 (by decide +kernel) (by decide +kernel))⟩
  · exact ⟨(mm_mem 495 (by decide +kernel) (by decide +kernel)), (mm_mem 496 (by decide +kernel) (by decide +kernel)), (mm_mem 6 (by decide +kernel) (by decide +kernel))⟩
theorem mm_COok {o ix : Nat} {x : String} (h : mm_CO o ix = some x) : Cond.classLink (mm_own o) ix x ∈ mm_T ∧ x ∈ mm_ao := by
  have hm := mm_findI h
  unfold mm_COs at hm
  simp only [List.mem_cons, List.not_mem_nil, or_false, Prod.mk.injEq] at hm
  rcases hm with ⟨rfl, rfl, rfl⟩
  · exact ⟨(mm_mem 87 (by decide +kernel) (by decide +kernel)), by decide⟩
theorem mm_JM0 {o ix : Nat} (h : mm_JM o ix = some 0) : Cond.methodLink (mm_own o) ix Lib.Math.max.name ∈ mm_T ∧ Cond.static Lib.Math.max.name ∈ mm_T ∧ Cond.initialized "java/lang/Math" ∈ mm_T ∧ Cond.code Lib.Math.max.name Lib.Math.max.code 2 (some .int) ∈ mm_T := by
  have hm := mm_findI h
  unfold mm_JMs at hm
  simp only [List.mem_cons, List.not_mem_nil, or_false, Prod.mk.injEq] at hm
  have q1 : Cond.static Lib.Math.max.name ∈ mm_T := (mm_mem 226 (by decide +kernel) (by decide +kernel))
  have q2 : Cond.initialized "java/lang/Math" ∈ mm_T := (mm_mem 9 (by decide +kernel) (by decide +kernel))
  have q3 : Cond.code Lib.Math.max.name Lib.Math.max.code 2 (some .int) ∈ mm_T := (mm_mem 227 (by decide +kernel) (by decide +kernel))
  rcases hm with ⟨rfl, rfl, -⟩ | ⟨rfl, rfl, hj⟩ | ⟨rfl, rfl, hj⟩ | ⟨rfl, rfl, hj⟩ | ⟨rfl, rfl, hj⟩
  · exact ⟨(mm_mem 225 (by decide +kernel) (by decide +kernel)), q1, q2, q3⟩
  · exact absurd hj (by decide)
  · exact absurd hj (by decide)
  · exact absurd hj (by decide)
  · exact absurd hj (by decide)
theorem mm_JM1 {o ix : Nat} (h : mm_JM o ix = some 1) : Cond.methodLink (mm_own o) ix Lib.Math.abs.name ∈ mm_T ∧ Cond.static Lib.Math.abs.name ∈ mm_T ∧ Cond.initialized "java/lang/Math" ∈ mm_T ∧ Cond.code Lib.Math.abs.name Lib.Math.abs.code 1 (some .int) ∈ mm_T := by
  have hm := mm_findI h
  unfold mm_JMs at hm
  simp only [List.mem_cons, List.not_mem_nil, or_false, Prod.mk.injEq] at hm
  have q1 : Cond.static Lib.Math.abs.name ∈ mm_T := (mm_mem 369 (by decide +kernel) (by decide +kernel))
  have q2 : Cond.initialized "java/lang/Math" ∈ mm_T := (mm_mem 9 (by decide +kernel) (by decide +kernel))
  have q3 : Cond.code Lib.Math.abs.name Lib.Math.abs.code 1 (some .int) ∈ mm_T := (mm_mem 370 (by decide +kernel) (by decide +kernel))
  rcases hm with ⟨rfl, rfl, hj⟩ | ⟨rfl, rfl, -⟩ | ⟨rfl, rfl, -⟩ | ⟨rfl, rfl, hj⟩ | ⟨rfl, rfl, hj⟩
  · exact absurd hj (by decide)
  · exact ⟨(mm_mem 368 (by decide +kernel) (by decide +kernel)), q1, q2, q3⟩
  · exact ⟨(mm_mem 393 (by decide +kernel) (by decide +kernel)), q1, q2, q3⟩
  · exact absurd hj (by decide)
  · exact absurd hj (by decide)
theorem mm_JM2 {o ix : Nat} (h : mm_JM o ix = some 2) : Cond.methodLink (mm_own o) ix Lib.MathLoose.max_long.x ∈ mm_T ∧ Cond.static Lib.MathLoose.max_long.x ∈ mm_T ∧ Cond.initialized "java/lang/Math" ∈ mm_T ∧ Cond.code Lib.MathLoose.max_long.x Lib.MathLoose.max_long.code 4 (some .long) ∈ mm_T := by
  have hm := mm_findI h
  unfold mm_JMs at hm
  simp only [List.mem_cons, List.not_mem_nil, or_false, Prod.mk.injEq] at hm
  have q1 : Cond.static Lib.MathLoose.max_long.x ∈ mm_T := (mm_mem 403 (by decide +kernel) (by decide +kernel))
  have q2 : Cond.initialized "java/lang/Math" ∈ mm_T := (mm_mem 9 (by decide +kernel) (by decide +kernel))
  have q3 : Cond.code Lib.MathLoose.max_long.x Lib.MathLoose.max_long.code 4 (some .long) ∈ mm_T := (mm_mem 404 (by decide +kernel) (by decide +kernel))
  rcases hm with ⟨rfl, rfl, hj⟩ | ⟨rfl, rfl, hj⟩ | ⟨rfl, rfl, hj⟩ | ⟨rfl, rfl, hj⟩ | ⟨rfl, rfl, -⟩
  · exact absurd hj (by decide)
  · exact absurd hj (by decide)
  · exact absurd hj (by decide)
  · exact absurd hj (by decide)
  · exact ⟨(mm_mem 402 (by decide +kernel) (by decide +kernel)), q1, q2, q3⟩
theorem mm_JM3 {o ix : Nat} (h : mm_JM o ix = some 3) : Cond.methodLink (mm_own o) ix Lib.MathLoose.min_long.x ∈ mm_T ∧ Cond.static Lib.MathLoose.min_long.x ∈ mm_T ∧ Cond.initialized "java/lang/Math" ∈ mm_T ∧ Cond.code Lib.MathLoose.min_long.x Lib.MathLoose.min_long.code 4 (some .long) ∈ mm_T := by
  have hm := mm_findI h
  unfold mm_JMs at hm
  simp only [List.mem_cons, List.not_mem_nil, or_false, Prod.mk.injEq] at hm
  have q1 : Cond.static Lib.MathLoose.min_long.x ∈ mm_T := (mm_mem 400 (by decide +kernel) (by decide +kernel))
  have q2 : Cond.initialized "java/lang/Math" ∈ mm_T := (mm_mem 9 (by decide +kernel) (by decide +kernel))
  have q3 : Cond.code Lib.MathLoose.min_long.x Lib.MathLoose.min_long.code 4 (some .long) ∈ mm_T := (mm_mem 401 (by decide +kernel) (by decide +kernel))
  rcases hm with ⟨rfl, rfl, hj⟩ | ⟨rfl, rfl, hj⟩ | ⟨rfl, rfl, hj⟩ | ⟨rfl, rfl, -⟩ | ⟨rfl, rfl, hj⟩
  · exact absurd hj (by decide)
  · exact absurd hj (by decide)
  · exact absurd hj (by decide)
  · exact ⟨(mm_mem 399 (by decide +kernel) (by decide +kernel)), q1, q2, q3⟩
  · exact absurd hj (by decide)
