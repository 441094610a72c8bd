/-! node keeps what stands -/
theorem node_rows {M : mm_M} {k a b c l : Int32} {N : Nat} (eN : M.1 1 0 10 = nI N) (eR : M.1 30 0 0 = nI N) (hN : N < 60) (el : s_lvAbove M k a b c = l) (M2 : mm_M) (e2 : M2 = t_nodeM (s_addNodeM M k a b c) k a b c l) :
    M2.2 = M.2 ∧ (∀ f, 7 ≤ f → f ≠ 30 → f < 31 ∨ 36 ≤ f → M2.1 f = M.1 f) ∧ M2.1 0 = M.1 0 ∧ (∀ x, M2.1 1 0 x = if x = 10 then nI (N + 1) else M.1 1 0 x) ∧ (∀ x, M2.1 30 0 x = if x = 0 then nI (N + 1) else M.1 30 0 x) ∧
    (∀ x, M2.1 2 0 x = if x = N then k else M.1 2 0 x) ∧ (∀ x, M2.1 3 0 x = if x = N then a else M.1 3 0 x) ∧ (∀ x, M2.1 4 0 x = if x = N then b else M.1 4 0 x) ∧ (∀ x, M2.1 5 0 x = if x = N then c else M.1 5 0 x) ∧ (∀ x, M2.1 6 0 x = if x = N then l else M.1 6 0 x) ∧
    (∀ x, M2.1 31 0 x = if x = N then k else M.1 31 0 x) ∧ (∀ x, M2.1 32 0 x = if x = N then a else M.1 32 0 x) ∧ (∀ x, M2.1 33 0 x = if x = N then b else M.1 33 0 x) ∧ (∀ x, M2.1 34 0 x = if x = N then c else M.1 34 0 x) ∧ (∀ x, M2.1 35 0 x = if x = N then l else M.1 35 0 x) := by
  have cl : (nI N).toNatClampNeg = N := nI_clamp (by omega)
  have E1 : (s_addNodeM M k a b c).1 = mm_u (mm_u (mm_u (mm_u (mm_u (mm_u M.1 2 0 N k) 3 0 N a) 4 0 N b) 5 0 N c) 6 0 N l) 1 0 10 (nI (N + 1)) := by
    unfold s_addNodeM
    rw [eN, cl, el, nI_1]
    rfl
  have L1 : (s_addNodeM M k a b c).2 = M.2 := rfl
  generalize s_addNodeM M k a b c = M1 at *
  have r30 : M1.1 30 = M.1 30 := by rw [E1, mm_u_row' (by decide), mm_u_row' (by decide), mm_u_row' (by decide), mm_u_row' (by decide), mm_u_row' (by decide), mm_u_row' (by decide)]
  have E2 : M2.1 = mm_u (mm_u (mm_u (mm_u (mm_u (mm_u M1.1 31 0 N k) 32 0 N a) 33 0 N b) 34 0 N c) 35 0 N l) 30 0 0 (nI (N + 1)) := by
    rw [e2]
    unfold t_nodeM
    rw [r30, eR, cl, nI_1]
    rfl
  have L2 : M2.2 = M.2 := by
    rw [e2]
    exact L1
  refine ⟨L2, fun f h1 h2 h3 => ?_, ?_, fun x => ?_, fun x => ?_, fun x => ?_, fun x => ?_, fun x => ?_, fun x => ?_, fun x => ?_, fun x => ?_, fun x => ?_, fun x => ?_, fun x => ?_, fun x => ?_⟩
  · rw [E2, mm_u_row' h2, mm_u_row' (by omega), mm_u_row' (by omega), mm_u_row' (by omega), mm_u_row' (by omega), mm_u_row' (by omega), E1, mm_u_row' (by omega), mm_u_row' (by omega), mm_u_row' (by omega), mm_u_row' (by omega), mm_u_row' (by omega), mm_u_row' (by omega)]
  · rw [E2, mm_u_row' (by decide), mm_u_row' (by decide), mm_u_row' (by decide), mm_u_row' (by decide), mm_u_row' (by decide), mm_u_row' (by decide), E1, mm_u_row' (by decide), mm_u_row' (by decide), mm_u_row' (by decide), mm_u_row' (by decide), mm_u_row' (by decide), mm_u_row' (by decide)]
  · rw [E2, mm_u_row' (by decide), mm_u_row' (by decide), mm_u_row' (by decide), mm_u_row' (by decide), mm_u_row' (by decide), mm_u_row' (by decide), E1, mm_u_own, mm_u_row' (by decide), mm_u_row' (by decide), mm_u_row' (by decide), mm_u_row' (by decide), mm_u_row' (by decide)]
  · rw [E2, mm_u_own, mm_u_row' (by decide), mm_u_row' (by decide), mm_u_row' (by decide), mm_u_row' (by decide), mm_u_row' (by decide), r30]
  · rw [E2, mm_u_row' (by decide), mm_u_row' (by decide), mm_u_row' (by decide), mm_u_row' (by decide), mm_u_row' (by decide), mm_u_row' (by decide), E1, mm_u_row' (by decide), mm_u_row' (by decide), mm_u_row' (by decide), mm_u_row' (by decide), mm_u_row' (by decide), mm_u_own]
  · rw [E2, mm_u_row' (by decide), mm_u_row' (by decide), mm_u_row' (by decide), mm_u_row' (by decide), mm_u_row' (by decide), mm_u_row' (by decide), E1, mm_u_row' (by decide), mm_u_row' (by decide), mm_u_row' (by decide), mm_u_row' (by decide), mm_u_own, mm_u_row' (by decide)]
  · rw [E2, mm_u_row' (by decide), mm_u_row' (by decide), mm_u_row' (by decide), mm_u_row' (by decide), mm_u_row' (by decide), mm_u_row' (by decide), E1, mm_u_row' (by decide), mm_u_row' (by decide), mm_u_row' (by decide), mm_u_own, mm_u_row' (by decide), mm_u_row' (by decide)]
  · rw [E2, mm_u_row' (by decide), mm_u_row' (by decide), mm_u_row' (by decide), mm_u_row' (by decide), mm_u_row' (by decide), mm_u_row' (by decide), E1, mm_u_row' (by decide), mm_u_row' (by decide), mm_u_own, mm_u_row' (by decide), mm_u_row' (by decide), mm_u_row' (by decide)]
  · rw [E2, mm_u_row' (by decide), mm_u_row' (by decide), mm_u_row' (by decide), mm_u_row' (by decide), mm_u_row' (by decide), mm_u_row' (by decide), E1, mm_u_row' (by decide), mm_u_own, mm_u_row' (by decide), mm_u_row' (by decide), mm_u_row' (by decide), mm_u_row' (by decide)]
  · rw [E2, mm_u_row' (by decide), mm_u_row' (by decide), mm_u_row' (by decide), mm_u_row' (by decide), mm_u_row' (by decide), mm_u_own, E1, mm_u_row' (by decide), mm_u_row' (by decide), mm_u_row' (by decide), mm_u_row' (by decide), mm_u_row' (by decide), mm_u_row' (by decide)]
  · rw [E2, mm_u_row' (by decide), mm_u_row' (by decide), mm_u_row' (by decide), mm_u_row' (by decide), mm_u_own, mm_u_row' (by decide), E1, mm_u_row' (by decide), mm_u_row' (by decide), mm_u_row' (by decide), mm_u_row' (by decide), mm_u_row' (by decide), mm_u_row' (by decide)]
  · rw [E2, mm_u_row' (by decide), mm_u_row' (by decide), mm_u_row' (by decide), mm_u_own, mm_u_row' (by decide), mm_u_row' (by decide), E1, mm_u_row' (by decide), mm_u_row' (by decide), mm_u_row' (by decide), mm_u_row' (by decide), mm_u_row' (by decide), mm_u_row' (by decide)]
  · rw [E2, mm_u_row' (by decide), mm_u_row' (by decide), mm_u_own, mm_u_row' (by decide), mm_u_row' (by decide), mm_u_row' (by decide), E1, mm_u_row' (by decide), mm_u_row' (by decide), mm_u_row' (by decide), mm_u_row' (by decide), mm_u_row' (by decide), mm_u_row' (by decide)]
  · rw [E2, mm_u_row' (by decide), mm_u_own, mm_u_row' (by decide), mm_u_row' (by decide), mm_u_row' (by decide), mm_u_row' (by decide), E1, mm_u_row' (by decide), mm_u_row' (by decide), mm_u_row' (by decide), mm_u_row' (by decide), mm_u_row' (by decide), mm_u_row' (by decide)]
theorem hasNode_iff {C : mm_M} {N : Nat} (e : C.1 1 0 10 = nI N) (hN : N ≤ 60) {n : Int32} : s_hasNode C n = true ↔ 0 ≤ n.toInt ∧ n.toInt < (N : Int) := by
  unfold s_hasNode
  rw [e]
  simp only [Bool.and_eq_true, Bool.not_eq_true', decide_eq_false_iff_not, Int32.lt_iff_toInt_lt, Int32.le_iff_toInt_le, Int32.toInt_zero, nI_ti (show N < 2 ^ 31 by omega)]
  omega
theorem cf_cong {M M' : mm_M} (h : M'.1 36 0 = M.1 36 0) : ∀ (r : Nat) (a : Int32), t_cf M' r a = t_cf M r a
  | 0, _ => rfl
  | r + 1, a => by
    unfold t_cf
    rw [h]
    exact cf_cong h r _
theorem node_add {M : mm_M} {k a b c : Int32} {N : Nat} (h : INV M) (eN : M.1 1 0 10 = nI N) (hN : N < 60) (h1 : s_isOne k = true) (h2 : s_hasOps M k a b c = true) (h8 : s_lvAbove M k a b c ≤ 8) : INV (t_nodeM (s_addNodeM M k a b c) k a b c (s_lvAbove M k a b c)) := by
  obtain ⟨hgd, hp, hi, hsp, hS, hB, hc, hf⟩ := h
  have eR : M.1 30 0 0 = nI N := hsp.1.trans eN
  have nd := new_nd hp h1 h2 h8
  obtain ⟨r2, rO, r0, q1, q30, q2, q3, q4, q5, q6, q31, q32, q33, q34, q35⟩ := node_rows (k := k) (a := a) (b := b) (c := c) eN eR hN rfl _ rfl
  generalize t_nodeM (s_addNodeM M k a b c) k a b c (s_lvAbove M k a b c) = M2 at *
  generalize s_lvAbove M k a b c = l at *
  have e10 : M2.1 1 0 10 = nI (N + 1) := by rw [q1, if_pos rfl]
  have hn : ∀ {n : Int32}, s_hasNode M n = true ↔ 0 ≤ n.toInt ∧ n.toInt < (N : Int) := hasNode_iff eN (by omega)
  have hn' : ∀ {n : Int32}, s_hasNode M2 n = true ↔ 0 ≤ n.toInt ∧ n.toInt < ((N + 1 : Nat) : Int) := hasNode_iff e10 (by omega)
  have ix : ∀ {n : Int32}, s_hasNode M n = true → ¬ n.toNatClampNeg = N := fun {n} z y => by
    have z := hn.mp z
    unfold Int32.toNatClampNeg at y
    omega
  have mono : ∀ x, s_hasNode M x = true → s_hasNode M2 x = true ∧ lv M2 x = lv M x := fun x z => by
    refine ⟨hn'.mpr (by have := hn.mp z; omega), ?_⟩
    unfold lv
    rw [q6, if_neg (ix z)]
  refine ⟨by rw [r2]; exact hgd, ⟨?_, ?_, fun n z => ?_, fun f z => ?_⟩, ?_, ⟨?_, ?_, ?_, ?_, ?_, ?_, ?_, ?_, ?_, ?_, ?_⟩, ?_, ⟨fun j hj hjc x hx hl => ?_, fun j hj hjc => ?_⟩, ?_, ?_⟩
  · rw [e10, Int32.lt_iff_toInt_lt, nI_ti (by omega), Int32.toInt_zero]
    omega
  · rw [e10, Int32.lt_iff_toInt_lt, nI_ti (by omega), show (60 : Int32).toInt = 60 by decide]
    omega
  · show NDp M2 (lv M2 n) (M2.1 2 0 n.toNatClampNeg) (M2.1 3 0 n.toNatClampNeg) (M2.1 4 0 n.toNatClampNeg) (M2.1 5 0 n.toNatClampNeg)
    unfold lv
    rw [q2, q3, q4, q5, q6]
    by_cases y : s_hasNode M n = true
    · rw [if_neg (ix y), if_neg (ix y), if_neg (ix y), if_neg (ix y), if_neg (ix y)]
      exact (hp.nd y).mono mono
    · have e : n.toNatClampNeg = N := by
        have z := hn'.mp z
        have y : ¬ (0 ≤ n.toInt ∧ n.toInt < (N : Int)) := fun w => y (hn.mpr w)
        unfold Int32.toNatClampNeg
        omega
      rw [if_pos e, if_pos e, if_pos e, if_pos e, if_pos e]
      exact nd.mono mono
  · have z' : s_hasFun M f = true := by
      unfold s_hasFun at z ⊢
      rw [rO 7 (by decide) (by decide) (by decide)] at z
      exact z
    rw [rO 8 (by decide) (by decide) (by decide), rO 9 (by decide) (by decide) (by decide), rO 10 (by decide) (by decide) (by decide), rO 11 (by decide) (by decide) (by decide)]
    obtain ⟨a1, a2⟩ := hp.2.2.2 f z'
    exact ⟨(mono _ a1).1, a2⟩
  · exact hi.cong (rO 7 (by decide) (by decide) (by decide)) (rO 12 (by decide) (by decide) (by decide)) (rO 14 (by decide) (by decide) (by decide))
  · rw [q30, if_pos rfl, e10]
  · funext x
    rw [q31, q2, hsp.2.1]
  · funext x
    rw [q32, q3, hsp.2.2.1]
  · funext x
    rw [q33, q4, hsp.2.2.2.1]
  · funext x
    rw [q34, q5, hsp.2.2.2.2.1]
  · funext x
    rw [q35, q6, hsp.2.2.2.2.2.1]
  · rw [rO 36 (by decide) (by decide) (by decide), rO 7 (by decide) (by decide) (by decide)]
    exact hsp.2.2.2.2.2.2.1
  · rw [rO 37 (by decide) (by decide) (by decide), rO 8 (by decide) (by decide) (by decide)]
    exact hsp.2.2.2.2.2.2.2.1
  · rw [rO 38 (by decide) (by decide) (by decide), rO 9 (by decide) (by decide) (by decide)]
    exact hsp.2.2.2.2.2.2.2.2.1
  · rw [rO 39 (by decide) (by decide) (by decide), rO 10 (by decide) (by decide) (by decide)]
    exact hsp.2.2.2.2.2.2.2.2.2.1
  · rw [rO 40 (by decide) (by decide) (by decide), rO 11 (by decide) (by decide) (by decide)]
    exact hsp.2.2.2.2.2.2.2.2.2.2
  · exact hS.cong2 (fun f x1 x2 => rO f x1 (by omega) (by omega)) (fun f _ => by rw [r2]) (fun x x1 _ => by rw [q30, if_neg (by omega)]) (fun f x1 => rO f (by omega) (by omega) (by omega)) (fun f _ => by rw [r2]) (fun f _ => rfl)
  · rw [rO 12 (by decide) (by decide) (by decide)] at hjc
    rw [rO 17 (by decide) (by decide) (by decide)] at hl
    rw [rO 18 (by decide) (by decide) (by decide)]
    obtain ⟨b1, b2⟩ := hB.1 j hj hjc x hx hl
    refine ⟨(mono _ b1).1, fun y => ?_⟩
    have xN : ¬ x = N := by
      have := ix b1
      rw [nI_clamp (by omega)] at this
      exact this
    refine (b2 y).cong (fun g g1 g2 => ?_) (fun f x1 x2 => rO f (by omega) (by omega) (by omega)) (fun f _ => by rw [r2]) (rO 47 (by decide) (by decide) (by decide)) (fun _ => by rw [rO 8 (by decide) (by decide) (by decide), rO 9 (by decide) (by decide) (by decide)]; exact ⟨rfl, rfl⟩)
    obtain rfl | rfl | rfl | rfl : g = 2 ∨ g = 3 ∨ g = 4 ∨ g = 5 := by omega
    · rw [q2, if_neg xN]
    · rw [q3, if_neg xN]
    · rw [q4, if_neg xN]
    · rw [q5, if_neg xN]
  · rw [rO 12 (by decide) (by decide) (by decide)] at hjc
    have := hB.2 j hj hjc
    unfold PB PS LPc at *
    rw [rO 11 (by decide) (by decide) (by decide), rO 14 (by decide) (by decide) (by decide), rO 17 (by decide) (by decide) (by decide), r2]
    exact this
  · rw [q30, if_neg (by decide), rO 21 (by decide) (by decide) (by decide)]
    exact hc
  · rw [q1, if_neg (by decide), cf_cong (M := M) (M' := M2) (by rw [rO 36 (by decide) (by decide) (by decide)])]
    exact hf
theorem node_inv {M : mm_M} {k a b c : Int32} (h : INV M) : (s_addNode M k a b c).1 = (t_node (s_addNode M k a b c).2 k a b c).1 ∧ INV (t_node (s_addNode M k a b c).2 k a b c).2 ∧ (s_addNode M k a b c).2.2.2 = mm_gd ∧ ¬ (s_addNode M k a b c).2.1 30 0 0 < 0 ∧ ¬ 60 < (s_addNode M k a b c).2.1 30 0 0 := by
  have hp := h.2.1
  have hsp := h.2.2.2.1
  have n0 : ¬ M.1 30 0 0 < 0 := by
    rw [hsp.1]
    exact hp.1
  have n60 : ¬ 60 < M.1 30 0 0 := by
    rw [hsp.1]
    exact hp.2.1
  by_cases acc : ¬ 60 ≤ M.1 1 0 10 ∧ s_isOne k = true ∧ s_hasOps M k a b c = true ∧ s_lvAbove M k a b c ≤ 8
  · obtain ⟨a1, a2, a3, a4⟩ := acc
    have vN : vp_in (M.1 1 0 10) 60 := by
      rw [vp_in_iff]
      have := hp.1
      rw [Int32.lt_iff_toInt_lt, Int32.toInt_zero] at this
      rw [Int32.le_iff_toInt_le, show (60 : Int32).toInt = 60 by decide] at a1
      exact ⟨by omega, by omega⟩
    obtain ⟨N, eN, hN⟩ : ∃ N, M.1 1 0 10 = nI N ∧ N < 60 := ⟨_, (nI_back vN).symm, (clamp_i vN).2⟩
    have e1 : s_addNode M k a b c = (nI N, s_addNodeM M k a b c) := by
      unfold s_addNode
      rw [if_neg a1, if_neg (by rw [a2]; decide), if_neg (by rw [a3]; decide), if_pos a4, eN]
    have E1 : ∀ f, 7 ≤ f → (s_addNodeM M k a b c).1 f = M.1 f := fun f hf => by
      unfold s_addNodeM
      show mm_u (mm_u (mm_u (mm_u (mm_u (mm_u M.1 2 0 _ k) 3 0 _ a) 4 0 _ b) 5 0 _ c) 6 0 _ _) 1 0 10 _ f = _
      rw [mm_u_row' (by omega), mm_u_row' (by omega), mm_u_row' (by omega), mm_u_row' (by omega), mm_u_row' (by omega), mm_u_row' (by omega)]
    have L1 : (s_addNodeM M k a b c).2.2 = M.2.2 := rfl
    have inv := node_add h eN hN a2 a3 a4
    rw [e1]
    show nI N = (t_node (s_addNodeM M k a b c) k a b c).1 ∧ INV (t_node (s_addNodeM M k a b c) k a b c).2 ∧ (s_addNodeM M k a b c).2.2 = mm_gd ∧ ¬ (s_addNodeM M k a b c).1 30 0 0 < 0 ∧ ¬ 60 < (s_addNodeM M k a b c).1 30 0 0
    generalize s_addNodeM M k a b c = M1 at *
    have g : t_good M1 k a b c = true := by
      rw [good_eq (C := M) (by rw [E1 30 (by decide)]; exact hsp.1), a2, a3]
      rfl
    have n6 : ¬ M1.1 30 0 0 = 60 := fun z => by
      rw [E1 30 (by decide), hsp.1, eN] at z
      have := congrArg Int32.toInt z
      rw [nI_ti (by omega), show (60 : Int32).toInt = 60 by decide] at this
      omega
    have l : t_nlv M1 k a b c = s_lvAbove M k a b c := nlv_eq (by rw [E1 35 (by decide)]; exact hsp.2.2.2.2.2.1) hp a3
    have e2 : t_node M1 k a b c = (nI N, t_nodeM M1 k a b c (s_lvAbove M k a b c)) := by
      unfold t_node t_node2 t_node3
      rw [if_pos g, if_neg n6, l, if_pos a4, E1 30 (by decide), hsp.1, eN, nI_1, nI_p]
    rw [e2]
    refine ⟨rfl, inv, L1.trans h.1, ?_, ?_⟩
    · rw [E1 30 (by decide)]
      exact n0
    · rw [E1 30 (by decide)]
      exact n60
  · have e1 : s_addNode M k a b c = (-1, M) := by
      unfold s_addNode
      by_cases q1 : 60 ≤ M.1 1 0 10
      · rw [if_pos q1]
      rw [if_neg q1]
      by_cases q2 : s_isOne k = true
      · rw [if_neg (by rw [q2]; decide)]
        by_cases q3 : s_hasOps M k a b c = true
        · rw [if_neg (by rw [q3]; decide), if_neg (fun z => acc ⟨q1, q2, q3, z⟩)]
        · rw [if_pos (by simpa using q3)]
      · rw [if_pos (by simpa using q2)]
    have e2 : t_node M k a b c = (-1, M) := by
      unfold t_node t_node2 t_node3
      by_cases g : t_good M k a b c = true
      · rw [if_pos g]
        rw [good_eq (C := M) hsp.1, Bool.and_eq_true] at g
        by_cases q : M.1 30 0 0 = 60
        · rw [if_pos q]
        · rw [if_neg q, if_neg]
          intro z
          rw [nlv_eq (C := M) hsp.2.2.2.2.2.1 hp g.2] at z
          refine acc ⟨fun y => q ?_, g.1, g.2, z⟩
          rw [← hsp.1] at y
          exact Int32.le_antisymm (Int32.not_lt.mp n60) y
      · rw [if_neg g]
    rw [e1]
    show -1 = (t_node M k a b c).1 ∧ INV (t_node M k a b c).2 ∧ M.2.2 = mm_gd ∧ ¬ M.1 30 0 0 < 0 ∧ ¬ 60 < M.1 30 0 0
    rw [e2]
    exact ⟨rfl, h, h.1, n0, n60⟩
