/-! the law's walk -/
def lw_g (L : Nat) (xs : Nat → Int32) : mm_F := (9, 4, some .boolean, true, 600000, 7302250, some (L, xs), false)
def LwS (j : Nat) : List (Option mm_V) := [some (.inr (.inr (some (999, 0)))), some (.inr (.inr (some (0, 0)))), some (.inr (.inr (some (30, 0)))), some (.inl (nI (6 * j)))]
def h18 (pc : Nat) : Bool := pc == 18
def lw_post : Option mm_V → mm_M → Prop := fun v _ => v = some (.inl 1)
def p_law (L : Nat) : Nat → Nat → mm_X := fun n pc ls st M u w => pc = 18 ∧ ∃ j, 6 * j ≤ L ∧ n = 600 - j ∧ ls = LwS j ∧ st = [] ∧ INV M ∧ u = 183 ∧ w = 12178
def lw_G : mm_G := mm_gl [(0, k_i0), (5, k_i5), (8, k_fnode), (68, k_qnode), (9, k_fdefine), (69, k_qdef), (10, k_fcompile), (91, k_qcompile), (11, k_ferrorAt), (92, k_qerrorAt), (12, k_ffun), (102, k_qfun), (13, k_fcountOf), (103, k_qcountOf), (14, k_ftype), (104, k_qtypeOf), (15, k_fknown), (105, k_qknown), (16, k_fsize), (106, k_qsize), (17, k_frun), (100, k_qrun), (18, k_fcount), (107, k_qcount)]
theorem lw_G_0 {As : List mm_V} {M : mm_M} {P : Option mm_V → mm_M → Prop} : lw_G 0 As M P = k_i0 As M P := rfl
theorem lw_G_5 {As : List mm_V} {M : mm_M} {P : Option mm_V → mm_M → Prop} : lw_G 5 As M P = k_i5 As M P := rfl
theorem lw_G_8 {As : List mm_V} {M : mm_M} {P : Option mm_V → mm_M → Prop} : lw_G 8 As M P = k_fnode As M P := rfl
theorem lw_G_68 {As : List mm_V} {M : mm_M} {P : Option mm_V → mm_M → Prop} : lw_G 68 As M P = k_qnode As M P := rfl
theorem lw_G_9 {As : List mm_V} {M : mm_M} {P : Option mm_V → mm_M → Prop} : lw_G 9 As M P = k_fdefine As M P := rfl
theorem lw_G_69 {As : List mm_V} {M : mm_M} {P : Option mm_V → mm_M → Prop} : lw_G 69 As M P = k_qdef As M P := rfl
theorem lw_G_10 {As : List mm_V} {M : mm_M} {P : Option mm_V → mm_M → Prop} : lw_G 10 As M P = k_fcompile As M P := rfl
theorem lw_G_91 {As : List mm_V} {M : mm_M} {P : Option mm_V → mm_M → Prop} : lw_G 91 As M P = k_qcompile As M P := rfl
theorem lw_G_11 {As : List mm_V} {M : mm_M} {P : Option mm_V → mm_M → Prop} : lw_G 11 As M P = k_ferrorAt As M P := rfl
theorem lw_G_92 {As : List mm_V} {M : mm_M} {P : Option mm_V → mm_M → Prop} : lw_G 92 As M P = k_qerrorAt As M P := rfl
theorem lw_G_12 {As : List mm_V} {M : mm_M} {P : Option mm_V → mm_M → Prop} : lw_G 12 As M P = k_ffun As M P := rfl
theorem lw_G_102 {As : List mm_V} {M : mm_M} {P : Option mm_V → mm_M → Prop} : lw_G 102 As M P = k_qfun As M P := rfl
theorem lw_G_13 {As : List mm_V} {M : mm_M} {P : Option mm_V → mm_M → Prop} : lw_G 13 As M P = k_fcountOf As M P := rfl
theorem lw_G_103 {As : List mm_V} {M : mm_M} {P : Option mm_V → mm_M → Prop} : lw_G 103 As M P = k_qcountOf As M P := rfl
theorem lw_G_14 {As : List mm_V} {M : mm_M} {P : Option mm_V → mm_M → Prop} : lw_G 14 As M P = k_ftype As M P := rfl
theorem lw_G_104 {As : List mm_V} {M : mm_M} {P : Option mm_V → mm_M → Prop} : lw_G 104 As M P = k_qtypeOf As M P := rfl
theorem lw_G_15 {As : List mm_V} {M : mm_M} {P : Option mm_V → mm_M → Prop} : lw_G 15 As M P = k_fknown As M P := rfl
theorem lw_G_105 {As : List mm_V} {M : mm_M} {P : Option mm_V → mm_M → Prop} : lw_G 105 As M P = k_qknown As M P := rfl
theorem lw_G_16 {As : List mm_V} {M : mm_M} {P : Option mm_V → mm_M → Prop} : lw_G 16 As M P = k_fsize As M P := rfl
theorem lw_G_106 {As : List mm_V} {M : mm_M} {P : Option mm_V → mm_M → Prop} : lw_G 106 As M P = k_qsize As M P := rfl
theorem lw_G_17 {As : List mm_V} {M : mm_M} {P : Option mm_V → mm_M → Prop} : lw_G 17 As M P = k_frun As M P := rfl
theorem lw_G_100 {As : List mm_V} {M : mm_M} {P : Option mm_V → mm_M → Prop} : lw_G 100 As M P = k_qrun As M P := rfl
theorem lw_G_18 {As : List mm_V} {M : mm_M} {P : Option mm_V → mm_M → Prop} : lw_G 18 As M P = k_fcount As M P := rfl
theorem lw_G_107 {As : List mm_V} {M : mm_M} {P : Option mm_V → mm_M → Prop} : lw_G 107 As M P = k_qcount As M P := rfl
theorem h18c {P : Nat → Nat → mm_X} {k : Nat} (q : Nat) (h : q ≠ 18) : mm_cutI h18 P k q = none := by
  unfold mm_cutI h18
  rw [if_neg]
  simpa using h
theorem made {M : mm_M} {f : Nat} (h : M.2.2 = mm_gd) (hf : f = 0) : M.2.2.2 f 0 := by
  rw [h, hf]
  exact Or.inl ⟨Or.inl (by decide), rfl⟩
theorem made30 {M : mm_M} (h : M.2.2 = mm_gd) : M.2.2.2 30 0 := by
  rw [h]
  exact Or.inl ⟨Or.inr (Or.inr (Or.inl ⟨by decide, by decide⟩)), rfl⟩
section LAW
variable {Γ : mm_G} {Q : Option mm_V → mm_M → Prop} {cut : Nat → Option mm_X} {N pc L j : Nat} {xs : Nat → Int32} {st : List mm_V} {M : mm_M} {u w : Nat} {g : mm_F} {cc : ByteArray} {ls : List (Option mm_V)}
set_option maxRecDepth 100000 in
/-- a number of the script -/
theorem xs_sl {z : Int} {n : Nat} (d0 : decode code pc = .ok (.aload_n 0, 1)) (d1 : decode code (pc + 1) = .ok (.iload_n 3, 1)) (d2 : decode code (pc + 1 + 1) = .ok (.iconst z, 1)) (d3 : decode code (pc + 1 + 1 + 1) = .ok (.iadd, 1)) (d4 : decode code (pc + 1 + 1 + 1 + 1) = .ok (.iaload, 1)) (hz : Int32.ofInt z = nI n) (hn : 6 * j + n < L) (hL : L ≤ 3072) (hc : ∀ q, q ≠ 18 → cut q = none) (hp : 18 < pc)
    (k : mm_x (lw_g L xs) code Γ cut Q N (pc + 1 + 1 + 1 + 1 + 1) (LwS j) (.inl (xs (6 * j + n)) :: st) M u w) : mm_x (lw_g L xs) code Γ cut Q (N + 5) pc (LwS j) st M u w := by
  refine xs_al (N := N + 4) d0 rfl (hc _ (by omega)) ?_
  refine xs_il (N := N + 3) d1 rfl (hc _ (by omega)) ?_
  refine xs_ic (N := N + 2) d2 (hc _ (by omega)) ?_
  rw [hz]
  refine xs0 (N := N + 1) d3 ⟨rfl, ?_⟩
  show mm_cut (cut (pc + 1 + 1 + 1 + 1)) (LwS j) (.inl (nI (6 * j) + nI n) :: .inr (.inr (some (999, 0))) :: st) M u w _
  rw [hc _ (by omega), nI_add]
  refine xs0 (N := N) d4 ⟨rfl, ?_⟩
  dsimp only [mm_pI, mm_pR]
  rw [if_pos rfl]
  refine ⟨rfl, vp_in_nI hn (by omega), ?_⟩
  show mm_cut (cut (pc + 1 + 1 + 1 + 1 + 1)) (LwS j) (.inl (xs (nI (6 * j + n)).toNatClampNeg) :: st) M u w _
  rw [hc _ (by omega), nI_clamp (by omega)]
  exact k
/-- a method is called -/
theorem xs_iv {o i id ix na : Nat} {As st1 : List mm_V} (d : decode cc pc = .ok (.invokevirtual ix, 3)) (hMT : mm_MT g.1 ix = some (id, na, 1)) (hY : mm_Y o = .inl (mm_mk id)) (ho9 : o ≠ 999) (ho : M.2.2.2 o i) (hpn : ∀ k, mm_pN na [] st1 k = k As (.inr (.inr (some (o, i))) :: st)) (hsm : mm_sm st ≤ 8) (hal : mm_al id = false) (hmc : mm_mc id = 0) (hms : mm_ms id = 0) (hu : u ≤ g.2.2.2.2.1) (hw : w ≤ g.2.2.2.2.2.1) (hc : cut (pc + 3) = none)
    (k : Γ id (.inr (.inr (some (o, i))) :: As) M fun v M' => mm_x g cc Γ cut Q N (pc + 3) ls (v.toList ++ st) M' u w) : mm_x g cc Γ cut Q (N + 1) pc ls st1 M u w := by
  refine xs0 d ⟨rfl, ?_⟩
  rw [hMT]
  dsimp only [mm_o]
  refine ⟨rfl, ?_⟩
  rw [hpn]
  refine ⟨⟨hY, ho9, ho⟩, hsm, by rw [hmc]; exact hu, by rw [hms]; exact hw, fun z => by rw [hal] at z; exact absurd z (by decide), ?_⟩
  have e : (fun (v : Option mm_V) (M' : mm_M) => mm_cut (cut (pc + 3)) ls (v.toList ++ st) M' (u + mm_mc id) (w + mm_ms id) (mm_x g cc Γ cut Q N (pc + 3) ls (v.toList ++ st) M' (u + mm_mc id) (w + mm_ms id))) = fun v M' => mm_x g cc Γ cut Q N (pc + 3) ls (v.toList ++ st) M' u w := by
    rw [hc, hmc, hms]
    rfl
  show Γ id (.inr (.inr (some (o, i))) :: As) M (fun (v : Option mm_V) (M' : mm_M) => mm_cut (cut (pc + 3)) ls (v.toList ++ st) M' (u + mm_mc id) (w + mm_ms id) (mm_x g cc Γ cut Q N (pc + 3) ls (v.toList ++ st) M' (u + mm_mc id) (w + mm_ms id)))
  rw [e]
  exact k
theorem xs_eq {off : Int} {x y : Int32} {p' : Nat} (d : decode cc pc = .ok (.if_icmp .eq off, 3)) (h0 : 0 ≤ (pc : Int) + off) (hj : mm_jmp pc off = p') (e : x = y) (hc : cut p' = none) (k : mm_x g cc Γ cut Q N p' ls st M u w) : mm_x g cc Γ cut Q (N + 1) pc ls (.inl y :: .inl x :: st) M u w := by
  refine xs0 d ⟨rfl, h0, fun _ => ?_, fun z => absurd e z⟩
  rw [hj]
  show mm_cut (cut p') _ _ _ _ _ _
  rw [hc]
  exact k
theorem xs_e0 {off : Int} {x : Int32} {p' : Nat} (d : decode cc pc = .ok (.ifCond .eq off, 3)) (h0 : 0 ≤ (pc : Int) + off) (hj : mm_jmp pc off = p') (e : x = 0) (hc : cut p' = none) (k : mm_x g cc Γ cut Q N p' ls st M u w) : mm_x g cc Γ cut Q (N + 1) pc ls (.inl x :: st) M u w := by
  refine xs0 d ⟨rfl, h0, fun _ => ?_, fun z => absurd e z⟩
  rw [hj]
  show mm_cut (cut p') _ _ _ _ _ _
  rw [hc]
  exact k
theorem xs_lc {x y : Int64} (d : decode cc pc = .ok (.lcmp, 1)) (hc : cut (pc + 1) = none) (k : mm_x g cc Γ cut Q N (pc + 1) ls (.inl (lg_cmp x y) :: st) M u w) : mm_x g cc Γ cut Q (N + 1) pc ls (.inr (.inl y) :: .inr (.inl x) :: st) M u w := by
  refine xs0 d ⟨rfl, ?_⟩
  show mm_cut (cut (pc + 1)) _ _ _ _ _ _
  rw [hc]
  exact k
end LAW
set_option maxRecDepth 100000 in
theorem lw_tail {L j k N : Nat} {xs : Nat → Int32} {M : mm_M} (h : INV M) (hL : L ≤ 3072) (hj : 6 * j + 6 ≤ L) (hk : k = 600 - j) : mm_x (lw_g L xs) code lw_G (mm_cutI h18 (p_law L) k) lw_post (N + 2) 478 (LwS j) [] M 183 12178 := by
  refine xs0 (N := N + 1) d999_478 ⟨rfl, show 3 < 4 by decide, ?_⟩
  have e6 : nI (6 * j) + Int32.ofInt 6 = nI (6 * (j + 1)) := by
    rw [show Int32.ofInt 6 = nI 6 by decide, nI_add]
    rfl
  show mm_x (lw_g L xs) code lw_G (mm_cutI h18 (p_law L) k) lw_post (N + 1) 481 [some (.inr (.inr (some (999, 0)))), some (.inr (.inr (some (0, 0)))), some (.inr (.inr (some (30, 0)))), some (.inl (nI (6 * j) + Int32.ofInt 6))] [] M 183 12178
  rw [e6]
  refine xs0 (N := N) d999_481 ⟨rfl, by decide, ?_⟩
  exact ⟨600 - (j + 1), by omega, rfl, j + 1, by omega, rfl, rfl, rfl, h, rfl, rfl⟩

set_option maxRecDepth 100000 in
set_option maxHeartbeats 2000000 in
theorem lw_c0 {L j k N : Nat} {xs : Nat → Int32} {M : mm_M} (h : INV M) (hL : L ≤ 3072) (hj : 6 * j + 6 ≤ L) (hk : k = 600 - j) : mm_x (lw_g L xs) code lw_G (mm_cutI h18 (p_law L) k) lw_post (N + 100) 92 (LwS j) [] M 183 12178 := by
  have hG := h.1
  have hc : ∀ q, q ≠ 18 → mm_cutI h18 (p_law L) k q = none := h18c
  obtain ⟨e1, e2, hG1, e3, e4⟩ := node_inv (k := xs (6 * j + 1)) (a := xs (6 * j + 2)) (b := xs (6 * j + 3)) (c := xs (6 * j + 4)) h
  refine xs_al (N := N + 99) d999_92 rfl (hc _ (by decide)) ?_
  refine xs_sl (N := N + 94) (n := 1) d999_93 d999_94 d999_95 d999_96 d999_97 (by decide) (by omega) hL hc (by decide) ?_
  refine xs_sl (N := N + 89) (n := 2) d999_98 d999_99 d999_100 d999_101 d999_102 (by decide) (by omega) hL hc (by decide) ?_
  refine xs_sl (N := N + 84) (n := 3) d999_103 d999_104 d999_105 d999_106 d999_107 (by decide) (by omega) hL hc (by decide) ?_
  refine xs_sl (N := N + 79) (n := 4) d999_108 d999_109 d999_110 d999_111 d999_112 (by decide) (by omega) hL hc (by decide) ?_
  refine xs_iv (N := N + 78) d999_113 mt_9_13 rfl (by decide) (made hG rfl) (fun _ => rfl) (show _ ≤ 8 from Nat.zero_le _) (by decide) (by decide) (by decide) (Nat.le_of_ble_eq_true rfl) (Nat.le_of_ble_eq_true rfl) (hc _ (by decide)) ?_
  rw [lw_G_8, e_fnode]
  refine ⟨hG, h.2.1.1, h.2.1.2.1, ?_⟩
  show mm_x (lw_g L xs) code lw_G (mm_cutI h18 (p_law L) k) lw_post (N + 78) 116 (LwS j) [.inl ((s_addNode M (xs (6 * j + 1)) (xs (6 * j + 2)) (xs (6 * j + 3)) (xs (6 * j + 4))).1)] (s_addNode M (xs (6 * j + 1)) (xs (6 * j + 2)) (xs (6 * j + 3)) (xs (6 * j + 4))).2 183 12178
  refine xs_al (N := N + 77) d999_116 rfl (hc _ (by decide)) ?_
  refine xs_sl (N := N + 72) (n := 1) d999_117 d999_118 d999_119 d999_120 d999_121 (by decide) (by omega) hL hc (by decide) ?_
  refine xs_sl (N := N + 67) (n := 2) d999_122 d999_123 d999_124 d999_125 d999_126 (by decide) (by omega) hL hc (by decide) ?_
  refine xs_sl (N := N + 62) (n := 3) d999_127 d999_128 d999_129 d999_130 d999_131 (by decide) (by omega) hL hc (by decide) ?_
  refine xs_sl (N := N + 57) (n := 4) d999_132 d999_133 d999_134 d999_135 d999_136 (by decide) (by omega) hL hc (by decide) ?_
  refine xs_iv (N := N + 56) d999_137 mt_9_17 rfl (by decide) (made30 hG1) (fun _ => rfl) (show _ ≤ 8 from Nat.le_of_ble_eq_true rfl) (by decide) (by decide) (by decide) (Nat.le_of_ble_eq_true rfl) (Nat.le_of_ble_eq_true rfl) (hc _ (by decide)) ?_
  rw [lw_G_68, e_qnode]
  refine ⟨hG1, e3, e4, ?_⟩
  show mm_x (lw_g L xs) code lw_G (mm_cutI h18 (p_law L) k) lw_post (N + 56) 140 (LwS j) [.inl ((t_node (s_addNode M (xs (6 * j + 1)) (xs (6 * j + 2)) (xs (6 * j + 3)) (xs (6 * j + 4))).2 (xs (6 * j + 1)) (xs (6 * j + 2)) (xs (6 * j + 3)) (xs (6 * j + 4))).1), .inl ((s_addNode M (xs (6 * j + 1)) (xs (6 * j + 2)) (xs (6 * j + 3)) (xs (6 * j + 4))).1)] (t_node (s_addNode M (xs (6 * j + 1)) (xs (6 * j + 2)) (xs (6 * j + 3)) (xs (6 * j + 4))).2 (xs (6 * j + 1)) (xs (6 * j + 2)) (xs (6 * j + 3)) (xs (6 * j + 4))).2 183 12178
  refine xs_eq (N := N + 55) d999_140 (by decide) rfl e1 (hc _ (by decide)) ?_
  exact lw_tail (N := N + 53) e2 hL hj hk
set_option maxRecDepth 100000 in
set_option maxHeartbeats 2000000 in
theorem lw_c1 {L j k N : Nat} {xs : Nat → Int32} {M : mm_M} (h : INV M) (hL : L ≤ 3072) (hj : 6 * j + 6 ≤ L) (hk : k = 600 - j) : mm_x (lw_g L xs) code lw_G (mm_cutI h18 (p_law L) k) lw_post (N + 100) 145 (LwS j) [] M 183 12178 := by
  have hG := h.1
  have hc : ∀ q, q ≠ 18 → mm_cutI h18 (p_law L) k q = none := h18c
  obtain ⟨e1, e2, hG1⟩ := def_inv (f := xs (6 * j + 1)) (p := xs (6 * j + 2)) (q := xs (6 * j + 3)) (r := xs (6 * j + 4)) (b := xs (6 * j + 5)) h
  refine xs_al (N := N + 99) d999_145 rfl (hc _ (by decide)) ?_
  refine xs_sl (N := N + 94) (n := 1) d999_146 d999_147 d999_148 d999_149 d999_150 (by decide) (by omega) hL hc (by decide) ?_
  refine xs_sl (N := N + 89) (n := 2) d999_151 d999_152 d999_153 d999_154 d999_155 (by decide) (by omega) hL hc (by decide) ?_
  refine xs_sl (N := N + 84) (n := 3) d999_156 d999_157 d999_158 d999_159 d999_160 (by decide) (by omega) hL hc (by decide) ?_
  refine xs_sl (N := N + 79) (n := 4) d999_161 d999_162 d999_163 d999_164 d999_165 (by decide) (by omega) hL hc (by decide) ?_
  refine xs_sl (N := N + 74) (n := 5) d999_166 d999_167 d999_168 d999_169 d999_170 (by decide) (by omega) hL hc (by decide) ?_
  refine xs_iv (N := N + 73) d999_171 mt_9_18 rfl (by decide) (made hG rfl) (fun _ => rfl) (show _ ≤ 8 from Nat.zero_le _) (by decide) (by decide) (by decide) (Nat.le_of_ble_eq_true rfl) (Nat.le_of_ble_eq_true rfl) (hc _ (by decide)) ?_
  rw [lw_G_9, e_fdefine]
  refine ⟨hG, ?_⟩
  show mm_x (lw_g L xs) code lw_G (mm_cutI h18 (p_law L) k) lw_post (N + 73) 174 (LwS j) [.inl ((s_addFun M (xs (6 * j + 1)) (xs (6 * j + 2)) (xs (6 * j + 3)) (xs (6 * j + 4)) (xs (6 * j + 5))).1)] (s_addFun M (xs (6 * j + 1)) (xs (6 * j + 2)) (xs (6 * j + 3)) (xs (6 * j + 4)) (xs (6 * j + 5))).2 183 12178
  refine xs_al (N := N + 72) d999_174 rfl (hc _ (by decide)) ?_
  refine xs_sl (N := N + 67) (n := 1) d999_175 d999_176 d999_177 d999_178 d999_179 (by decide) (by omega) hL hc (by decide) ?_
  refine xs_sl (N := N + 62) (n := 2) d999_180 d999_181 d999_182 d999_183 d999_184 (by decide) (by omega) hL hc (by decide) ?_
  refine xs_sl (N := N + 57) (n := 3) d999_185 d999_186 d999_187 d999_188 d999_189 (by decide) (by omega) hL hc (by decide) ?_
  refine xs_sl (N := N + 52) (n := 4) d999_190 d999_191 d999_192 d999_193 d999_194 (by decide) (by omega) hL hc (by decide) ?_
  refine xs_sl (N := N + 47) (n := 5) d999_195 d999_196 d999_197 d999_198 d999_199 (by decide) (by omega) hL hc (by decide) ?_
  refine xs_iv (N := N + 46) d999_200 mt_9_22 rfl (by decide) (made30 hG1) (fun _ => rfl) (show _ ≤ 8 from Nat.le_of_ble_eq_true rfl) (by decide) (by decide) (by decide) (Nat.le_of_ble_eq_true rfl) (Nat.le_of_ble_eq_true rfl) (hc _ (by decide)) ?_
  rw [lw_G_69, e_qdef]
  refine ⟨hG1, ?_⟩
  show mm_x (lw_g L xs) code lw_G (mm_cutI h18 (p_law L) k) lw_post (N + 46) 203 (LwS j) [.inl ((t_def (s_addFun M (xs (6 * j + 1)) (xs (6 * j + 2)) (xs (6 * j + 3)) (xs (6 * j + 4)) (xs (6 * j + 5))).2 (xs (6 * j + 1)) (xs (6 * j + 2)) (xs (6 * j + 3)) (xs (6 * j + 4)) (xs (6 * j + 5))).1), .inl ((s_addFun M (xs (6 * j + 1)) (xs (6 * j + 2)) (xs (6 * j + 3)) (xs (6 * j + 4)) (xs (6 * j + 5))).1)] (t_def (s_addFun M (xs (6 * j + 1)) (xs (6 * j + 2)) (xs (6 * j + 3)) (xs (6 * j + 4)) (xs (6 * j + 5))).2 (xs (6 * j + 1)) (xs (6 * j + 2)) (xs (6 * j + 3)) (xs (6 * j + 4)) (xs (6 * j + 5))).2 183 12178
  refine xs_eq (N := N + 45) d999_203 (by decide) rfl e1 (hc _ (by decide)) ?_
  exact lw_tail (N := N + 43) e2 hL hj hk
set_option maxRecDepth 100000 in
set_option maxHeartbeats 2000000 in
theorem lw_c2 {L j k N : Nat} {xs : Nat → Int32} {M : mm_M} (h : INV M) (hL : L ≤ 3072) (hj : 6 * j + 6 ≤ L) (hk : k = 600 - j) : mm_x (lw_g L xs) code lw_G (mm_cutI h18 (p_law L) k) lw_post (N + 100) 208 (LwS j) [] M 183 12178 := by
  have hG := h.1
  have hc : ∀ q, q ≠ 18 → mm_cutI h18 (p_law L) k q = none := h18c
  obtain ⟨e1, e2, hG1, e3, e4, e5⟩ := comp_inv (f := xs (6 * j + 1)) (v := xs (6 * j + 2)) (w := xs (6 * j + 3)) h
  refine xs_al (N := N + 99) d999_208 rfl (hc _ (by decide)) ?_
  refine xs_sl (N := N + 94) (n := 1) d999_209 d999_210 d999_211 d999_212 d999_213 (by decide) (by omega) hL hc (by decide) ?_
  refine xs_sl (N := N + 89) (n := 2) d999_214 d999_215 d999_216 d999_217 d999_218 (by decide) (by omega) hL hc (by decide) ?_
  refine xs_sl (N := N + 84) (n := 3) d999_219 d999_220 d999_221 d999_222 d999_223 (by decide) (by omega) hL hc (by decide) ?_
  refine xs_iv (N := N + 83) d999_224 mt_9_23 rfl (by decide) (made hG rfl) (fun _ => rfl) (show _ ≤ 8 from Nat.zero_le _) (by decide) (by decide) (by decide) (Nat.le_of_ble_eq_true rfl) (Nat.le_of_ble_eq_true rfl) (hc _ (by decide)) ?_
  rw [lw_G_10, e_fcompile]
  refine ⟨h.jj, ?_⟩
  show mm_x (lw_g L xs) code lw_G (mm_cutI h18 (p_law L) k) lw_post (N + 83) 227 (LwS j) [.inl ((s_comp M (xs (6 * j + 1)) (xs (6 * j + 2)) (xs (6 * j + 3))).1)] (s_comp M (xs (6 * j + 1)) (xs (6 * j + 2)) (xs (6 * j + 3))).2 183 12178
  refine xs_al (N := N + 82) d999_227 rfl (hc _ (by decide)) ?_
  refine xs_sl (N := N + 77) (n := 1) d999_228 d999_229 d999_230 d999_231 d999_232 (by decide) (by omega) hL hc (by decide) ?_
  refine xs_sl (N := N + 72) (n := 2) d999_233 d999_234 d999_235 d999_236 d999_237 (by decide) (by omega) hL hc (by decide) ?_
  refine xs_sl (N := N + 67) (n := 3) d999_238 d999_239 d999_240 d999_241 d999_242 (by decide) (by omega) hL hc (by decide) ?_
  refine xs_iv (N := N + 66) d999_243 mt_9_27 rfl (by decide) (made30 hG1) (fun _ => rfl) (show _ ≤ 8 from Nat.le_of_ble_eq_true rfl) (by decide) (by decide) (by decide) (Nat.le_of_ble_eq_true rfl) (Nat.le_of_ble_eq_true rfl) (hc _ (by decide)) ?_
  rw [lw_G_91, e_qcompile]
  refine ⟨hG1, e3, e4, e5, ?_⟩
  show mm_x (lw_g L xs) code lw_G (mm_cutI h18 (p_law L) k) lw_post (N + 66) 246 (LwS j) [.inl ((t_compile (s_comp M (xs (6 * j + 1)) (xs (6 * j + 2)) (xs (6 * j + 3))).2 (xs (6 * j + 1)) (xs (6 * j + 2)) (xs (6 * j + 3))).1), .inl ((s_comp M (xs (6 * j + 1)) (xs (6 * j + 2)) (xs (6 * j + 3))).1)] (t_compile (s_comp M (xs (6 * j + 1)) (xs (6 * j + 2)) (xs (6 * j + 3))).2 (xs (6 * j + 1)) (xs (6 * j + 2)) (xs (6 * j + 3))).2 183 12178
  refine xs_eq (N := N + 65) d999_246 (by decide) rfl e1 (hc _ (by decide)) ?_
  exact lw_tail (N := N + 63) e2 hL hj hk
set_option maxRecDepth 100000 in
set_option maxHeartbeats 2000000 in
theorem lw_c3 {L j k N : Nat} {xs : Nat → Int32} {M : mm_M} (h : INV M) (hL : L ≤ 3072) (hj : 6 * j + 6 ≤ L) (hk : k = 600 - j) : mm_x (lw_g L xs) code lw_G (mm_cutI h18 (p_law L) k) lw_post (N + 100) 251 (LwS j) [] M 183 12178 := by
  have hG := h.1
  have hc : ∀ q, q ≠ 18 → mm_cutI h18 (p_law L) k q = none := h18c
  have hG1 := hG
  refine xs_al (N := N + 99) d999_251 rfl (hc _ (by decide)) ?_
  refine xs_iv (N := N + 98) d999_252 mt_9_28 rfl (by decide) (made hG rfl) (fun _ => rfl) (show _ ≤ 8 from Nat.zero_le _) (by decide) (by decide) (by decide) (Nat.le_of_ble_eq_true rfl) (Nat.le_of_ble_eq_true rfl) (hc _ (by decide)) ?_
  rw [lw_G_11, e_ferrorAt]
  refine ⟨hG, ?_⟩
  show mm_x (lw_g L xs) code lw_G (mm_cutI h18 (p_law L) k) lw_post (N + 98) 255 (LwS j) [.inl (M.1 12 0 4)] M 183 12178
  refine xs_al (N := N + 97) d999_255 rfl (hc _ (by decide)) ?_
  refine xs_iv (N := N + 96) d999_256 mt_9_32 rfl (by decide) (made30 hG1) (fun _ => rfl) (show _ ≤ 8 from Nat.le_of_ble_eq_true rfl) (by decide) (by decide) (by decide) (Nat.le_of_ble_eq_true rfl) (Nat.le_of_ble_eq_true rfl) (hc _ (by decide)) ?_
  rw [lw_G_92, e_qerrorAt]
  refine ⟨hG1, ?_⟩
  show mm_x (lw_g L xs) code lw_G (mm_cutI h18 (p_law L) k) lw_post (N + 96) 259 (LwS j) [.inl (M.1 30 0 2), .inl (M.1 12 0 4)] M 183 12178
  refine xs_eq (N := N + 95) d999_259 (by decide) rfl h.er (hc _ (by decide)) ?_
  exact lw_tail (N := N + 93) h hL hj hk
set_option maxRecDepth 100000 in
set_option maxHeartbeats 2000000 in
theorem lw_c4 {L j k N : Nat} {xs : Nat → Int32} {M : mm_M} (h : INV M) (hL : L ≤ 3072) (hj : 6 * j + 6 ≤ L) (hk : k = 600 - j) : mm_x (lw_g L xs) code lw_G (mm_cutI h18 (p_law L) k) lw_post (N + 100) 264 (LwS j) [] M 183 12178 := by
  have hG := h.1
  have hc : ∀ q, q ≠ 18 → mm_cutI h18 (p_law L) k q = none := h18c
  have hG1 := hG
  refine xs_al (N := N + 99) d999_264 rfl (hc _ (by decide)) ?_
  refine xs_sl (N := N + 94) (n := 1) d999_265 d999_266 d999_267 d999_268 d999_269 (by decide) (by omega) hL hc (by decide) ?_
  refine xs_iv (N := N + 93) d999_270 mt_9_33 rfl (by decide) (made hG rfl) (fun _ => rfl) (show _ ≤ 8 from Nat.zero_le _) (by decide) (by decide) (by decide) (Nat.le_of_ble_eq_true rfl) (Nat.le_of_ble_eq_true rfl) (hc _ (by decide)) ?_
  rw [lw_G_12, e_ffun]
  refine ⟨hG, h.x20, ?_⟩
  show mm_x (lw_g L xs) code lw_G (mm_cutI h18 (p_law L) k) lw_post (N + 93) 273 (LwS j) [.inl (s_fnOf M (xs (6 * j + 1)))] M 183 12178
  refine xs_al (N := N + 92) d999_273 rfl (hc _ (by decide)) ?_
  refine xs_sl (N := N + 87) (n := 1) d999_274 d999_275 d999_276 d999_277 d999_278 (by decide) (by omega) hL hc (by decide) ?_
  refine xs_iv (N := N + 86) d999_279 mt_9_37 rfl (by decide) (made30 hG1) (fun _ => rfl) (show _ ≤ 8 from Nat.le_of_ble_eq_true rfl) (by decide) (by decide) (by decide) (Nat.le_of_ble_eq_true rfl) (Nat.le_of_ble_eq_true rfl) (hc _ (by decide)) ?_
  rw [lw_G_102, e_qfun]
  refine ⟨hG1, h.r20, ?_⟩
  show mm_x (lw_g L xs) code lw_G (mm_cutI h18 (p_law L) k) lw_post (N + 86) 282 (LwS j) [.inl (t_fnOf M (xs (6 * j + 1))), .inl (s_fnOf M (xs (6 * j + 1)))] M 183 12178
  refine xs_eq (N := N + 85) d999_282 (by decide) rfl (h.fn _) (hc _ (by decide)) ?_
  exact lw_tail (N := N + 83) h hL hj hk
set_option maxRecDepth 100000 in
set_option maxHeartbeats 2000000 in
theorem lw_c5 {L j k N : Nat} {xs : Nat → Int32} {M : mm_M} (h : INV M) (hL : L ≤ 3072) (hj : 6 * j + 6 ≤ L) (hk : k = 600 - j) : mm_x (lw_g L xs) code lw_G (mm_cutI h18 (p_law L) k) lw_post (N + 100) 287 (LwS j) [] M 183 12178 := by
  have hG := h.1
  have hc : ∀ q, q ≠ 18 → mm_cutI h18 (p_law L) k q = none := h18c
  have hG1 := hG
  refine xs_al (N := N + 99) d999_287 rfl (hc _ (by decide)) ?_
  refine xs_sl (N := N + 94) (n := 1) d999_288 d999_289 d999_290 d999_291 d999_292 (by decide) (by omega) hL hc (by decide) ?_
  refine xs_sl (N := N + 89) (n := 2) d999_293 d999_294 d999_295 d999_296 d999_297 (by decide) (by omega) hL hc (by decide) ?_
  refine xs_iv (N := N + 88) d999_298 mt_9_38 rfl (by decide) (made hG rfl) (fun _ => rfl) (show _ ≤ 8 from Nat.zero_le _) (by decide) (by decide) (by decide) (Nat.le_of_ble_eq_true rfl) (Nat.le_of_ble_eq_true rfl) (hc _ (by decide)) ?_
  rw [lw_G_13, e_fcountOf]
  refine ⟨hG, h.x20, ?_⟩
  show mm_x (lw_g L xs) code lw_G (mm_cutI h18 (p_law L) k) lw_post (N + 88) 301 (LwS j) [.inr (.inl (s_countOf M (xs (6 * j + 1)) (xs (6 * j + 2))))] M 183 12178
  refine xs_al (N := N + 87) d999_301 rfl (hc _ (by decide)) ?_
  refine xs_sl (N := N + 82) (n := 1) d999_302 d999_303 d999_304 d999_305 d999_306 (by decide) (by omega) hL hc (by decide) ?_
  refine xs_sl (N := N + 77) (n := 2) d999_307 d999_308 d999_309 d999_310 d999_311 (by decide) (by omega) hL hc (by decide) ?_
  refine xs_iv (N := N + 76) d999_312 mt_9_42 rfl (by decide) (made30 hG1) (fun _ => rfl) (show _ ≤ 8 from Nat.le_of_ble_eq_true rfl) (by decide) (by decide) (by decide) (Nat.le_of_ble_eq_true rfl) (Nat.le_of_ble_eq_true rfl) (hc _ (by decide)) ?_
  rw [lw_G_103, e_qcountOf]
  refine ⟨hG1, h.2.2.2.1, h.r20, fun z => h.f8 z, ?_⟩
  show mm_x (lw_g L xs) code lw_G (mm_cutI h18 (p_law L) k) lw_post (N + 76) 315 (LwS j) [.inr (.inl (t_countOf M (xs (6 * j + 1)) (xs (6 * j + 2)))), .inr (.inl (s_countOf M (xs (6 * j + 1)) (xs (6 * j + 2))))] M 183 12178
  refine xs_lc (N := N + 75) d999_315 (hc _ (by decide)) ?_
  refine xs_e0 (N := N + 74) d999_316 (by decide) rfl ((lg_cmp_eq _ _).mpr (h.co _ _)) (hc _ (by decide)) ?_
  exact lw_tail (N := N + 72) h hL hj hk
set_option maxRecDepth 100000 in
set_option maxHeartbeats 2000000 in
theorem lw_c6 {L j k N : Nat} {xs : Nat → Int32} {M : mm_M} (h : INV M) (hL : L ≤ 3072) (hj : 6 * j + 6 ≤ L) (hk : k = 600 - j) : mm_x (lw_g L xs) code lw_G (mm_cutI h18 (p_law L) k) lw_post (N + 100) 321 (LwS j) [] M 183 12178 := by
  have hG := h.1
  have hc : ∀ q, q ≠ 18 → mm_cutI h18 (p_law L) k q = none := h18c
  have hG1 := hG
  refine xs_al (N := N + 99) d999_321 rfl (hc _ (by decide)) ?_
  refine xs_sl (N := N + 94) (n := 1) d999_322 d999_323 d999_324 d999_325 d999_326 (by decide) (by omega) hL hc (by decide) ?_
  refine xs_sl (N := N + 89) (n := 2) d999_327 d999_328 d999_329 d999_330 d999_331 (by decide) (by omega) hL hc (by decide) ?_
  refine xs_iv (N := N + 88) d999_332 mt_9_43 rfl (by decide) (made hG rfl) (fun _ => rfl) (show _ ≤ 8 from Nat.zero_le _) (by decide) (by decide) (by decide) (Nat.le_of_ble_eq_true rfl) (Nat.le_of_ble_eq_true rfl) (hc _ (by decide)) ?_
  rw [lw_G_14, e_ftype]
  refine ⟨hG, h.x20, h.2.1.2.1, ?_⟩
  show mm_x (lw_g L xs) code lw_G (mm_cutI h18 (p_law L) k) lw_post (N + 88) 335 (LwS j) [.inl (s_typeOf M (xs (6 * j + 1)) (xs (6 * j + 2)))] M 183 12178
  refine xs_al (N := N + 87) d999_335 rfl (hc _ (by decide)) ?_
  refine xs_sl (N := N + 82) (n := 1) d999_336 d999_337 d999_338 d999_339 d999_340 (by decide) (by omega) hL hc (by decide) ?_
  refine xs_sl (N := N + 77) (n := 2) d999_341 d999_342 d999_343 d999_344 d999_345 (by decide) (by omega) hL hc (by decide) ?_
  refine xs_iv (N := N + 76) d999_346 mt_9_47 rfl (by decide) (made30 hG1) (fun _ => rfl) (show _ ≤ 8 from Nat.le_of_ble_eq_true rfl) (by decide) (by decide) (by decide) (Nat.le_of_ble_eq_true rfl) (Nat.le_of_ble_eq_true rfl) (hc _ (by decide)) ?_
  rw [lw_G_104, e_qtypeOf]
  refine ⟨hG1, h.r20, h.r60, ?_⟩
  show mm_x (lw_g L xs) code lw_G (mm_cutI h18 (p_law L) k) lw_post (N + 76) 349 (LwS j) [.inl (t_typeOf M (xs (6 * j + 1)) (xs (6 * j + 2))), .inl (s_typeOf M (xs (6 * j + 1)) (xs (6 * j + 2)))] M 183 12178
  refine xs_eq (N := N + 75) d999_349 (by decide) rfl (h.ty _ _) (hc _ (by decide)) ?_
  exact lw_tail (N := N + 73) h hL hj hk
set_option maxRecDepth 100000 in
set_option maxHeartbeats 2000000 in
theorem lw_c7 {L j k N : Nat} {xs : Nat → Int32} {M : mm_M} (h : INV M) (hL : L ≤ 3072) (hj : 6 * j + 6 ≤ L) (hk : k = 600 - j) : mm_x (lw_g L xs) code lw_G (mm_cutI h18 (p_law L) k) lw_post (N + 100) 354 (LwS j) [] M 183 12178 := by
  have hG := h.1
  have hc : ∀ q, q ≠ 18 → mm_cutI h18 (p_law L) k q = none := h18c
  have hG1 := hG
  refine xs_al (N := N + 99) d999_354 rfl (hc _ (by decide)) ?_
  refine xs_sl (N := N + 94) (n := 1) d999_355 d999_356 d999_357 d999_358 d999_359 (by decide) (by omega) hL hc (by decide) ?_
  refine xs_sl (N := N + 89) (n := 2) d999_360 d999_361 d999_362 d999_363 d999_364 (by decide) (by omega) hL hc (by decide) ?_
  refine xs_iv (N := N + 88) d999_365 mt_9_48 rfl (by decide) (made hG rfl) (fun _ => rfl) (show _ ≤ 8 from Nat.zero_le _) (by decide) (by decide) (by decide) (Nat.le_of_ble_eq_true rfl) (Nat.le_of_ble_eq_true rfl) (hc _ (by decide)) ?_
  rw [lw_G_15, e_fknown]
  refine ⟨hG, h.x20, h.2.1.2.1, ?_⟩
  show mm_x (lw_g L xs) code lw_G (mm_cutI h18 (p_law L) k) lw_post (N + 88) 368 (LwS j) [.inr (.inl (s_known M (xs (6 * j + 1)) (xs (6 * j + 2))))] M 183 12178
  refine xs_al (N := N + 87) d999_368 rfl (hc _ (by decide)) ?_
  refine xs_sl (N := N + 82) (n := 1) d999_369 d999_370 d999_371 d999_372 d999_373 (by decide) (by omega) hL hc (by decide) ?_
  refine xs_sl (N := N + 77) (n := 2) d999_374 d999_375 d999_376 d999_377 d999_378 (by decide) (by omega) hL hc (by decide) ?_
  refine xs_iv (N := N + 76) d999_379 mt_9_51 rfl (by decide) (made30 hG1) (fun _ => rfl) (show _ ≤ 8 from Nat.le_of_ble_eq_true rfl) (by decide) (by decide) (by decide) (Nat.le_of_ble_eq_true rfl) (Nat.le_of_ble_eq_true rfl) (hc _ (by decide)) ?_
  rw [lw_G_105, e_qknown]
  refine ⟨hG1, h.r20, h.r60, ?_⟩
  show mm_x (lw_g L xs) code lw_G (mm_cutI h18 (p_law L) k) lw_post (N + 76) 382 (LwS j) [.inr (.inl (t_knownOf M (xs (6 * j + 1)) (xs (6 * j + 2)))), .inr (.inl (s_known M (xs (6 * j + 1)) (xs (6 * j + 2))))] M 183 12178
  refine xs_lc (N := N + 75) d999_382 (hc _ (by decide)) ?_
  refine xs_e0 (N := N + 74) d999_383 (by decide) rfl ((lg_cmp_eq _ _).mpr (h.kn _ _)) (hc _ (by decide)) ?_
  exact lw_tail (N := N + 72) h hL hj hk
set_option maxRecDepth 100000 in
set_option maxHeartbeats 2000000 in
theorem lw_c8 {L j k N : Nat} {xs : Nat → Int32} {M : mm_M} (h : INV M) (hL : L ≤ 3072) (hj : 6 * j + 6 ≤ L) (hk : k = 600 - j) : mm_x (lw_g L xs) code lw_G (mm_cutI h18 (p_law L) k) lw_post (N + 100) 388 (LwS j) [] M 183 12178 := by
  have hG := h.1
  have hc : ∀ q, q ≠ 18 → mm_cutI h18 (p_law L) k q = none := h18c
  have hG1 := hG
  refine xs_al (N := N + 99) d999_388 rfl (hc _ (by decide)) ?_
  refine xs_sl (N := N + 94) (n := 1) d999_389 d999_390 d999_391 d999_392 d999_393 (by decide) (by omega) hL hc (by decide) ?_
  refine xs_iv (N := N + 93) d999_394 mt_9_52 rfl (by decide) (made hG rfl) (fun _ => rfl) (show _ ≤ 8 from Nat.zero_le _) (by decide) (by decide) (by decide) (Nat.le_of_ble_eq_true rfl) (Nat.le_of_ble_eq_true rfl) (hc _ (by decide)) ?_
  rw [lw_G_16, e_fsize]
  refine ⟨hG, h.x20, h.2.1, ?_⟩
  show mm_x (lw_g L xs) code lw_G (mm_cutI h18 (p_law L) k) lw_post (N + 93) 397 (LwS j) [.inl (s_size M (xs (6 * j + 1)))] M 183 12178
  refine xs_al (N := N + 92) d999_397 rfl (hc _ (by decide)) ?_
  refine xs_sl (N := N + 87) (n := 1) d999_398 d999_399 d999_400 d999_401 d999_402 (by decide) (by omega) hL hc (by decide) ?_
  refine xs_iv (N := N + 86) d999_403 mt_9_55 rfl (by decide) (made30 hG1) (fun _ => rfl) (show _ ≤ 8 from Nat.le_of_ble_eq_true rfl) (by decide) (by decide) (by decide) (Nat.le_of_ble_eq_true rfl) (Nat.le_of_ble_eq_true rfl) (hc _ (by decide)) ?_
  rw [lw_G_106, e_qsize]
  refine ⟨hG1, h.r20, h.c60, ?_⟩
  show mm_x (lw_g L xs) code lw_G (mm_cutI h18 (p_law L) k) lw_post (N + 86) 406 (LwS j) [.inl (t_size M (xs (6 * j + 1))), .inl (s_size M (xs (6 * j + 1)))] M 183 12178
  refine xs_eq (N := N + 85) d999_406 (by decide) rfl (h.si _) (hc _ (by decide)) ?_
  exact lw_tail (N := N + 83) h hL hj hk
set_option maxRecDepth 100000 in
set_option maxHeartbeats 2000000 in
theorem lw_c9 {L j k N : Nat} {xs : Nat → Int32} {M : mm_M} (h : INV M) (hL : L ≤ 3072) (hj : 6 * j + 6 ≤ L) (hk : k = 600 - j) : mm_x (lw_g L xs) code lw_G (mm_cutI h18 (p_law L) k) lw_post (N + 100) 411 (LwS j) [] M 183 12178 := by
  have hG := h.1
  have hc : ∀ q, q ≠ 18 → mm_cutI h18 (p_law L) k q = none := h18c
  obtain ⟨e1, e2, hG1, e3, e4, e5, e6⟩ := run_inv (i := xs (6 * j + 1)) (a := xs (6 * j + 2)) (b := xs (6 * j + 3)) h
  refine xs_al (N := N + 99) d999_411 rfl (hc _ (by decide)) ?_
  refine xs_sl (N := N + 94) (n := 1) d999_412 d999_413 d999_414 d999_415 d999_416 (by decide) (by omega) hL hc (by decide) ?_
  refine xs_sl (N := N + 89) (n := 2) d999_417 d999_418 d999_419 d999_420 d999_421 (by decide) (by omega) hL hc (by decide) ?_
  refine xs_sl (N := N + 84) (n := 3) d999_422 d999_423 d999_424 d999_425 d999_426 (by decide) (by omega) hL hc (by decide) ?_
  refine xs_iv (N := N + 83) d999_427 mt_9_56 rfl (by decide) (made hG rfl) (fun _ => rfl) (show _ ≤ 8 from Nat.zero_le _) (by decide) (by decide) (by decide) (Nat.le_of_ble_eq_true rfl) (Nat.le_of_ble_eq_true rfl) (hc _ (by decide)) ?_
  rw [lw_G_17, e_frun]
  refine ⟨h.jj, h.rm, ?_⟩
  show mm_x (lw_g L xs) code lw_G (mm_cutI h18 (p_law L) k) lw_post (N + 83) 430 (LwS j) [.inr (.inl ((s_run M (xs (6 * j + 1)) (xs (6 * j + 2)) (xs (6 * j + 3))).1))] (s_run M (xs (6 * j + 1)) (xs (6 * j + 2)) (xs (6 * j + 3))).2 183 12178
  refine xs_al (N := N + 82) d999_430 rfl (hc _ (by decide)) ?_
  refine xs_sl (N := N + 77) (n := 1) d999_431 d999_432 d999_433 d999_434 d999_435 (by decide) (by omega) hL hc (by decide) ?_
  refine xs_sl (N := N + 72) (n := 2) d999_436 d999_437 d999_438 d999_439 d999_440 (by decide) (by omega) hL hc (by decide) ?_
  refine xs_sl (N := N + 67) (n := 3) d999_441 d999_442 d999_443 d999_444 d999_445 (by decide) (by omega) hL hc (by decide) ?_
  refine xs_iv (N := N + 66) d999_446 mt_9_60 rfl (by decide) (made30 hG1) (fun _ => rfl) (show _ ≤ 8 from Nat.le_of_ble_eq_true rfl) (by decide) (by decide) (by decide) (Nat.le_of_ble_eq_true rfl) (Nat.le_of_ble_eq_true rfl) (hc _ (by decide)) ?_
  rw [lw_G_100, e_qrun]
  refine ⟨hG1, e3, e4, e5, e6, ?_⟩
  show mm_x (lw_g L xs) code lw_G (mm_cutI h18 (p_law L) k) lw_post (N + 66) 449 (LwS j) [.inr (.inl ((t_run (s_run M (xs (6 * j + 1)) (xs (6 * j + 2)) (xs (6 * j + 3))).2 (xs (6 * j + 1)) (xs (6 * j + 2)) (xs (6 * j + 3))).1)), .inr (.inl ((s_run M (xs (6 * j + 1)) (xs (6 * j + 2)) (xs (6 * j + 3))).1))] (t_run (s_run M (xs (6 * j + 1)) (xs (6 * j + 2)) (xs (6 * j + 3))).2 (xs (6 * j + 1)) (xs (6 * j + 2)) (xs (6 * j + 3))).2 183 12178
  refine xs_lc (N := N + 65) d999_449 (hc _ (by decide)) ?_
  refine xs_e0 (N := N + 64) d999_450 (by decide) rfl ((lg_cmp_eq _ _).mpr e1) (hc _ (by decide)) ?_
  exact lw_tail (N := N + 62) e2 hL hj hk
set_option maxRecDepth 100000 in
set_option maxHeartbeats 2000000 in
theorem lw_c10 {L j k N : Nat} {xs : Nat → Int32} {M : mm_M} (h : INV M) (hL : L ≤ 3072) (hj : 6 * j + 6 ≤ L) (hk : k = 600 - j) : mm_x (lw_g L xs) code lw_G (mm_cutI h18 (p_law L) k) lw_post (N + 100) 455 (LwS j) [] M 183 12178 := by
  have hG := h.1
  have hc : ∀ q, q ≠ 18 → mm_cutI h18 (p_law L) k q = none := h18c
  have hG1 := hG
  refine xs_al (N := N + 99) d999_455 rfl (hc _ (by decide)) ?_
  refine xs_sl (N := N + 94) (n := 1) d999_456 d999_457 d999_458 d999_459 d999_460 (by decide) (by omega) hL hc (by decide) ?_
  refine xs_iv (N := N + 93) d999_461 mt_9_61 rfl (by decide) (made hG rfl) (fun _ => rfl) (show _ ≤ 8 from Nat.zero_le _) (by decide) (by decide) (by decide) (Nat.le_of_ble_eq_true rfl) (Nat.le_of_ble_eq_true rfl) (hc _ (by decide)) ?_
  rw [lw_G_18, e_fcount]
  refine ⟨hG, ?_⟩
  show mm_x (lw_g L xs) code lw_G (mm_cutI h18 (p_law L) k) lw_post (N + 93) 464 (LwS j) [.inl (s_count M (xs (6 * j + 1)))] M 183 12178
  refine xs_al (N := N + 92) d999_464 rfl (hc _ (by decide)) ?_
  refine xs_sl (N := N + 87) (n := 1) d999_465 d999_466 d999_467 d999_468 d999_469 (by decide) (by omega) hL hc (by decide) ?_
  refine xs_iv (N := N + 86) d999_470 mt_9_64 rfl (by decide) (made30 hG1) (fun _ => rfl) (show _ ≤ 8 from Nat.le_of_ble_eq_true rfl) (by decide) (by decide) (by decide) (Nat.le_of_ble_eq_true rfl) (Nat.le_of_ble_eq_true rfl) (hc _ (by decide)) ?_
  rw [lw_G_107, e_qcount]
  refine ⟨hG1, ?_⟩
  show mm_x (lw_g L xs) code lw_G (mm_cutI h18 (p_law L) k) lw_post (N + 86) 473 (LwS j) [.inl (t_count M (xs (6 * j + 1))), .inl (s_count M (xs (6 * j + 1)))] M 183 12178
  refine xs_eq (N := N + 85) d999_473 (by decide) rfl (h.count _) (hc _ (by decide)) ?_
  exact lw_tail (N := N + 83) h hL hj hk
theorem lw_len {L j : Nat} (hL : L ≤ 3072) (hj : 6 * j ≤ L) : (Int32.ofNat L - (Int8.ofInt 6).toInt32 < nI (6 * j)) ↔ L < 6 * j + 6 := by
  have e : (Int32.ofNat L - (Int8.ofInt 6).toInt32).toInt = (L : Int) - 6 := by
    rw [Int32.toInt_sub, show (Int8.ofInt 6).toInt32.toInt = 6 by decide, show (Int32.ofNat L).toInt = L from Int32.toInt_ofNat_of_lt (by omega)]
    apply Int.bmod_eq_of_le <;> omega
  rw [Int32.lt_iff_toInt_lt, e, nI_ti (by omega)]
  omega
set_option maxRecDepth 100000 in
set_option maxHeartbeats 2000000 in
/-- one turn of the law's loop -/
theorem lw_turn {L k : Nat} {xs : Nat → Int32} {pc : Nat} {ls : List (Option mm_V)} {st : List mm_V} {M : mm_M} {u w : Nat} (hL : L ≤ 3072) (hP : p_law L k pc ls st M u w) : mm_x (lw_g L xs) code lw_G (mm_cutI h18 (p_law L) k) lw_post 120 pc ls st M u w := by
  obtain ⟨rfl, j, hj, hk, rfl, rfl, h, rfl, rfl⟩ := hP
  have hc : ∀ q, q ≠ 18 → mm_cutI h18 (p_law L) k q = none := h18c
  refine xs_il (N := 119) d999_18 rfl (hc _ (by decide)) ?_
  refine xs_al (N := 118) d999_19 rfl (hc _ (by decide)) ?_
  refine xs0 (N := 117) d999_20 ⟨rfl, ?_⟩
  dsimp only [mm_pR]
  rw [if_pos rfl]
  refine ⟨rfl, ?_⟩
  show mm_x (lw_g L xs) code lw_G (mm_cutI h18 (p_law L) k) lw_post 117 21 (LwS j) [.inl (Int32.ofNat L), .inl (nI (6 * j))] M 183 12178
  refine xs_bp (N := 116) d999_21 (hc _ (by decide)) ?_
  refine xs0 (N := 115) d999_23 ⟨rfl, ?_⟩
  show mm_x (lw_g L xs) code lw_G (mm_cutI h18 (p_law L) k) lw_post 115 24 (LwS j) [.inl (Int32.ofNat L - (Int8.ofInt 6).toInt32), .inl (nI (6 * j))] M 183 12178
  refine xs0 (N := 114) d999_24 ⟨rfl, by decide, fun z => ?_, fun z => ?_⟩
  · show mm_x (lw_g L xs) code lw_G (mm_cutI h18 (p_law L) k) lw_post 114 484 (LwS j) [] M 183 12178
    refine xs_ic (N := 113) d999_484 (hc _ (by decide)) ?_
    exact xs0 (N := 112) d999_485 ⟨rfl, Nat.le_of_ble_eq_true rfl, Nat.le_of_ble_eq_true rfl, rfl, by decide, rfl⟩
  · have z : ¬ Int32.ofNat L - (Int8.ofInt 6).toInt32 < nI (6 * j) := z
    rw [lw_len hL hj] at z
    have hj6 : 6 * j + 6 ≤ L := by omega
    show mm_x (lw_g L xs) code lw_G (mm_cutI h18 (p_law L) k) lw_post 114 27 (LwS j) [] M 183 12178
    refine xs_al (N := 113) d999_27 rfl (hc _ (by decide)) ?_
    refine xs_il (N := 112) d999_28 rfl (hc _ (by decide)) ?_
    refine xs0 (N := 111) d999_29 ⟨rfl, ?_⟩
    dsimp only [mm_pI, mm_pR]
    rw [if_pos rfl]
    refine ⟨rfl, vp_in_nI (by omega) (by omega), ?_⟩
    show mm_x (lw_g L xs) code lw_G (mm_cutI h18 (p_law L) k) lw_post 111 30 (LwS j) [.inl (xs (nI (6 * j)).toNatClampNeg)] M 183 12178
    refine xs_bp (N := 110) d999_30 (hc _ (by decide)) ?_
    refine xs0 (N := 109) d999_32 ⟨rfl, ?_⟩
    show mm_x (lw_g L xs) code lw_G (mm_cutI h18 (p_law L) k) lw_post 109 33 (LwS j) [.inl (xs (nI (6 * j)).toNatClampNeg &&& (Int8.ofInt 15).toInt32)] M 183 12178
    generalize xs (nI (6 * j)).toNatClampNeg &&& (Int8.ofInt 15).toInt32 = op
    refine xs0 (N := 108) d999_33 ⟨tk999_33, ?_⟩
    refine ⟨fun _ => ⟨by decide, lw_c0 (N := 8) h hL hj6 hk⟩, fun _ => ⟨fun _ => ⟨by decide, lw_c1 (N := 8) h hL hj6 hk⟩, fun _ => ⟨fun _ => ⟨by decide, lw_c2 (N := 8) h hL hj6 hk⟩, fun _ => ⟨fun _ => ⟨by decide, lw_c3 (N := 8) h hL hj6 hk⟩, fun _ => ⟨fun _ => ⟨by decide, lw_c4 (N := 8) h hL hj6 hk⟩, fun _ => ⟨fun _ => ⟨by decide, lw_c5 (N := 8) h hL hj6 hk⟩, fun _ => ⟨fun _ => ⟨by decide, lw_c6 (N := 8) h hL hj6 hk⟩, fun _ => ⟨fun _ => ⟨by decide, lw_c7 (N := 8) h hL hj6 hk⟩, fun _ => ⟨fun _ => ⟨by decide, lw_c8 (N := 8) h hL hj6 hk⟩, fun _ => ⟨fun _ => ⟨by decide, lw_c9 (N := 8) h hL hj6 hk⟩, fun _ => ⟨fun _ => ⟨by decide, lw_c10 (N := 8) h hL hj6 hk⟩, fun _ => ⟨by decide, lw_tail (N := 106) h hL hj6 hk⟩⟩⟩⟩⟩⟩⟩⟩⟩⟩⟩⟩
set_option maxRecDepth 100000 in
set_option maxHeartbeats 2000000 in
/-- the law's start -/
theorem lw_begin {L : Nat} {xs : Nat → Int32} : mm_x (lw_g L xs) code lw_G (mm_cutI h18 (p_law L) 601) lw_post 60 0 [some (.inr (.inr (some (999, 0)))), none, none, none] [] m_0 0 0 := by
  have hc : ∀ q, q ≠ 18 → mm_cutI h18 (p_law L) 601 q = none := h18c
  have m9 : m_0.2.2.2 999 0 := ⟨rfl, rfl⟩
  refine xs_nw (N := 59) (f := 0) (i := 0) d999_0 rfl cc_9_7 rfl (by decide) m0_cln (fun z => absurd z.1 (by decide)) ⟨m9, trivial⟩ trivial (Nat.le_of_ble_eq_true rfl) (Nat.le_of_ble_eq_true rfl) (hc _ (by decide)) ?_
  refine xs_dup (N := 58) d999_3 (hc _ (by decide)) ?_
  refine xs_in (N := 57) d999_4 mt_9_9 rfl (by decide) (Or.inl ⟨rfl, rfl⟩) (fun _ => rfl) (by decide) (Nat.le_of_ble_eq_true rfl) (Nat.le_of_ble_eq_true rfl) rfl ⟨Or.inr m9, trivial⟩ ⟨Or.inl ⟨rfl, rfl⟩, trivial⟩ (hc _ (by decide)) ?_
  rw [lw_G_0, e_i0]
  refine ⟨m1_pre.1, m1_pre.2.1, m1_pre.2.2, ?_⟩
  show mm_x (lw_g L xs) code lw_G (mm_cutI h18 (p_law L) 601) lw_post 57 7 [some (.inr (.inr (some (999, 0)))), none, none, none] [.inr (.inr (some (0, 0)))] m_1 155 5424
  refine xs_as (N := 56) d999_7 (show 1 < 4 by decide) rfl (hc _ (by decide)) ?_
  have m9' : m_1.2.2.2 999 0 := (m1_at.2 999 0).mpr (by omega)
  have m0' : m_1.2.2.2 0 0 := (m1_at.2 0 0).mpr (by omega)
  have n30 : ¬ m_1.2.2.2 30 0 := fun z => by
    have z := (m1_at.2 30 0).mp z
    omega
  have cl1 := m1_at.1
  have p2 := m2_pre
  have fin : s_i5 (mm_mkd m_1 30 0) = m_2 := rfl
  generalize m_1 = A at *
  refine xs_nw (N := 55) (f := 30) (i := 0) d999_8 rfl cc_9_10 rfl (by decide) cl1 n30 ⟨m9', m0', trivial⟩ trivial (Nat.le_of_ble_eq_true rfl) (Nat.le_of_ble_eq_true rfl) (hc _ (by decide)) ?_
  refine xs_dup (N := 54) d999_11 (hc _ (by decide)) ?_
  refine xs_in (N := 53) d999_12 mt_9_12 rfl (by decide) (Or.inl ⟨rfl, rfl⟩) (fun _ => rfl) (by decide) (Nat.le_of_ble_eq_true rfl) (Nat.le_of_ble_eq_true rfl) rfl ⟨Or.inr m9', Or.inr m0', trivial⟩ ⟨Or.inl ⟨rfl, rfl⟩, trivial⟩ (hc _ (by decide)) ?_
  rw [lw_G_5, e_i5]
  refine ⟨p2.1, p2.2.1, p2.2.2, ?_⟩
  rw [fin]
  show mm_x (lw_g L xs) code lw_G (mm_cutI h18 (p_law L) 601) lw_post 53 15 [some (.inr (.inr (some (999, 0)))), some (.inr (.inr (some (0, 0)))), none, none] [.inr (.inr (some (30, 0)))] m_2 183 12178
  refine xs_as (N := 52) d999_15 (show 2 < 4 by decide) rfl (hc _ (by decide)) ?_
  refine xs_ic (N := 51) d999_16 (hc _ (by decide)) ?_
  rw [show Int32.ofInt 0 = nI (6 * 0) by decide]
  refine xs0 (N := 50) d999_17 ⟨rfl, show 3 < 4 by decide, ?_⟩
  exact ⟨600, by decide, rfl, 0, by omega, rfl, rfl, rfl, m2_inv, rfl, rfl⟩

