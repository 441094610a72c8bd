/-! the inits of Machine, Compilation and the class -/
section MK
variable {g : mm_F} {cc : ByteArray} {Γ : mm_G} {Q : Option mm_V → mm_M → Prop} {cut : Nat → Option mm_X} {N pc p2 : Nat} {ls : List (Option mm_V)} {st : List mm_V} {M : mm_M} {u w : Nat}
theorem xs_al {kk : Fin 4} {q : Nat × Nat} (d : decode cc pc = .ok (.aload_n kk, 1)) (hl : ls[(kk : Nat)]? = some (some (.inr (.inr (some q))))) (hc : cut (pc + 1) = none) (k : mm_x g cc Γ cut Q N (pc + 1) ls (.inr (.inr (some q)) :: st) M u w) : mm_x g cc Γ cut Q (N + 1) pc ls st M u w := by
  refine xs0 d ⟨rfl, ?_⟩
  unfold mm_lV
  rw [hl]
  show mm_cut (cut (pc + 1)) _ _ _ _ _ _
  rw [hc]
  exact k
theorem xs_il {kk : Fin 4} {x : Int32} (d : decode cc pc = .ok (.iload_n kk, 1)) (hl : ls[(kk : Nat)]? = some (some (.inl x))) (hc : cut (pc + 1) = none) (k : mm_x g cc Γ cut Q N (pc + 1) ls (.inl x :: st) M u w) : mm_x g cc Γ cut Q (N + 1) pc ls st M u w := by
  refine xs0 d ⟨rfl, ?_⟩
  unfold mm_lV
  rw [hl]
  show mm_cut (cut (pc + 1)) _ _ _ _ _ _
  rw [hc]
  exact k
/-- a reference is handed to a field -/
theorem xs_pf {o i fld ci ix : Nat} {q : Nat × Nat} (d : decode cc pc = .ok (.putfield ix, 3)) (hFL : mm_FL g.1 ix = some (ci, fld)) (hYo : mm_Y o = .inl ci) (ho9 : o ≠ 999) (ho : M.2.2.2 o i) (hfin : mm_pf g ci fld) (hty : mm_isR (mm_ft ci fld) = true) (hc : cut (pc + 3) = none) (k : mm_x g cc Γ cut Q N (pc + 3) ls st (mm_sR M o i fld (some q)) u w) : mm_x g cc Γ cut Q (N + 1) pc ls (.inr (.inr (some q)) :: .inr (.inr (some (o, i))) :: st) M u w := by
  refine xs0 d ⟨rfl, ?_⟩
  rw [hFL]
  refine ⟨⟨hYo, ho9, ho⟩, hfin, hty, ?_⟩
  show mm_cut (cut (pc + 3)) _ _ _ _ _ _
  rw [hc]
  exact k
/-- a number is handed to a field -/
theorem xs_pn {o i fld ci ix : Nat} {x : Int32} (d : decode cc pc = .ok (.putfield ix, 3)) (hFL : mm_FL g.1 ix = some (ci, fld)) (hYo : mm_Y o = .inl ci) (ho9 : o ≠ 999) (ho : M.2.2.2 o i) (hfin : mm_pf g ci fld) (hty : mm_ft ci fld = .int) (hc : cut (pc + 3) = none) (k : mm_x g cc Γ cut Q N (pc + 3) ls st (mm_sI M o i fld x) u w) : mm_x g cc Γ cut Q (N + 1) pc ls (.inl x :: .inr (.inr (some (o, i))) :: st) M u w := by
  refine xs0 d ⟨rfl, ?_⟩
  rw [hFL]
  refine ⟨⟨hYo, ho9, ho⟩, hfin, ?_⟩
  show mm_put M (mm_ft ci fld) o i fld (.inl x) _
  rw [hty]
  refine ⟨Or.inl rfl, rfl, rfl, ?_⟩
  show mm_cut (cut (pc + 3)) _ _ _ _ _ _
  rw [hc]
  exact k
theorem xs_ic {n : Int} (d : decode cc pc = .ok (.iconst n, 1)) (hc : cut (pc + 1) = none) (k : mm_x g cc Γ cut Q N (pc + 1) ls (.inl (Int32.ofInt n) :: st) M u w) : mm_x g cc Γ cut Q (N + 1) pc ls st M u w := by
  refine xs0 d ⟨rfl, ?_⟩
  show mm_cut (cut (pc + 1)) _ _ _ _ _ _
  rw [hc]
  exact k
theorem xs_bp {n : Int} (d : decode cc pc = .ok (.bipush n, 2)) (hc : cut (pc + 2) = none) (k : mm_x g cc Γ cut Q N (pc + 2) ls (.inl (Int8.ofInt n).toInt32 :: st) M u w) : mm_x g cc Γ cut Q (N + 1) pc ls st M u w := by
  refine xs0 d ⟨rfl, ?_⟩
  show mm_cut (cut (pc + 2)) _ _ _ _ _ _
  rw [hc]
  exact k
theorem xs_dup {q : Nat × Nat} (d : decode cc pc = .ok (.dup, 1)) (hc : cut (pc + 1) = none) (k : mm_x g cc Γ cut Q N (pc + 1) ls (.inr (.inr (some q)) :: .inr (.inr (some q)) :: st) M u w) : mm_x g cc Γ cut Q (N + 1) pc ls (.inr (.inr (some q)) :: st) M u w := by
  refine xs0 d ⟨rfl, rfl, ?_⟩
  show mm_cut (cut (pc + 1)) _ _ _ _ _ _
  rw [hc]
  exact k
theorem xs_as {kk : Fin 4} {q : Nat × Nat} {ls' : List (Option mm_V)} (d : decode cc pc = .ok (.astore_n kk, 1)) (hlt : (kk : Nat) < g.2.1) (hls : mm_st1 ls (kk : Nat) (.inr (.inr (some q))) = ls') (hc : cut (pc + 1) = none) (k : mm_x g cc Γ cut Q N (pc + 1) ls' st M u w) : mm_x g cc Γ cut Q (N + 1) pc ls (.inr (.inr (some q)) :: st) M u w := by
  refine xs0 d ⟨rfl, hlt, ?_⟩
  show mm_cut (cut (pc + 1)) (mm_st1 ls (kk : Nat) (.inr (.inr (some q)))) _ _ _ _ _
  rw [hc, hls]
  exact k
theorem xs_nw {f i ci ix : Nat} (d : decode cc pc = .ok (.new ix, 3)) (hal : g.2.2.2.1 = true) (hCC : mm_CC g.1 ix = some ci) (hY : mm_Y f = .inl ci) (h9 : f ≠ 999) (hM : CLN M) (hn : ¬ M.2.2.2 f i) (hL : mm_okL M ls) (hS : mm_okS M st) (hu : u + 1 ≤ g.2.2.2.2.1) (hw : w + mm_N ci ≤ g.2.2.2.2.2.1) (hc : cut (pc + 3) = none) (k : mm_x g cc Γ cut Q N (pc + 3) ls (.inr (.inr (some (f, i))) :: st) (mm_mkd M f i) (u + 1) (w + mm_N ci)) : mm_x g cc Γ cut Q (N + 1) pc ls st M u w := by
  refine xs0 d ⟨rfl, hal, ?_⟩
  rw [hCC]
  refine ⟨f, i, hY, h9, hn, (hM f i hn).2, hL, hS, hu, hw, ?_⟩
  rw [new_eq hM hn]
  show mm_cut (cut (pc + 3)) _ _ _ _ _ _
  rw [hc]
  exact k
theorem xs_gf {o i fld ci ix : Nat} {q : Nat × Nat} (d : decode cc pc = .ok (.getfield ix, 3)) (hFL : mm_FL g.1 ix = some (ci, fld)) (hYo : mm_Y o = .inl ci) (ho9 : o ≠ 999) (ho : M.2.2.2 o i) (hv : mm_get M (mm_ft ci fld) o i fld = .inr (.inr (some q))) (hc : cut (pc + 3) = none) (k : mm_x g cc Γ cut Q N (pc + 3) ls (.inr (.inr (some q)) :: st) M u w) : mm_x g cc Γ cut Q (N + 1) pc ls (.inr (.inr (some (o, i))) :: st) M u w := by
  refine xs0 d ⟨rfl, ?_⟩
  show mm_o (mm_FL g.1 ix) _
  rw [hFL]
  refine ⟨⟨hYo, ho9, ho⟩, ?_⟩
  show mm_cut (cut (pc + 3)) _ (mm_get M (mm_ft ci fld) o i fld :: st) _ _ _ _
  rw [hc, hv]
  exact k
/-- an init is called -/
theorem xs_in {o i id ix na : Nat} {As : List mm_V} {st1 : List mm_V} (d : decode cc pc = .ok (.invokespecial ix, 3)) (hMT : mm_MT g.1 ix = some (id, na, 2)) (hY : mm_Y o = .inl (mm_mk id)) (ho9 : o ≠ 999) (ho : M.2.2.2 o i) (hpn : ∀ k, mm_pN na [] st1 k = k As (.inr (.inr (some (o, i))) :: st)) (hsm : mm_sm st ≤ 8) (hu : u + mm_mc id ≤ g.2.2.2.2.1) (hw : w + mm_ms id ≤ g.2.2.2.2.2.1) (hal : g.2.2.2.1 = true) (hL : mm_okL M ls) (hS : mm_okS M st) (hc : cut (pc + 3) = none)
    (k : Γ id (.inr (.inr (some (o, i))) :: As) M fun v M' => mm_x g cc Γ cut Q N (pc + 3) ls (v.toList ++ st) M' (u + mm_mc id) (w + mm_ms id)) : mm_x g cc Γ cut Q (N + 1) pc ls st1 M u w := by
  refine xs0 d ⟨rfl, ?_⟩
  rw [hMT]
  dsimp only [mm_o]
  rw [if_neg (by decide), hpn]
  refine ⟨rfl, ⟨hY, ho9, ho⟩, hsm, hu, hw, fun _ => ⟨hal, hL, hS⟩, ?_⟩
  have e : (fun (v : Option mm_V) (M' : mm_M) => mm_cut (cut (pc + 3)) ls (v.toList ++ st) M' (u + mm_mc id) (w + mm_ms id) (mm_x g cc Γ cut Q N (pc + 3) ls (v.toList ++ st) M' (u + mm_mc id) (w + mm_ms id))) = fun v M' => mm_x g cc Γ cut Q N (pc + 3) ls (v.toList ++ st) M' (u + mm_mc id) (w + mm_ms id) := by
    rw [hc]
    rfl
  show Γ id (.inr (.inr (some (o, i))) :: As) M (fun (v : Option mm_V) (M' : mm_M) => mm_cut (cut (pc + 3)) ls (v.toList ++ st) M' (u + mm_mc id) (w + mm_ms id) (mm_x g cc Γ cut Q N (pc + 3) ls (v.toList ++ st) M' (u + mm_mc id) (w + mm_ms id)))
  rw [e]
  exact k
/-- Object's init -/
theorem xs_oi {ix nn ii : Nat} {q : Nat × Nat} (d : decode cc pc = .ok (.invokespecial ix, 3)) (hMT : mm_MT g.1 ix = some (ii, nn, 3)) (hsm : mm_sm st ≤ 8) (hc : cut (pc + 3) = none) (k : mm_x g cc Γ cut Q N (pc + 3) ls st M u w) : mm_x g cc Γ cut Q (N + 1) pc ls (.inr (.inr (some q)) :: st) M u w := by
  refine xs0 d ⟨rfl, ?_⟩
  rw [hMT]
  refine ⟨hsm, ?_⟩
  show mm_cut (cut (pc + 3)) _ _ _ _ _ _
  rw [hc]
  exact k
theorem xs_rt (d : decode cc pc = .ok (.return_, 1)) (hu : u ≤ g.2.2.2.2.1) (hw : w ≤ g.2.2.2.2.2.1) (hr : g.2.2.1 = none) (k : Q none M) : mm_x g cc Γ cut Q (N + 1) pc ls [] M u w := xs0 d ⟨rfl, hu, hw, hr, rfl, k⟩
end MK
section MMD
variable {l : Launch} {D : va_G} {dA : FieldType → ClassId} {sz : Nat}
def s_i4 (M : mm_M) : mm_M := mm_sI (mm_sI (mm_sR (mm_sR M 21 0 0 (some (1, 0))) 21 0 1 (some (13, 0))) 21 0 2 (Int32.ofInt 0)) 21 0 3 (Int32.ofInt 0)
def k_i4 : mm_Ct := fun As M Post => match As with
  | [.inr (.inr (some (21, 0))), .inr (.inr (some (1, 0))), .inr (.inr (some (13, 0)))] => M.2.2.2 21 0 ∧ Post none (s_i4 M)
  | _ => False
theorem e_i4 {M : mm_M} {Post : Option mm_V → mm_M → Prop} : k_i4 [.inr (.inr (some (21, 0))), .inr (.inr (some (1, 0))), .inr (.inr (some (13, 0)))] M Post = (M.2.2.2 21 0 ∧ Post none (s_i4 M)) := rfl
set_option maxRecDepth 100000 in
theorem v_i4 : mm_Vd l D dA sz 1 4 k_i4 := by
  intro As M Post h
  match As, h with
  | [.inr (.inr (some (21, 0))), .inr (.inr (some (1, 0))), .inr (.inr (some (13, 0)))], h =>
    obtain ⟨ho, h⟩ := h
    refine mm_meth 4 (by decide) ⟨rfl, rfl, by decide, by decide⟩ mm_okN (Nat.le_of_ble_eq_true rfl) 60 ?_
    show mm_x (4, 3, none, true, 0, 0, none, true) prog_6_method_1_code (mm_gl []) (fun _ => none) Post 60 0 [some (.inr (.inr (some (21, 0)))), some (.inr (.inr (some (1, 0)))), some (.inr (.inr (some (13, 0))))] [] M 0 0
    refine seg0 d4_0 rfl d4_1 mt_4_3 ?_
    refine xs_al d4_4 rfl rfl ?_
    refine xs_al d4_5 rfl rfl ?_
    refine xs_pf d4_6 fl_4_9 rfl (by decide) ho (Or.inr ⟨rfl, rfl⟩) rfl rfl ?_
    refine xs_al d4_9 rfl rfl ?_
    refine xs_al d4_10 rfl rfl ?_
    refine xs_pf d4_11 fl_4_15 rfl (by decide) ho (Or.inr ⟨rfl, rfl⟩) rfl rfl ?_
    refine segI (o := 21) (i := 0) ho rfl d4_14 (dpI d4_15) d4_16 fl_4_19 rfl (by decide) (Or.inr ⟨rfl, rfl⟩) rfl ?_
    refine segI (o := 21) (i := 0) ho rfl d4_19 (dpI d4_20) d4_21 fl_4_23 rfl (by decide) (Or.inr ⟨rfl, rfl⟩) rfl ?_
    exact segR d4_24 (by decide) (by decide) rfl h
/-- n instances are made -/
def lpI : Nat → mm_M → mm_M
  | 0, M => M
  | j + 1, M => mm_sR (s_i3 (mm_mkd (lpI j M) 14 j) j) 13 0 j (some (14, j))
theorem i3_at {M : mm_M} {i : Nat} : (∀ x y z, (s_i3 M i).1 x y z = if x = 14 ∧ y = i ∧ z = 1 then 500 else if x = 14 ∧ y = i ∧ z = 0 then 0 else M.1 x y z) ∧ (s_i3 M i).2.1 = M.2.1 ∧ (∀ x y z, (s_i3 M i).2.2.1 x y z = if x = 14 ∧ y = i ∧ 2 ≤ z ∧ z < 8 then some (z + 13, i) else M.2.2.1 x y z) ∧ ∀ x y, (s_i3 M i).2.2.2 x y ↔ (y = i ∧ 15 ≤ x ∧ x < 21) ∨ M.2.2.2 x y := by
  obtain ⟨h1, h2, h3, h4⟩ := mkr_at (o := 14) (i := i) (s := 13) (a := 2) (M := M) 6
  refine ⟨fun x y z => ?_, h2, fun x y z => h3 x y z, fun x y => h4 x y⟩
  show mm_u (mm_u (mkr 14 i 13 2 6 M).1 14 i 0 (Int32.ofInt 0)) 14 i 1 (Int16.ofInt 500).toInt32 x y z = _
  rw [u3, u3, h1]
  rfl
theorem i3_cln {M : mm_M} {i : Nat} (h : CLN M) (ho : M.2.2.2 14 i) : CLN (s_i3 M i) := by
  have ho1 : (mkr 14 i 13 2 6 M).2.2.2 14 i := ((mkr_at 6).2.2.2 14 i).mpr (Or.inr ho)
  exact ((mkr_cln h ho 6).sI ho1).sI ho1
theorem lp_at {M : mm_M} : ∀ n, (∀ x y z, (lpI n M).1 x y z = if x = 14 ∧ y < n ∧ z = 1 then 500 else if x = 14 ∧ y < n ∧ z = 0 then 0 else M.1 x y z) ∧ (lpI n M).2.1 = M.2.1 ∧ (∀ x y z, (lpI n M).2.2.1 x y z = if x = 13 ∧ y = 0 ∧ z < n then some (14, z) else if x = 14 ∧ y < n ∧ 2 ≤ z ∧ z < 8 then some (z + 13, y) else M.2.2.1 x y z) ∧ ∀ x y, (lpI n M).2.2.2 x y ↔ (14 ≤ x ∧ x < 21 ∧ y < n) ∨ M.2.2.2 x y
  | 0 => ⟨fun x y z => by rw [if_neg (by omega), if_neg (by omega)]; rfl, rfl, fun x y z => by rw [if_neg (by omega), if_neg (by omega)]; rfl, fun x y => ⟨fun h => Or.inr h, fun h => h.elim (fun q => by omega) id⟩⟩
  | n + 1 => by
    obtain ⟨h1, h2, h3, h4⟩ := lp_at (M := M) n
    obtain ⟨g1, g2, g3, g4⟩ := i3_at (M := mm_mkd (lpI n M) 14 n) (i := n)
    refine ⟨fun x y z => ?_, g2.trans h2, fun x y z => ?_, fun x y => ?_⟩
    · show (s_i3 (mm_mkd (lpI n M) 14 n) n).1 x y z = _
      rw [g1]
      show (if x = 14 ∧ y = n ∧ z = 1 then 500 else if x = 14 ∧ y = n ∧ z = 0 then 0 else (lpI n M).1 x y z) = _
      rw [h1]
      repeat' split
      all_goals first | rfl | (exfalso; omega)
    · show mm_u (s_i3 (mm_mkd (lpI n M) 14 n) n).2.2.1 13 0 n (some (14, n)) x y z = _
      rw [u3, g3]
      show (if x = 13 ∧ y = 0 ∧ z = n then some (14, n) else if x = 14 ∧ y = n ∧ 2 ≤ z ∧ z < 8 then some (z + 13, n) else (lpI n M).2.2.1 x y z) = _
      rw [h3]
      repeat' split
      all_goals first | rfl | (exfalso; omega) | (simp_all; done) | (simp_all; omega)
    · show (s_i3 (mm_mkd (lpI n M) 14 n) n).2.2.2 x y ↔ _
      rw [g4]
      show (y = n ∧ 15 ≤ x ∧ x < 21) ∨ ((x = 14 ∧ y = n) ∨ (lpI n M).2.2.2 x y) ↔ _
      rw [h4]
      constructor
      · rintro (q | q | q | q)
        · exact Or.inl ⟨by omega, by omega, by omega⟩
        · exact Or.inl ⟨by omega, by omega, by omega⟩
        · exact Or.inl ⟨by omega, by omega, by omega⟩
        · exact Or.inr q
      · rintro (q | q)
        · by_cases e : y = n
          · by_cases e2 : x = 14
            · exact Or.inr (Or.inl ⟨e2, e⟩)
            · exact Or.inl ⟨e, by omega, by omega⟩
          · exact Or.inr (Or.inr (Or.inl ⟨by omega, by omega, by omega⟩))
        · exact Or.inr (Or.inr (Or.inr q))
theorem lp_cln {M : mm_M} (h : CLN M) (ho : M.2.2.2 13 0) : ∀ n, CLN (lpI n M)
  | 0 => h
  | n + 1 => by
    have m13 : (lpI n M).2.2.2 13 0 := ((lp_at n).2.2.2 13 0).mpr (Or.inr ho)
    refine (i3_cln (lp_cln h ho n).new (Or.inl ⟨rfl, rfl⟩)).sR ?_ ?_
    · exact (i3_at.2.2.2 13 0).mpr (Or.inr (Or.inr m13))
    · exact (i3_at.2.2.2 14 n).mpr (Or.inr (Or.inl ⟨rfl, rfl⟩))
def s_i2a (M : mm_M) : mm_M := mm_sR (mm_mkd (mm_sR M 12 0 0 (some (1, 0))) 13 0) 12 0 1 (some (13, 0))
def s_i2 (M : mm_M) : mm_M := mm_sI (mm_sI (mm_sI (lpI 20 (s_i2a M)) 12 0 2 (Int32.ofInt 0)) 12 0 3 (Int32.ofInt 0)) 12 0 4 (Int32.ofInt (-1))
def k_i2 : mm_Ct := fun As M Post => match As with
  | [.inr (.inr (some (12, 0))), .inr (.inr (some (1, 0)))] => CLN M ∧ M.2.2.2 12 0 ∧ M.2.2.2 1 0 ∧ ¬ M.2.2.2 13 0 ∧ (∀ f i, 14 ≤ f → f < 21 → ¬ M.2.2.2 f i) ∧ Post none (s_i2 M)
  | _ => False
theorem e_i2 {M : mm_M} {Post : Option mm_V → mm_M → Prop} : k_i2 [.inr (.inr (some (12, 0))), .inr (.inr (some (1, 0)))] M Post = (CLN M ∧ M.2.2.2 12 0 ∧ M.2.2.2 1 0 ∧ ¬ M.2.2.2 13 0 ∧ (∀ f i, 14 ≤ f → f < 21 → ¬ M.2.2.2 f i) ∧ Post none (s_i2 M)) := rfl
theorem i2a_f {M : mm_M} (hM : CLN M) (ho : M.2.2.2 12 0) (h1 : M.2.2.2 1 0) (hn : ¬ M.2.2.2 13 0) : CLN (s_i2a M) ∧ (s_i2a M).2.2.2 12 0 ∧ (s_i2a M).2.2.2 13 0 ∧ (s_i2a M).2.2.2 1 0 ∧ (s_i2a M).2.2.1 12 0 1 = some (13, 0) ∧ ∀ x y, (s_i2a M).2.2.2 x y ↔ (x = 13 ∧ y = 0) ∨ M.2.2.2 x y := by
  refine ⟨(((hM.sR ho h1).new (f := 13) (i := 0))).sR (Or.inr ho) (Or.inl ⟨rfl, rfl⟩), Or.inr ho, Or.inl ⟨rfl, rfl⟩, Or.inr h1, ?_, fun x y => Iff.rfl⟩
  show mm_u (mm_sR M 12 0 0 (some (1, 0))).2.2.1 12 0 1 (some (13, 0)) 12 0 1 = _
  rw [mm_u_own, if_pos rfl]
def p_i2 (M0 : mm_M) : Nat → Nat → mm_X := fun n pc ls st M u w => pc = 20 ∧ ∃ j, j ≤ 20 ∧ n = 20 - j ∧ ls = [some (.inr (.inr (some (12, 0)))), some (.inr (.inr (some (1, 0)))), some (.inl (nI j))] ∧ st = [] ∧ M = lpI j (s_i2a M0) ∧ u = 1 + 7 * j ∧ w = 20 + 252 * j
def h_i2 (pc : Nat) : Bool := pc == 20
set_option maxRecDepth 100000 in
set_option maxHeartbeats 2000000 in
theorem v_i2 : mm_Vd l D dA sz 2 2 k_i2 := by
  intro As M Post h
  match As, h with
  | [.inr (.inr (some (12, 0))), .inr (.inr (some (1, 0)))], h =>
    obtain ⟨hM, ho, h1, hn, hf, h⟩ := h
    obtain ⟨aC, a12, a13, a1, aR, aD⟩ := i2a_f hM ho h1 hn
    refine mm_methL 2 (by decide) ⟨rfl, rfl, by decide, by decide⟩ (mm_okC v_i3 (by decide) (by decide) mm_okN) (Nat.le_of_ble_eq_true rfl) h_i2 (p_i2 M) 60 60 21 ?_ ?_
    · show mm_x (2, 3, none, true, 141, 5060, none, true) prog_3_method_1_code (mm_gl [(3, k_i3)]) (mm_cutI h_i2 (p_i2 M) 21) Post 60 0 [some (.inr (.inr (some (12, 0)))), some (.inr (.inr (some (1, 0)))), none] [] M 0 0
      refine xs_al d2_0 rfl rfl ?_
      refine xs_oi d2_1 mt_2_3 (by decide) rfl ?_
      refine xs_al d2_4 rfl rfl ?_
      refine xs_al d2_5 rfl rfl ?_
      refine xs_pf d2_6 fl_2_9 rfl (by decide) ho (Or.inr ⟨rfl, rfl⟩) rfl rfl ?_
      refine xs_al d2_9 rfl rfl ?_
      refine xs_bp d2_10 rfl ?_
      refine xs0 d2_12 ⟨rfl, rfl, ?_⟩
      show mm_o (mm_CO 2 15) _
      rw [co_2_15]
      have hn' : ¬ (mm_sR M 12 0 0 (some (1, 0))).2.2.2 13 0 := hn
      have cl' : CLN (mm_sR M 12 0 0 (some (1, 0))) := hM.sR ho h1
      refine ⟨by decide, by decide, 13, 0, rfl, by decide, hn', (cl' _ _ hn').2, ⟨ho, h1, trivial⟩, ⟨ho, trivial⟩, by decide, by decide, ?_⟩
      rw [new_eq cl' hn']
      show mm_x (2, 3, none, true, 141, 5060, none, true) prog_3_method_1_code (mm_gl [(3, k_i3)]) (mm_cutI h_i2 (p_i2 M) 21) Post 52 15 [some (.inr (.inr (some (12, 0)))), some (.inr (.inr (some (1, 0)))), none] [.inr (.inr (some (13, 0))), .inr (.inr (some (12, 0)))] (mm_mkd (mm_sR M 12 0 0 (some (1, 0))) 13 0) 1 20
      refine xs_pf d2_15 fl_2_17 rfl (by decide) (Or.inr ho) (Or.inr ⟨rfl, rfl⟩) rfl rfl ?_
      refine xs_ic d2_18 rfl ?_
      refine xs0 d2_19 ⟨rfl, by decide, ?_⟩
      exact ⟨20, by decide, rfl, 0, by decide, rfl, rfl, rfl, rfl, rfl, rfl⟩
    · rintro k pc ls st M' u w - ⟨rfl, j, hj, rfl, rfl, rfl, rfl, rfl, rfl⟩
      have g3 : ∀ As M P, mm_gl [(3, k_i3)] 3 As M P = k_i3 As M P := fun _ _ _ => rfl
      obtain ⟨l1, l2, l3, l4⟩ := lp_at (M := s_i2a M) j
      have lC := lp_cln aC a13 j
      have m12 : (lpI j (s_i2a M)).2.2.2 12 0 := (l4 12 0).mpr (Or.inr a12)
      have m1 : (lpI j (s_i2a M)).2.2.2 1 0 := (l4 1 0).mpr (Or.inr a1)
      have m13 : (lpI j (s_i2a M)).2.2.2 13 0 := (l4 13 0).mpr (Or.inr a13)
      have r12 : (lpI j (s_i2a M)).2.2.1 12 0 1 = some (13, 0) := by
        rw [l3, if_neg (by omega), if_neg (by omega)]
        exact aR
      have nm : ∀ f, 14 ≤ f → f < 21 → ¬ (lpI j (s_i2a M)).2.2.2 f j := fun f f1 f2 z => by
        rcases (l4 f j).mp z with q | q
        · omega
        · rcases (aD f j).mp q with q | q
          · omega
          · exact hf f j f1 f2 q
      have last : j = 20 → Post none (mm_sI (mm_sI (mm_sI (lpI j (s_i2a M)) 12 0 2 (Int32.ofInt 0)) 12 0 3 (Int32.ofInt 0)) 12 0 4 (Int32.ofInt (-1))) := fun e => by
        rw [e]
        exact h
      have nx : mm_sR (s_i3 (mm_mkd (lpI j (s_i2a M)) 14 j) j) 13 0 j (some (14, j)) = lpI (j + 1) (s_i2a M) := rfl
      generalize lpI j (s_i2a M) = L at *
      show mm_x (2, 3, none, true, 141, 5060, none, true) prog_3_method_1_code (mm_gl [(3, k_i3)]) (mm_cutI h_i2 (p_i2 M) (20 - j)) Post 60 20 [some (.inr (.inr (some (12, 0)))), some (.inr (.inr (some (1, 0)))), some (.inl (nI j))] [] L (1 + 7 * j) (20 + 252 * j)
      refine xs_il d2_20 rfl rfl ?_
      refine xs_bp d2_21 rfl ?_
      have e20 : (Int8.ofInt 20).toInt32 = 20 := by decide
      refine xs0 d2_23 ⟨rfl, by decide, ?_⟩
      have ci : (20 : Int32) ≤ nI j ↔ 20 ≤ j := by
        rw [Int32.le_iff_toInt_le, nI_ti (by omega), show (20 : Int32).toInt = 20 by decide]
        omega
      refine ⟨fun z => ?_, fun z => ?_⟩
      · have z : (Int8.ofInt 20).toInt32 ≤ nI j := z
        rw [e20, ci] at z
        have e : j = 20 := by omega
        show mm_x (2, 3, none, true, 141, 5060, none, true) prog_3_method_1_code (mm_gl [(3, k_i3)]) (mm_cutI h_i2 (p_i2 M) (20 - j)) Post 57 45 [some (.inr (.inr (some (12, 0)))), some (.inr (.inr (some (1, 0)))), some (.inl (nI j))] [] L (1 + 7 * j) (20 + 252 * j)
        refine xs_al d2_45 rfl rfl ?_
        refine xs_ic d2_46 rfl ?_
        refine xs_pn d2_47 fl_2_22 rfl (by decide) m12 (Or.inr ⟨rfl, rfl⟩) rfl rfl ?_
        refine xs_al d2_50 rfl rfl ?_
        refine xs_ic d2_51 rfl ?_
        refine xs_pn d2_52 fl_2_26 rfl (by decide) m12 (Or.inr ⟨rfl, rfl⟩) rfl rfl ?_
        refine xs_al d2_55 rfl rfl ?_
        refine xs_ic d2_56 rfl ?_
        refine xs_pn d2_57 fl_2_29 rfl (by decide) m12 (Or.inr ⟨rfl, rfl⟩) rfl rfl ?_
        exact xs_rt d2_60 (show 1 + 7 * j ≤ 141 by omega) (show 20 + 252 * j ≤ 5060 by omega) rfl (last e)
      · have z : ¬ (Int8.ofInt 20).toInt32 ≤ nI j := z
        rw [e20, ci] at z
        show mm_x (2, 3, none, true, 141, 5060, none, true) prog_3_method_1_code (mm_gl [(3, k_i3)]) (mm_cutI h_i2 (p_i2 M) (20 - j)) Post 57 26 [some (.inr (.inr (some (12, 0)))), some (.inr (.inr (some (1, 0)))), some (.inl (nI j))] [] L (1 + 7 * j) (20 + 252 * j)
        refine xs_al d2_26 rfl rfl ?_
        refine xs_gf d2_27 fl_2_17 rfl (by decide) m12 (show (Sum.inr (Sum.inr (L.2.2.1 12 0 1)) : mm_V) = Sum.inr (Sum.inr (some (13, 0))) by rw [r12]) rfl ?_
        refine xs_il d2_30 rfl rfl ?_
        refine xs_nw (f := 14) (i := j) d2_31 rfl cc_2_15 rfl (by decide) lC (nm 14 (by decide) (by decide)) ⟨m12, m1, trivial, trivial⟩ ⟨trivial, m13, trivial⟩ (show 1 + 7 * j + 1 ≤ 141 by omega) (show 20 + 252 * j + 8 ≤ 5060 by omega) rfl ?_
        refine xs_dup d2_34 rfl ?_
        refine xs_in d2_35 mt_2_21 rfl (by decide) (Or.inl ⟨rfl, rfl⟩) (fun _ => rfl) (show 3 ≤ 8 by decide) (show 1 + 7 * j + 1 + 6 ≤ 141 by omega) (show 20 + 252 * j + 8 + 244 ≤ 5060 by omega) rfl ⟨Or.inr m12, Or.inr m1, trivial, trivial⟩ ⟨Or.inl ⟨rfl, rfl⟩, trivial, Or.inr m13, trivial⟩ rfl ?_
        rw [g3, e_i3]
        refine ⟨lC.new, Or.inl ⟨rfl, rfl⟩, fun t ht y => ?_, ?_⟩
        · rcases y with q | q
          · omega
          · exact nm _ (by omega) (by omega) q
        obtain ⟨-, -, -, t4⟩ := i3_at (M := mm_mkd L 14 j) (i := j)
        have m13' : (s_i3 (mm_mkd L 14 j) j).2.2.2 13 0 := (t4 13 0).mpr (Or.inr (Or.inr m13))
        have m14' : (s_i3 (mm_mkd L 14 j) j).2.2.2 14 j := (t4 14 j).mpr (Or.inr (Or.inl ⟨rfl, rfl⟩))
        show mm_x (2, 3, none, true, 141, 5060, none, true) prog_3_method_1_code (mm_gl [(3, k_i3)]) (mm_cutI h_i2 (p_i2 M) (20 - j)) Post 51 38 [some (.inr (.inr (some (12, 0)))), some (.inr (.inr (some (1, 0)))), some (.inl (nI j))] [.inr (.inr (some (14, j))), .inl (nI j), .inr (.inr (some (13, 0)))] (s_i3 (mm_mkd L 14 j) j) (1 + 7 * j + 1 + 6) (20 + 252 * j + 8 + 244)
        refine xs0 d2_38 ⟨rfl, 3, ⟨rfl, show (14 : Nat) ≠ 999 by decide, m14'⟩, ⟨rfl, show (13 : Nat) ≠ 999 by decide, m13'⟩, show vp_in (nI j) 20 from vp_in_nI (by omega) (by decide), ?_⟩
        rw [nI_clamp (show j < 2 ^ 31 by omega)]
        show mm_x (2, 3, none, true, 141, 5060, none, true) prog_3_method_1_code (mm_gl [(3, k_i3)]) (mm_cutI h_i2 (p_i2 M) (20 - j)) Post 50 39 [some (.inr (.inr (some (12, 0)))), some (.inr (.inr (some (1, 0)))), some (.inl (nI j))] [] (mm_sR (s_i3 (mm_mkd L 14 j) j) 13 0 j (some (14, j))) (1 + 7 * j + 1 + 6) (20 + 252 * j + 8 + 244)
        rw [nx]
        refine xs0 d2_39 ⟨rfl, by decide, ?_⟩
        show mm_x (2, 3, none, true, 141, 5060, none, true) prog_3_method_1_code (mm_gl [(3, k_i3)]) (mm_cutI h_i2 (p_i2 M) (20 - j)) Post 49 42 [some (.inr (.inr (some (12, 0)))), some (.inr (.inr (some (1, 0)))), some (.inl (nI j + Int32.ofInt 1))] [] (lpI (j + 1) (s_i2a M)) (1 + 7 * j + 1 + 6) (20 + 252 * j + 8 + 244)
        rw [show nI j + Int32.ofInt 1 = nI (j + 1) by rw [show Int32.ofInt 1 = 1 by decide]; exact nI_1 j]
        refine xs0 d2_42 ⟨rfl, by decide, ?_⟩
        exact ⟨20 - (j + 1), by omega, rfl, j + 1, by omega, rfl, rfl, rfl, rfl, by omega, by omega⟩
end MMD
