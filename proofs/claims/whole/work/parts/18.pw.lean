/-! types of codes; the simple kinds -/
theorem tb_val {C : mm_M} {j : Nat} {c : Int32} (h : s_isByP c = true) : s_typeBy C j c = 500 ∨ (VT (s_typeBy C j c) ∧ ¬ s_typeBy C j c = 0) := by
  have key : ∀ {k : Int32}, s_typeByK C j c k = 500 ∨ (VT (s_typeByK C j c k) ∧ ¬ s_typeByK C j c k = 0) := fun {k} => by
    unfold s_typeByK
    split
    · exact Or.inl rfl
    · split
      · exact Or.inl rfl
      · split
        · rename_i q1 q2
          right
          generalize C.2.1 16 j k.toNatClampNeg = x at *
          rw [Int64.lt_iff_toInt_lt, show (1 : Int64).toInt = 1 by decide] at q1
          rw [Int64.le_iff_toInt_le, show (31 : Int64).toInt = 31 by decide] at q2
          have e : x.toInt32.toInt = x.toInt := by
            rw [Int64.toInt_toInt32]
            apply Int.bmod_eq_of_le <;> omega
          have e0 : (0 : Int32).toInt = 0 := by decide
          split
          · rcases neg_toInt (t := x.toInt32) with n | n
            · unfold VT
              rw [← Int32.toInt_inj]
              omega
            · omega
          · unfold VT
            rw [← Int32.toInt_inj]
            omega
        · exact Or.inl rfl
  unfold s_typeBy
  rw [h, if_neg (by decide)]
  split <;> exact key
theorem tb_no {C : mm_M} {j : Nat} {c : Int32} (h : s_isByP c = false) : s_typeBy C j c = c := if_pos h
theorem okC_cast {c : Int32} (h : s_isCast c = true) : okC c := by
  simp only [s_isCast, Bool.or_eq_true, isInt_iff] at h
  rcases h with h | h
  · refine Or.inr (Or.inl ?_)
    have := h.1.2
    rw [Int32.lt_iff_toInt_lt, show (100 : Int32).toInt = 100 by decide]
    omega
  · exact Or.inl h
theorem okC_res {c : Int32} (h : s_isRes c = true) : okC c := by
  simp only [s_isRes, Bool.or_eq_true, decide_eq_true_eq] at h
  rcases h with rfl | h
  · exact Or.inr (Or.inl (by decide))
  · exact okC_cast h
theorem okC_par {c : Int32} (h : s_isPar c = true) : okC c := by
  simp only [s_isPar, Bool.or_eq_true, decide_eq_true_eq] at h
  rcases h with (h | rfl) | rfl
  · exact okC_res h
  · exact Or.inr (Or.inr (by decide))
  · exact Or.inr (Or.inr (by decide))
theorem tb_cast {C : mm_M} {j : Nat} {c : Int32} (h : s_isCast c = true) (hn : ¬ s_typeBy C j c = 500) : VT (s_typeBy C j c) ∧ ¬ s_typeBy C j c = 0 := by
  by_cases q : s_isByP c = true
  · exact (tb_val q).resolve_left hn
  · have q : s_isByP c = false := by simpa using q
    rw [tb_no q]
    simp only [s_isCast, q, Bool.or_false] at h
    exact isInt_iff.mp h
theorem tb_res {C : mm_M} {j : Nat} {c : Int32} (h : s_isRes c = true) (hn : ¬ s_typeBy C j c = 500) : VT (s_typeBy C j c) := by
  simp only [s_isRes, Bool.or_eq_true, decide_eq_true_eq] at h
  rcases h with rfl | h
  · rw [tb_no (by decide)]
    exact ⟨by decide, by decide⟩
  · exact (tb_cast h hn).1
/-- a parameter's type -/
theorem tb_par {C : mm_M} {j : Nat} {c : Int32} (h : s_isPar c = true) (hn : ¬ s_typeBy C j c = 500) : (s_typeBy C j c = 400 ↔ c = 400) ∧ (s_typeBy C j c = 300 ↔ c = 300) ∧ (¬ c = 400 → ¬ c = 300 → VT (s_typeBy C j c)) := by
  simp only [s_isPar, Bool.or_eq_true, decide_eq_true_eq] at h
  have v4 : ∀ {t : Int32}, VT t → ¬ t = 400 ∧ ¬ t = 300 := fun {t} hv => ⟨fun z => by rw [z] at hv; exact absurd hv.2 (by decide), fun z => by rw [z] at hv; exact absurd hv.2 (by decide)⟩
  rcases h with (h | rfl) | rfl
  · have hv := tb_res h hn
    have hc : ¬ c = 400 ∧ ¬ c = 300 := ⟨fun z => by rw [z] at h; exact absurd h (by decide), fun z => by rw [z] at h; exact absurd h (by decide)⟩
    exact ⟨⟨fun z => absurd z (v4 hv).1, fun z => absurd z hc.1⟩, ⟨fun z => absurd z (v4 hv).2, fun z => absurd z hc.2⟩, fun _ _ => hv⟩
  · rw [tb_no (by decide)]
    exact ⟨⟨fun z => z, fun z => z⟩, ⟨fun z => z, fun z => z⟩, fun _ z => absurd rfl z⟩
  · rw [tb_no (by decide)]
    exact ⟨⟨fun z => z, fun z => z⟩, ⟨fun z => z, fun z => z⟩, fun z => absurd rfl z⟩
theorem SC.ty {C R : mm_M} {j : Nat} {c : Int32} (h : SC C R) (hj : j < 20) (hc : nI j < C.1 12 0 2) (ho : okC c) : t_typeIn R (nI j) c = s_typeBy C j c := by
  obtain ⟨f1, f2, f3, f4, f5, f6, f7, f8, f9, f10, f11, f12, -⟩ := (h.2.2.2.2 j hj hc).1
  have e : (nI j).toNatClampNeg = j := nI_clamp (by omega)
  refine typeIn_eq ho ?_ ?_ ?_ ?_ <;> rw [e]
  · rw [f1, h.1 8 (by decide)]
    exact f6
  · rw [f1, h.1 9 (by decide)]
    exact f7
  · intro z
    rw [f11, if_pos (f6.mp z)]
  · intro z
    rw [f12, if_pos (f7.mp z)]
theorem i64 (a : Int32) : sm a.toInt64 ∧ s_holds 300 a.toInt64 = true := by
  have h1 := a.le_toInt
  have h2 := a.toInt_lt
  have e : a.toInt64.toInt = a.toInt := Int32.toInt_toInt64 a
  have l : (s_low 300).toInt = -2147483648 := by decide
  have u : (s_high 300).toInt = 2147483648 := by decide
  refine ⟨⟨by omega, by omega⟩, holds_iff.mpr ⟨by omega, by omega⟩⟩
theorem num_sim {C R : mm_M} {j : Nat} {n a : Int32} (h : ST C R j n) : RS j n (true, s_findK C j n 300 a.toInt64) (t_found R (nI j) n 300 1 a.toInt64) := findK_sim h (Or.inr rfl) (i64 a).2
theorem sm_300 {x : Int64} (h : sm x) : s_holds 300 x = true := by
  have l : (s_low 300).toInt = -2147483648 := by decide
  have u : (s_high 300).toInt = 2147483648 := by decide
  obtain ⟨a, b⟩ := h
  exact holds_iff.mpr ⟨by omega, by omega⟩
theorem par_sim {C R : mm_M} {j : Nat} {n : Int32} (h : ST C R j n) (hp : IP C) (ha : C.1 3 0 n.toNatClampNeg = 0 ∨ C.1 3 0 n.toNatClampNeg = 1) : RS j n (s_lookPar C j n) (t_lookPar R (nI j) n (C.1 3 0 n.toNatClampNeg) (t_codeOf R (R.1 41 0 (nI j).toNatClampNeg) (C.1 3 0 n.toNatClampNeg))) := by
  obtain ⟨hS, hj, hc, hn, hE, hu⟩ := h
  obtain ⟨f1, f2, f3, f4, f5, f6, f7, f8, f9, f10, f11, f12, f13, f14, f15, f16⟩ := (hS.2.2.2.2 j hj hc).1
  have e : (nI j).toNatClampNeg = j := nI_clamp (by omega)
  obtain ⟨-, p8, p9, -⟩ := hp.2.2.2 _ f2
  have key : ∀ (k : Int32) (code : Int32) (x : Int64), C.1 15 j k.toNatClampNeg = s_typeBy C j code → s_isPar code = true → ¬ C.1 15 j k.toNatClampNeg = 500 → (C.1 15 j k.toNatClampNeg = 300 → x = C.2.1 16 j k.toNatClampNeg ∧ sm x) → RS j n (if C.1 15 j k.toNatClampNeg = 400 then (false, s_fail C (C.1 14 j 0) n (-2)) else if C.1 15 j k.toNatClampNeg = 300 then (true, s_findK C j n (C.1 15 j k.toNatClampNeg) (C.2.1 16 j k.toNatClampNeg)) else (true, s_find C j n (C.1 15 j k.toNatClampNeg))) (if code = 400 then t_fail R (-2) (nI j) n else t_found R (nI j) n (t_typeIn R (nI j) code) (if code = 300 then 1 else 0) x) := fun k code x et hcd h5 hx => by
    have ety : t_typeIn R (nI j) code = C.1 15 j k.toNatClampNeg := by rw [hS.ty hj hc (okC_par hcd), et]
    obtain ⟨t1, t2, t3⟩ := tb_par (C := C) (j := j) hcd (by rw [← et]; exact h5)
    rw [← et] at t1 t2 t3
    by_cases q : code = 400
    · rw [if_pos (t1.mpr q), if_pos q]
      exact RS.fail hS hj hc (by decide)
    · rw [if_neg (fun z => q (t1.mp z)), if_neg q, ety]
      by_cases q3 : code = 300
      · have e3 := t2.mpr q3
        obtain ⟨x1, x2⟩ := hx e3
        rw [if_pos e3, if_pos q3, ← x1, e3]
        exact findK_sim ⟨hS, hj, hc, hn, hE, hu⟩ (Or.inr rfl) (sm_300 x2)
      · rw [if_neg (fun z => q3 (t2.mp z)), if_neg q3]
        exact find_sim ⟨hS, hj, hc, hn, hE, hu⟩ (Or.inl (t3 q q3)) (fun z => q3 (t2.mp z))
  unfold s_lookPar t_lookPar t_codeOf
  rw [e, f1, hS.1 8 (by decide), hS.1 9 (by decide)]
  rcases ha with ha | ha
  · rw [ha, if_pos rfl, if_pos rfl]
    exact key 0 _ _ f3 p8 f8 (fun z => ⟨by rw [f11, if_pos (f6.mp z)]; rfl, by rw [f11, if_pos (f6.mp z)]; exact f15 z⟩)
  · have n1 : ¬ (1 : Int32) = 0 := by decide
    rw [ha, if_neg n1, if_neg n1]
    exact key 1 _ _ f4 p9 f9 (fun z => ⟨by rw [f12, if_pos (f7.mp z)]; rfl, by rw [f12, if_pos (f7.mp z)]; exact f16 z⟩)
theorem width_sim {C R : mm_M} {j : Nat} {n a : Int32} (h : ST C R j n) (ha : vp_in a 60) (hl : ¬ C.1 17 j a.toNatClampNeg = 400) : RS j n (s_lwB C j n a) (t_lookWidth R (nI j) n (t_at R 46 (nI j) a)) := by
  obtain ⟨-, r1, -⟩ := h.1.rd h.2.1 h.2.2.1 ha
  rw [(r1 hl).1]
  unfold s_lwB t_lookWidth
  rw [isI_eq]
  generalize C.1 17 j a.toNatClampNeg = t
  by_cases q : s_isInt t = true
  · rw [if_pos q, if_pos q]
    have e : (if 0 ≤ t then t.toInt64 else (-t).toInt64) = (if 0 ≤ t then t else 0 - t).toInt64 := by
      split
      · rfl
      · rw [Int32.zero_sub]
    rw [e]
    exact findK_sim h (Or.inr rfl) (i64 _).2
  · rw [if_neg q, if_neg q]
    exact RS.fail h.1 h.2.1 h.2.2.1 (by decide)
theorem cast_sim {C R : mm_M} {j : Nat} {n a b : Int32} (h : ST C R j n) (ha : vp_in a 60) (hl : ¬ C.1 17 j a.toNatClampNeg = 400) (eb : C.1 4 0 n.toNatClampNeg = b) (hb : s_isCast b = true) : RS j n (s_ltB C j n a) (t_lookCast R (nI j) n a b) := by
  obtain ⟨-, r1, w1, w2, w3⟩ := h.1.rd h.2.1 h.2.2.1 ha
  obtain ⟨e1, e2, e3⟩ := r1 hl
  obtain ⟨w4, w5, w6⟩ := w3 hl
  unfold s_ltB t_lookCast
  rw [eb, e1, e2, h.1.ty h.2.1 h.2.2.1 (okC_cast hb)]
  by_cases q0 : C.1 17 j a.toNatClampNeg = 0
  · rw [if_pos q0, if_pos q0]
    exact RS.fail h.1 h.2.1 h.2.2.1 (by decide)
  rw [if_neg q0, if_neg q0]
  unfold s_ltC
  by_cases q5 : s_typeBy C j b = 500
  · rw [if_pos q5, if_pos q5]
    exact RS.fail h.1 h.2.1 h.2.2.1 (by decide)
  rw [if_neg q5, if_neg q5]
  obtain ⟨v1, v2⟩ := tb_cast hb q5
  generalize s_typeBy C j b = t at *
  have n3 : ¬ t = 300 := fun z => by rw [z] at v1; exact absurd v1.2 (by decide)
  by_cases q1 : C.1 18 j a.toNatClampNeg = 0
  · rw [if_pos q1, if_pos q1, q1]
    exact find_sim h (Or.inl v1) n3
  · have q1' := w2.resolve_left q1
    rw [if_neg q1, if_neg q1, e3 q1', q1', fits_eq v2]
    by_cases q2 : s_holds t (C.2.1 19 j a.toNatClampNeg) = true
    · rw [if_pos q2, if_pos q2]
      exact findK_sim h (Or.inl v1) q2
    · rw [if_neg q2, if_neg q2]
      exact RS.fail h.1 h.2.1 h.2.2.1 (by decide)
/-- two operands are fitted together on both sides -/
theorem fit_sim {C R : mm_M} {j : Nat} {n a b : Int32} (h : ST C R j n) (ha : vp_in a 60) (hb : vp_in b 60) (la : ¬ C.1 17 j a.toNatClampNeg = 400) (lb : ¬ C.1 17 j b.toNatClampNeg = 400) :
    ((s_fits C j n a b).1 = true → (s_fits C j n a b).2 = C ∧ t_fit R (nI j) n a b = (s_fitted C j a b, R) ∧ ((C.1 17 j a.toNatClampNeg = s_fitted C j a b ∧ C.1 17 j b.toNatClampNeg = s_fitted C j a b) ∨ ((VT (s_fitted C j a b) ∧ ¬ s_fitted C j a b = 0) ∧ (C.1 17 j a.toNatClampNeg = s_fitted C j a b ∨ (C.1 17 j a.toNatClampNeg = 300 ∧ s_holds (s_fitted C j a b) (C.2.1 19 j a.toNatClampNeg) = true)) ∧ (C.1 17 j b.toNatClampNeg = s_fitted C j a b ∨ (C.1 17 j b.toNatClampNeg = 300 ∧ s_holds (s_fitted C j a b) (C.2.1 19 j b.toNatClampNeg) = true))))) ∧
    ((s_fits C j n a b).1 = false → SE (s_fits C j n a b).2 (t_fit R (nI j) n a b).2) := by
  obtain ⟨-, ra, wa1, wa2, wa3⟩ := h.1.rd h.2.1 h.2.2.1 ha
  obtain ⟨a1, a2, a3⟩ := ra la
  obtain ⟨a4, a5, a6⟩ := wa3 la
  obtain ⟨-, rb, wb1, wb2, wb3⟩ := h.1.rd h.2.1 h.2.2.1 hb
  obtain ⟨b1, b2, b3⟩ := rb lb
  obtain ⟨b4, b5, b6⟩ := wb3 lb
  have T : ∀ {p : Prop}, (true : Bool) = false → p := fun z => absurd z (by decide)
  have F : ∀ {p : Prop}, (false : Bool) = true → p := fun z => absurd z (by decide)
  have fl : ∀ {e : Int32}, ¬ e = 0 → SE (s_fail C (C.1 14 j 0) n e) (t_fail R e (nI j) n) := fun he => fail_sim h.1 h.2.1 h.2.2.1 he
  have S : ∀ r : Bool × mm_M, s_fits C j n a b = r → ∀ t : Int32 × mm_M, t_fit R (nI j) n a b = t → ∀ u, s_fitted C j a b = u → ((r.1 = true → r.2 = C ∧ t = (u, R) ∧ ((C.1 17 j a.toNatClampNeg = u ∧ C.1 17 j b.toNatClampNeg = u) ∨ ((VT u ∧ ¬ u = 0) ∧ (C.1 17 j a.toNatClampNeg = u ∨ (C.1 17 j a.toNatClampNeg = 300 ∧ s_holds u (C.2.1 19 j a.toNatClampNeg) = true)) ∧ (C.1 17 j b.toNatClampNeg = u ∨ (C.1 17 j b.toNatClampNeg = 300 ∧ s_holds u (C.2.1 19 j b.toNatClampNeg) = true))))) ∧ (r.1 = false → SE r.2 t.2)) → ((s_fits C j n a b).1 = true → (s_fits C j n a b).2 = C ∧ t_fit R (nI j) n a b = (s_fitted C j a b, R) ∧ ((C.1 17 j a.toNatClampNeg = s_fitted C j a b ∧ C.1 17 j b.toNatClampNeg = s_fitted C j a b) ∨ ((VT (s_fitted C j a b) ∧ ¬ s_fitted C j a b = 0) ∧ (C.1 17 j a.toNatClampNeg = s_fitted C j a b ∨ (C.1 17 j a.toNatClampNeg = 300 ∧ s_holds (s_fitted C j a b) (C.2.1 19 j a.toNatClampNeg) = true)) ∧ (C.1 17 j b.toNatClampNeg = s_fitted C j a b ∨ (C.1 17 j b.toNatClampNeg = 300 ∧ s_holds (s_fitted C j a b) (C.2.1 19 j b.toNatClampNeg) = true))))) ∧ ((s_fits C j n a b).1 = false → SE (s_fits C j n a b).2 (t_fit R (nI j) n a b).2) := fun r e1 t e2 u e3 hh => by
    rw [e1, e2, e3]
    exact hh
  obtain ⟨ta, eta⟩ : ∃ t, C.1 17 j a.toNatClampNeg = t := ⟨_, rfl⟩
  obtain ⟨tb, etb⟩ : ∃ t, C.1 17 j b.toNatClampNeg = t := ⟨_, rfl⟩
  obtain ⟨va, eva⟩ : ∃ t, C.2.1 19 j a.toNatClampNeg = t := ⟨_, rfl⟩
  obtain ⟨vb, evb⟩ : ∃ t, C.2.1 19 j b.toNatClampNeg = t := ⟨_, rfl⟩
  rw [eta] at a1 a5
  rw [etb] at b1 b5
  rw [eva] at a3
  rw [evb] at b3
  rw [eta, etb, eva, evb] at S ⊢
  have E1 : s_fits C j n a b = (if ta = 300 then (if ta = tb then (true, C) else if ¬ ta = 300 then (false, s_fail C (C.1 14 j 0) n (-2)) else if s_isInt tb = false then (false, s_fail C (C.1 14 j 0) n (-2)) else if s_holds tb va = true then (true, C) else (false, s_fail C (C.1 14 j 0) n (-3))) else (if tb = ta then (true, C) else if ¬ tb = 300 then (false, s_fail C (C.1 14 j 0) n (-2)) else if s_isInt ta = false then (false, s_fail C (C.1 14 j 0) n (-2)) else if s_holds ta vb = true then (true, C) else (false, s_fail C (C.1 14 j 0) n (-3)))) := by
    unfold s_fits s_passes
    simp only [eta, etb, eva, evb]
  have E3 : s_fitted C j a b = if ta = 300 then tb else ta := by
    unfold s_fitted
    simp only [eta, etb]
  have E2 : t_fit R (nI j) n a b = (if ta = tb then (ta, R) else if ta = 300 ∧ s_isInt tb = true then t_fit2 R (nI j) n 300 tb (t_val R (nI j) a) else if tb = 300 ∧ s_isInt ta = true then t_fit2 R (nI j) n ta 300 (if ta = 300 then t_val R (nI j) a else t_val R (nI j) b) else (500, t_fail R (-2) (nI j) n)) := by
    unfold t_fit
    simp only [a1, b1, isI_eq]
  by_cases q1 : ta = 300
  · have va' := a3 (a5 q1)
    rw [if_pos q1] at E1 E3
    by_cases q2 : ta = tb
    · rw [if_pos q2] at E1 E2
      exact S _ E1 _ E2 _ E3 ⟨fun _ => ⟨rfl, by rw [q2], Or.inl ⟨q2, rfl⟩⟩, T⟩
    · rw [if_neg q2] at E1 E2
      rw [if_neg (fun z => z q1)] at E1
      by_cases q3 : s_isInt tb = true
      · have q3' := isInt_iff.mp q3
        have E4 : t_fit2 R (nI j) n 300 tb (t_val R (nI j) a) = if s_holds tb va = true then (tb, R) else (500, t_fail R (-3) (nI j) n) := by
          unfold t_fit2 t_fitE
          rw [if_pos rfl, fits_eq q3'.2, va']
        rw [if_neg (by rw [q3]; decide)] at E1
        rw [if_pos ⟨q1, q3⟩, E4] at E2
        by_cases q4 : s_holds tb va = true
        · rw [if_pos q4] at E1 E2
          exact S _ E1 _ E2 _ E3 ⟨fun _ => ⟨rfl, rfl, Or.inr ⟨q3', Or.inr ⟨q1, q4⟩, Or.inl rfl⟩⟩, T⟩
        · rw [if_neg q4] at E1 E2
          exact S _ E1 _ E2 _ E3 ⟨F, fun _ => fl (by decide)⟩
      · have q3f : s_isInt tb = false := by simpa using q3
        rw [if_pos q3f] at E1
        rw [if_neg (fun z => q3 z.2), if_neg (fun z => q2 (q1.trans z.1.symm))] at E2
        exact S _ E1 _ E2 _ E3 ⟨F, fun _ => fl (by decide)⟩
  · rw [if_neg q1] at E1 E3
    by_cases q2 : tb = ta
    · rw [if_pos q2] at E1
      rw [if_pos q2.symm] at E2
      exact S _ E1 _ E2 _ E3 ⟨fun _ => ⟨rfl, rfl, Or.inl ⟨rfl, q2⟩⟩, T⟩
    · rw [if_neg q2] at E1
      rw [if_neg (fun z => q2 z.symm), if_neg (fun z => q1 z.1)] at E2
      by_cases q5 : tb = 300
      · have vb' := b3 (b5 q5)
        rw [if_neg (fun z => z q5)] at E1
        by_cases q3 : s_isInt ta = true
        · have q3' := isInt_iff.mp q3
          have E4 : t_fit2 R (nI j) n ta 300 (if ta = 300 then t_val R (nI j) a else t_val R (nI j) b) = if s_holds ta vb = true then (ta, R) else (500, t_fail R (-3) (nI j) n) := by
            unfold t_fit2 t_fitE
            rw [if_neg q1, if_neg q1, fits_eq q3'.2, vb']
          rw [if_neg (by rw [q3]; decide)] at E1
          rw [if_pos ⟨q5, q3⟩, E4] at E2
          by_cases q4 : s_holds ta vb = true
          · rw [if_pos q4] at E1 E2
            exact S _ E1 _ E2 _ E3 ⟨fun _ => ⟨rfl, rfl, Or.inr ⟨q3', Or.inl rfl, Or.inr ⟨q5, q4⟩⟩⟩, T⟩
          · rw [if_neg q4] at E1 E2
            exact S _ E1 _ E2 _ E3 ⟨F, fun _ => fl (by decide)⟩
        · have q3f : s_isInt ta = false := by simpa using q3
          rw [if_pos q3f] at E1
          rw [if_neg (fun z => q3 z.2)] at E2
          exact S _ E1 _ E2 _ E3 ⟨F, fun _ => fl (by decide)⟩
      · rw [if_pos q5] at E1
        rw [if_neg (fun z => q5 z.1)] at E2
        exact S _ E1 _ E2 _ E3 ⟨F, fun _ => fl (by decide)⟩
