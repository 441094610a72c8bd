/-! want and calls on both sides -/
theorem want_sim {C R : mm_M} {c : Nat} {f : Int32} {v w v' w' : Int64} (i n : Int32) (h : SC C R) (hp : IP C) (ec : C.1 12 0 2 = nI c) (hc : c ≤ 20) (hf : s_hasFun C f = true) (hv : C.1 8 0 f.toNatClampNeg = 300 → v' = v ∧ sm v) (hw : C.1 9 0 f.toNatClampNeg = 300 → w' = w ∧ sm w) :
    (∃ m, m < 20 ∧ (s_wantR C f v w c c).1 = nI m ∧ (t_want R i n f v' w').1 = nI m ∧ nI m < (s_wantR C f v w c c).2.1 12 0 2 ∧ SC (s_wantR C f v w c c).2 (t_want R i n f v' w').2 ∧ (s_wantR C f v w c c).2.1 14 m 0 = f ∧ (s_wantR C f v w c c).2.1 12 0 3 = C.1 12 0 3 ∧ (∀ g a, g ≠ 12 → a < c → (s_wantR C f v w c c).2.1 g a = C.1 g a) ∧ (∀ g a, a < c → (s_wantR C f v w c c).2.2.1 g a = C.2.1 g a) ∧ (∀ g, g < 12 → (s_wantR C f v w c c).2.1 g = C.1 g) ∧ ∀ a, a < c → nI a < (s_wantR C f v w c c).2.1 12 0 2) ∨
    ((s_wantR C f v w c c).1 = -7 ∧ (s_wantR C f v w c c).2 = C ∧ t_want R i n f v' w' = (-1, t_fail R (-7) i n)) ∨
    ((s_wantR C f v w c c).1 = -4 ∧ (∀ a, a < c → (s_wantR C f v w c c).2.1 14 a 0 = C.1 14 a 0) ∧ ∃ R1, t_want R i n f v' w' = (-1, t_fail R1 (-4) (if n = 63 then nI c else i) n) ∧ (∀ a, a < c → R1.1 41 0 a = R.1 41 0 a) ∧ R1.1 41 0 c = f ∧ c < 20) := by
  have eR : (R.1 30 0 3).toNatClampNeg = c := by rw [h.2.1, ec, nI_clamp (by omega)]
  have hs := search_eq (i := i) (n := n) h ec hc (fun z => (hv z).1) (fun z => (hw z).1) c (Nat.le_refl c)
  have eT : t_want R i n f v' w' = t_wantL R i n f v' w' (t_cut R 8 f v') (t_cut R 9 f w') c c := by
    unfold t_want
    rw [eR]
  rcases hs with ⟨m, hm, s1, s2, s3⟩ | ⟨s1, s2⟩
  · left
    have e : s_wantR C f v w c c = (nI m, C) := by
      unfold s_wantR
      rw [s1]
    rw [e, eT, s2]
    refine ⟨m, by omega, rfl, rfl, ?_, h, s3, rfl, fun _ _ _ _ => rfl, fun _ _ _ => rfl, fun _ _ => rfl, fun a ha => ?_⟩
    · show nI m < C.1 12 0 2
      rw [ec]
      exact nI_lt hm (by omega)
    · show nI a < C.1 12 0 2
      rw [ec]
      exact nI_lt ha (by omega)
  · have e : s_wantR C f v w c c = s_wantN C f v w c := by
      unfold s_wantR
      rw [s1]
    rw [e, eT, s2]
    unfold s_wantN t_wantN
    by_cases hlt : c < 20
    · have h20 : ¬ c = 20 := by omega
      rw [if_pos hlt, if_neg h20]
      obtain ⟨n1, n2, n3, n4, n5⟩ := new_sim h hp ec hlt hf hv hw
      have ecb : (s_begM C c f v w).1 12 0 2 = nI c := by
        rw [n3 12 (by decide)]
        exact ec
      by_cases q : s_beg C c f v w = true
      · left
        obtain ⟨m1, m2⟩ := n1 q
        rw [if_pos q, m1 i n, ecb]
        have r1 := sI_rows (M := s_begM C c f v w) (x := nI c + 1)
        have cnt : (mm_sI (s_begM C c f v w) 12 0 2 (nI c + 1)).1 12 0 2 = nI (c + 1) := by
          rw [r1.2.1, if_pos rfl, nI_1]
        refine ⟨c, hlt, ?_, rfl, ?_, m2, ?_, ?_, fun g a hg ha => ?_, fun g a ha => ?_, fun g hg => ?_, fun a ha => ?_⟩
        · show nI c + 1 - 1 = nI c
          rw [nI_1]
          exact nI_p
        · rw [cnt]
          exact nI_lt (by omega) (by omega)
        · rw [r1.1 14 (by decide)]
          exact n5
        · rw [r1.2.1, if_neg (by decide), n3 12 (by decide)]
        · rw [r1.1 g hg]
          exact (n4 g a (by omega)).1
        · rw [r1.2.2]
          exact (n4 g a (by omega)).2
        · rw [r1.1 g (by omega)]
          exact n3 g (by omega)
        · rw [cnt]
          exact nI_lt (by omega) (by omega)
      · have q' : s_beg C c f v w = false := by simpa using q
        rw [if_neg q, n2 q' i n]
        right
        right
        refine ⟨rfl, fun a ha => ?_, _, rfl, fun a ha => ?_, ?_, hlt⟩
        · exact congrFun (n4 14 a (by omega)).1 0
        · exact ((wantW_at (R := R) (f := f) (v := v') (w := w') (v0 := t_cut R 8 f v') (v1 := t_cut R 9 f w') (c := c)).2.2.2.2.2.2.2 41 a (by omega)).1
        · exact (wantW_at (R := R) (f := f) (v := v') (w := w') (v0 := t_cut R 8 f v') (v1 := t_cut R 9 f w') (c := c)).1
    · have e20 : c = 20 := by omega
      rw [if_neg hlt, if_pos e20]
      exact Or.inr (Or.inl ⟨rfl, rfl, rfl⟩)
/-- an argument's type is tested on both sides -/
theorem passes_sim {C R : mm_M} {j : Nat} {n a t : Int32} (h : SC C R) (hj : j < 20) (hc : nI j < C.1 12 0 2) (ha : vp_in a 60) (la : ¬ C.1 17 j a.toNatClampNeg = 400) : ((s_passes C j n a t).1 = true → (s_passes C j n a t).2 = C ∧ t_goes R (nI j) n a t = (true, R)) ∧ ((s_passes C j n a t).1 = false → SE (s_passes C j n a t).2 (t_goes R (nI j) n a t).2 ∧ (t_goes R (nI j) n a t).1 = false) := by
  obtain ⟨-, ra, wa1, wa2, wa3⟩ := h.rd hj hc ha
  obtain ⟨a1, a2, a3⟩ := ra la
  obtain ⟨a4, a5, a6⟩ := wa3 la
  have T : ∀ {p : Prop}, (true : Bool) = false → p := fun z => absurd z (by decide)
  have F : ∀ {p : Prop}, (false : Bool) = true → p := fun z => absurd z (by decide)
  unfold s_passes t_goes
  rw [a1]
  by_cases q1 : C.1 17 j a.toNatClampNeg = t
  · rw [if_pos q1, if_pos q1]
    exact ⟨fun _ => ⟨rfl, rfl⟩, T⟩
  rw [if_neg q1, if_neg q1]
  by_cases q2 : C.1 17 j a.toNatClampNeg = 300
  · have q2' : ¬ ¬ C.1 17 j a.toNatClampNeg = 300 := fun z => z q2
    rw [if_neg q2', isI_eq]
    by_cases q3 : s_isInt t = true
    · have q3' : ¬ s_isInt t = false := by rw [q3]; decide
      have q4 : C.1 17 j a.toNatClampNeg = 300 ∧ s_isInt t = true := ⟨q2, q3⟩
      rw [if_neg q3', if_pos q4, fits_eq (isInt_iff.mp q3).2, a3 (a5 q2)]
      by_cases q5 : s_holds t (C.2.1 19 j a.toNatClampNeg) = true
      · rw [if_pos q5, if_pos q5]
        exact ⟨fun _ => ⟨rfl, rfl⟩, T⟩
      · rw [if_neg q5, if_neg q5]
        exact ⟨F, fun _ => ⟨fail_sim h hj hc (by decide), rfl⟩⟩
    · have q3f : s_isInt t = false := by simpa using q3
      have q4 : ¬ (C.1 17 j a.toNatClampNeg = 300 ∧ s_isInt t = true) := fun z => q3 z.2
      rw [if_pos q3f, if_neg q4]
      exact ⟨F, fun _ => ⟨fail_sim h hj hc (by decide), rfl⟩⟩
  · have q4 : ¬ (C.1 17 j a.toNatClampNeg = 300 ∧ t_isI t = true) := fun z => q2 z.1
    rw [if_pos q2, if_neg q4]
    exact ⟨F, fun _ => ⟨fail_sim h hj hc (by decide), rfl⟩⟩
/-- an argument of a call: given or not, a COUNT or not -/
theorem arg_sim {C R : mm_M} {j : Nat} {n k f x t : Int32} {g : Nat} (h : SC C R) (hj : j < 20) (hc : nI j < C.1 12 0 2) (hx : x = -1 ∨ (vp_in x 60 ∧ ¬ C.1 17 j x.toNatClampNeg = 400)) (h3 : R.1 g 0 f.toNatClampNeg = 300 → t = 300 ∧ ¬ x = -1 ∧ C.1 17 j x.toNatClampNeg = 300) (ht : ¬ x = -1 → t_typeIn R k (R.1 g 0 f.toNatClampNeg) = t) : ((s_passArg C j n x t).1 = true → (s_passArg C j n x t).2 = C ∧ t_lcA R (nI j) n k g f x = (true, R)) ∧ ((s_passArg C j n x t).1 = false → SE (s_passArg C j n x t).2 (t_lcA R (nI j) n k g f x).2 ∧ (t_lcA R (nI j) n k g f x).1 = false) := by
  have T : ∀ {p : Prop}, (true : Bool) = false → p := fun z => absurd z (by decide)
  have F : ∀ {p : Prop}, (false : Bool) = true → p := fun z => absurd z (by decide)
  unfold s_passArg t_lcA
  by_cases q1 : x = -1
  · rw [if_pos q1]
    have q3 : ¬ R.1 g 0 f.toNatClampNeg = 300 := fun z => (h3 z).2.1 q1
    have q0 : x < 0 := by rw [q1]; decide
    rw [if_neg q3, if_pos q0]
    exact ⟨fun _ => ⟨rfl, rfl⟩, T⟩
  · obtain ⟨x6, lx⟩ := hx.resolve_left q1
    rw [if_neg q1]
    obtain ⟨p1, p2⟩ := passes_sim (n := n) (t := t) h hj hc x6 lx
    by_cases q3 : R.1 g 0 f.toNatClampNeg = 300
    · rw [if_pos q3]
      have e : s_passes C j n x t = (true, C) := by
        unfold s_passes
        rw [if_pos ((h3 q3).2.2.trans (h3 q3).1.symm)]
      rw [e]
      exact ⟨fun _ => ⟨rfl, rfl⟩, T⟩
    · have q0 : ¬ x < 0 := fun z => by
        rw [vp_in_iff] at x6
        rw [Int32.lt_iff_toInt_lt, Int32.toInt_zero] at z
        omega
      rw [if_neg q3, if_neg q0, ht q1]
      by_cases q : (s_passes C j n x t).1 = true
      · obtain ⟨e1, e2⟩ := p1 q
        rw [if_pos q, e1, e2]
        exact ⟨fun _ => ⟨rfl, rfl⟩, T⟩
      · have q' : (s_passes C j n x t).1 = false := by simpa using q
        rw [if_neg q]
        exact ⟨F, fun _ => p2 q'⟩
