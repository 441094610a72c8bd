/-! a node is looked at: what was looked at stays closed -/
theorem CL.find {C R R' : mm_M} {j : Nat} {n t : Int32} (h : CL C R) (hp : IP C) (hn : s_hasNode C n = true) (hu : C.1 17 j n.toNatClampNeg = 400) (r47 : K7 R R') (own : KX C R (s_find C j n t) R' → NC (s_find C j n t) R' j n.toNatClampNeg) : CL (s_find C j n t) R' ∧ KX C R (s_find C j n t) R' := by
  obtain ⟨w1, w2, w3, w4⟩ := find_w (C := C) (j := j) (n := n) (t := t)
  exact h.wr hp hn hu w1 (by rw [w4]) w2 (fun i k _ => by rw [w4]) (fun i k _ _ => by rw [show R'.1 47 = R.1 47 from r47]) (fun kx _ => own kx)
theorem CL.findK {C R R' : mm_M} {j : Nat} {n t : Int32} {x : Int64} (h : CL C R) (hp : IP C) (hn : s_hasNode C n = true) (hu : C.1 17 j n.toNatClampNeg = 400) (r47 : K7 R R') : CL (s_findK C j n t x) R' ∧ KX C R (s_findK C j n t x) R' := by
  obtain ⟨w1, w2, w3, w4, w5⟩ := findK_w (C := C) (j := j) (n := n) (t := t) (x := x)
  exact h.wr hp hn hu w1 w5 w2 w4 (fun i k _ _ => by rw [show R'.1 47 = R.1 47 from r47]) (fun _ z => by rw [w3] at z; exact absurd z (by decide))
theorem CL.findS {C R R' : mm_M} {j : Nat} {n o : Int32} (h : CL C R) (hp : IP C) (hn : s_hasNode C n = true) (hu : C.1 17 j n.toNatClampNeg = 400) (r47 : K7 R R') (own : KX C R (s_findS C j n o) R' → (C.1 18 j o.toNatClampNeg &&& 1) = 0 → NC (s_findS C j n o) R' j n.toNatClampNeg) : CL (s_findS C j n o) R' ∧ KX C R (s_findS C j n o) R' := by
  obtain ⟨w1, w2, w3, w4, w5, w6⟩ := findS_w (C := C) (j := j) (n := n) (o := o)
  exact h.wr hp hn hu w1 w6 w2 w5 (fun i k _ _ => by rw [show R'.1 47 = R.1 47 from r47]) (fun kx z => own kx (by rw [w4] at z; exact z))
theorem kt_of {k u : Int32} (hk : k = 2 ∨ k = 3 ∨ k = 4 ∨ k = 5 ∨ k = 6 ∨ k = 7 ∨ k = 8 ∨ k = 9 ∨ k = 10 ∨ k = 11 ∨ k = 12) (hT : TV u) (q0 : ¬ (u = 0 ∧ ¬ k = 12)) (q1 : ¬ (u = 300 ∧ s_isWrap k = true)) : KT k u := by
  rcases hT with hv | h3
  · rcases hk with rfl | rfl | rfl | rfl | rfl | rfl | rfl | rfl | rfl | rfl | rfl
    all_goals first
      | exact Or.inl rfl
      | exact Or.inr (Or.inl rfl)
      | exact Or.inr (Or.inr (Or.inl ⟨Or.inl ⟨hv, fun z => q0 ⟨z, by decide⟩⟩, by decide⟩))
      | exact Or.inr (Or.inr (Or.inr ⟨hv, fun z => q0 ⟨z, by decide⟩, by decide⟩))
  · have nw : ¬ s_isWrap k = true := fun z => q1 ⟨h3, z⟩
    rcases hk with rfl | rfl | rfl | rfl | rfl | rfl | rfl | rfl | rfl | rfl | rfl
    all_goals first
      | exact Or.inl rfl
      | exact Or.inr (Or.inl rfl)
      | exact Or.inr (Or.inr (Or.inl ⟨Or.inr h3, by decide⟩))
      | exact absurd (by decide) nw
/-- two that fit -/
theorem fits_ps {C : mm_M} {j : Nat} {n a b : Int32} (la : LPc C j a) (lb : LPc C j b) (h : (s_fits C j n a b).1 = true) : PS C j a (s_fitted C j a b) ∧ PS C j b (s_fitted C j a b) ∧ (s_fits C j n a b).2 = C := by
  unfold s_fits s_fitted at *
  by_cases q : C.1 17 j a.toNatClampNeg = 300
  · rw [if_pos q] at h ⊢
    obtain ⟨p1, p2⟩ := passes_ps la h
    rw [if_pos q]
    exact ⟨p1, ⟨lb, Or.inl rfl⟩, p2⟩
  · rw [if_neg q] at h ⊢
    obtain ⟨p1, p2⟩ := passes_ps lb h
    rw [if_neg q]
    exact ⟨⟨la, Or.inl rfl⟩, p1, p2⟩
theorem fitted_tv {C R : mm_M} {j : Nat} {a b : Int32} (h : SC C R) (hj : j < 20) (hc : nI j < C.1 12 0 2) (va : vp_in a 60) (vb : vp_in b 60) (la : LPc C j a) (lb : LPc C j b) : TV (s_fitted C j a b) := by
  obtain ⟨-, -, -, -, wa⟩ := h.rd hj hc va
  obtain ⟨-, -, -, -, wb⟩ := h.rd hj hc vb
  unfold s_fitted
  split
  · exact (wb lb).1
  · exact (wa la).1
theorem seq_t {r : Bool × mm_M} {k : mm_M → Bool × mm_M} (h : (s_seq r k).1 = true) : r.1 = true ∧ s_seq r k = k r.2 := by
  unfold s_seq at *
  by_cases q : r.1 = true
  · rw [if_pos q]
    exact ⟨q, rfl⟩
  · rw [if_neg q] at h
    exact absurd h (by decide : ¬ (false : Bool) = true)
theorem par_cl {C R R' : mm_M} {j : Nat} {n : Int32} (h : CL C R) (hp : IP C) (hn : s_hasNode C n = true) (hu : C.1 17 j n.toNatClampNeg = 400) (r47 : K7 R R') (ek : C.1 2 0 n.toNatClampNeg = 1) (ht : (s_lookPar C j n).1 = true) : CL (s_lookPar C j n).2 R' ∧ KX C R (s_lookPar C j n).2 R' := by
  unfold s_lookPar at ht ⊢
  by_cases q1 : C.1 15 j (C.1 3 0 n.toNatClampNeg).toNatClampNeg = 400
  · rw [if_pos q1] at ht
    exact absurd ht (by decide : ¬ (false : Bool) = true)
  rw [if_neg q1]
  by_cases q2 : C.1 15 j (C.1 3 0 n.toNatClampNeg).toNatClampNeg = 300
  · rw [if_pos q2]
    exact h.findK hp hn hu r47
  · rw [if_neg q2]
    refine h.find hp hn hu r47 fun kx => Or.inl ?_
    obtain ⟨w1, w2, w3, w4⟩ := find_w (C := C) (j := j) (n := n) (t := C.1 15 j (C.1 3 0 n.toNatClampNeg).toNatClampNeg)
    unfold N1
    rw [w3, w1 2 (by decide), w1 3 (by decide), w1 15 (by decide)]
    exact ⟨ek, rfl, q2⟩
theorem cast_cl {C R R' : mm_M} {j : Nat} {n a : Int32} (h : CL C R) (hp : IP C) (hn : s_hasNode C n = true) (hu : C.1 17 j n.toNatClampNeg = 400) (hj : j < 20) (hc : nI j < C.1 12 0 2) (r47 : K7 R R') (ek : C.1 2 0 n.toNatClampNeg = 14) (ea : C.1 3 0 n.toNatClampNeg = a) (hcast : s_isCast (C.1 4 0 n.toNatClampNeg) = true) (la : LPc C j a) (ht : (s_ltB C j n a).1 = true) : CL (s_ltB C j n a).2 R' ∧ KX C R (s_ltB C j n a).2 R' := by
  unfold s_ltB s_ltC at ht ⊢
  generalize ety : s_typeBy C j (C.1 4 0 n.toNatClampNeg) = t at *
  by_cases q1 : C.1 17 j a.toNatClampNeg = 0
  · rw [if_pos q1] at ht
    exact absurd ht (by decide : ¬ (false : Bool) = true)
  rw [if_neg q1] at ht ⊢
  by_cases q2 : t = 500
  · rw [if_pos q2] at ht
    exact absurd ht (by decide : ¬ (false : Bool) = true)
  rw [if_neg q2] at ht ⊢
  by_cases q3 : C.1 18 j a.toNatClampNeg = 0
  · rw [if_pos q3]
    refine h.find hp hn hu r47 fun kx => Or.inr (Or.inr (Or.inl ?_))
    obtain ⟨w1, w2, w3, w4⟩ := find_w (C := C) (j := j) (n := n) (t := t)
    unfold N14
    rw [w3, w1 2 (by decide), w1 3 (by decide), ea]
    exact ⟨ek, (la.kx kx hj hc).1, by rw [← ety]; exact (tb_cast hcast (by rw [ety]; exact q2)).2⟩
  rw [if_neg q3] at ht ⊢
  by_cases q4 : s_holds t (C.2.1 19 j a.toNatClampNeg) = true
  · rw [if_pos q4]
    exact h.findK hp hn hu r47
  · rw [if_neg q4] at ht
    exact absurd ht (by decide : ¬ (false : Bool) = true)
theorem width_cl {C R R' : mm_M} {j : Nat} {n a : Int32} (h : CL C R) (hp : IP C) (hn : s_hasNode C n = true) (hu : C.1 17 j n.toNatClampNeg = 400) (r47 : K7 R R') (ht : (s_lwB C j n a).1 = true) : CL (s_lwB C j n a).2 R' ∧ KX C R (s_lwB C j n a).2 R' := by
  unfold s_lwB at ht ⊢
  by_cases q1 : s_isInt (C.1 17 j a.toNatClampNeg) = true
  · rw [if_pos q1]
    exact h.findK hp hn hu r47
  · rw [if_neg q1] at ht
    exact absurd ht (by decide : ¬ (false : Bool) = true)
theorem pair_cl {C R R' : mm_M} {j : Nat} {n k a b : Int32} (hS : SC C R) (h : CL C R) (hp : IP C) (hn : s_hasNode C n = true) (hu : C.1 17 j n.toNatClampNeg = 400) (hj : j < 20) (hc : nI j < C.1 12 0 2) (r47 : K7 R R') (ek : C.1 2 0 n.toNatClampNeg = k) (ea : C.1 3 0 n.toNatClampNeg = a) (eb : C.1 4 0 n.toNatClampNeg = b) (hk : PK k) (hk2 : k = 2 ∨ k = 3 ∨ k = 4 ∨ k = 5 ∨ k = 6 ∨ k = 7 ∨ k = 8 ∨ k = 9 ∨ k = 10 ∨ k = 11 ∨ k = 12) (va : vp_in a 60) (vb : vp_in b 60) (la : LPc C j a) (lb : LPc C j b) (ht : (s_seq (s_fits C j n a b) fun M3 => s_lpC M3 j n k a b).1 = true) : CL (s_seq (s_fits C j n a b) fun M3 => s_lpC M3 j n k a b).2 R' ∧ KX C R (s_seq (s_fits C j n a b) fun M3 => s_lpC M3 j n k a b).2 R' := by
  obtain ⟨t1, t2⟩ := seq_t ht
  obtain ⟨p1, p2, p3⟩ := fits_ps la lb t1
  have tv := fitted_tv hS hj hc va vb la lb
  rw [t2, p3] at ht ⊢
  unfold s_lpC s_lpE at ht ⊢
  generalize s_fitted C j a b = u at *
  by_cases q0 : u = 0 ∧ ¬ k = 12
  · rw [if_pos q0] at ht
    exact absurd ht (by decide : ¬ (false : Bool) = true)
  rw [if_neg q0] at ht ⊢
  by_cases q1 : u = 300 ∧ s_isWrap k = true
  · rw [if_pos q1] at ht
    exact absurd ht (by decide : ¬ (false : Bool) = true)
  rw [if_neg q1] at ht ⊢
  have own : ∀ X : mm_M, X = s_find C j n (if s_isComp k = true then 0 else u) → KX C R X R' → NC X R' j n.toNatClampNeg := fun X eX kx => by
    obtain ⟨w1, w2, w3, w4⟩ := find_w (C := C) (j := j) (n := n) (t := if s_isComp k = true then 0 else u)
    rw [← eX] at w1 w2 w3 w4
    unfold NC N2
    rw [w1 2 (by decide), w1 3 (by decide), w1 4 (by decide), w3, ek, ea, eb]
    exact Or.inr (Or.inr (Or.inr (Or.inr ⟨hk, u, p1.kx kx hj hc, p2.kx kx hj hc, tv, kt_of hk2 tv q0 q1, rfl⟩)))
  by_cases k1 : C.1 18 j a.toNatClampNeg = 0
  · rw [if_pos k1]
    exact h.find hp hn hu r47 (own _ rfl)
  rw [if_neg k1] at ht ⊢
  by_cases k2 : C.1 18 j b.toNatClampNeg = 0
  · rw [if_pos k2]
    exact h.find hp hn hu r47 (own _ rfl)
  rw [if_neg k2] at ht ⊢
  by_cases q : s_isTrap (s_work k u (C.2.1 19 j a.toNatClampNeg) (C.2.1 19 j b.toNatClampNeg)) = true
  · rw [if_pos q] at ht
    exact absurd ht (by decide : ¬ (false : Bool) = true)
  rw [if_neg q]
  exact h.findK hp hn hu r47
theorem if_cl {C R R' : mm_M} {j : Nat} {n a b c : Int32} (hS : SC C R) (h : CL C R) (hp : IP C) (hn : s_hasNode C n = true) (hu : C.1 17 j n.toNatClampNeg = 400) (hj : j < 20) (hc : nI j < C.1 12 0 2) (r47 : K7 R R') (ek : C.1 2 0 n.toNatClampNeg = 13) (ea : C.1 3 0 n.toNatClampNeg = a) (eb : C.1 4 0 n.toNatClampNeg = b) (eC : C.1 5 0 n.toNatClampNeg = c) (vb : vp_in b 60) (vc : vp_in c 60) (la : LPc C j a) (l1 : C.1 18 j a.toNatClampNeg = 0 → LPc C j b ∧ LPc C j c) (l2 : ¬ C.1 18 j a.toNatClampNeg = 0 → LPc C j (if C.2.1 19 j a.toNatClampNeg = 0 then c else b)) (ht : (s_liB (fun M _ => (true, M)) C j n a b c).1 = true) : CL (s_liB (fun M _ => (true, M)) C j n a b c).2 R' ∧ KX C R (s_liB (fun M _ => (true, M)) C j n a b c).2 R' := by
  unfold s_liB at ht ⊢
  by_cases q0 : ¬ C.1 17 j a.toNatClampNeg = 0
  · rw [if_pos q0] at ht
    exact absurd ht (by decide : ¬ (false : Bool) = true)
  have q0 := Classical.not_not.mp q0
  rw [if_neg (fun z => z q0)] at ht ⊢
  by_cases q1 : C.1 18 j a.toNatClampNeg = 0
  · rw [if_neg (fun z => z q1)] at ht ⊢
    have ht : (s_seq (s_fits C j n b c) fun M3 => s_liC M3 j n b c).1 = true := ht
    show CL (s_seq (s_fits C j n b c) fun M3 => s_liC M3 j n b c).2 R' ∧ KX C R (s_seq (s_fits C j n b c) fun M3 => s_liC M3 j n b c).2 R'
    obtain ⟨lb, lc⟩ := l1 q1
    obtain ⟨t1, t2⟩ := seq_t ht
    obtain ⟨p1, p2, p3⟩ := fits_ps lb lc t1
    rw [t2, p3] at ht ⊢
    unfold s_liC at ht ⊢
    generalize s_fitted C j b c = u at *
    by_cases q3 : u = 300
    · rw [if_pos q3] at ht
      exact absurd ht (by decide : ¬ (false : Bool) = true)
    rw [if_neg q3]
    refine h.find hp hn hu r47 fun kx => Or.inr (Or.inl ?_)
    obtain ⟨w1, w2, w3, w4⟩ := find_w (C := C) (j := j) (n := n) (t := u)
    obtain ⟨k1, k2, k3, k4⟩ := la.kx kx hj hc
    unfold N13
    rw [w3, w1 2 (by decide), w1 3 (by decide), w1 4 (by decide), w1 5 (by decide), ea, eb, eC, k2, k3]
    exact ⟨ek, k1, q0, Or.inl ⟨q1, p1.kx kx hj hc, p2.kx kx hj hc⟩⟩
  · rw [if_pos q1] at ht ⊢
    have lo := l2 q1
    show CL (s_findS C j n (if C.2.1 19 j a.toNatClampNeg = 0 then c else b)) R' ∧ KX C R (s_findS C j n (if C.2.1 19 j a.toNatClampNeg = 0 then c else b)) R'
    have vo : vp_in (if C.2.1 19 j a.toNatClampNeg = 0 then c else b) 60 := by
      split
      · exact vc
      · exact vb
    generalize eo : (if C.2.1 19 j a.toNatClampNeg = 0 then c else b) = o at *
    refine h.findS hp hn hu r47 fun kx z => Or.inr (Or.inl ?_)
    obtain ⟨w1, w2, w3, w4, w5, w6⟩ := findS_w (C := C) (j := j) (n := n) (o := o)
    obtain ⟨k1, k2, k3, k4⟩ := la.kx kx hj hc
    obtain ⟨o1, o2, o3, o4⟩ := lo.kx kx hj hc
    obtain ⟨-, -, -, ow, -⟩ := hS.rd hj hc vo
    have z0 : C.1 18 j o.toNatClampNeg = 0 := by
      rcases ow with y | y
      · exact y
      · rw [y] at z
        exact absurd z (by decide)
    unfold N13
    rw [w3, w1 2 (by decide), w1 3 (by decide), w1 4 (by decide), w1 5 (by decide), ea, eb, eC, k2, k3, k4]
    exact ⟨ek, k1, q0, Or.inr ⟨q1, o, eo.symm, o1, o2, by rw [o3]; exact z0⟩⟩
