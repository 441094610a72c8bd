/-! one node is looked at: the two sides keep step -/
/-- an error was told on both sides -/
def SE (C R : mm_M) : Prop := R.1 30 0 1 = C.1 12 0 3 ∧ R.1 30 0 2 = C.1 12 0 4 ∧ ¬ C.1 12 0 3 = 0
def RS (j : Nat) (n : Int32) (r : Bool × mm_M) (R' : mm_M) : Prop := (r.1 = true → SC r.2 R' ∧ R'.1 30 0 1 = 0 ∧ ¬ r.2.1 17 j n.toNatClampNeg = 400) ∧ (r.1 = false → SE r.2 R')
theorem RS.t {C R : mm_M} {j : Nat} {n : Int32} (h : SC C R) (e : R.1 30 0 1 = 0) (hl : ¬ C.1 17 j n.toNatClampNeg = 400) : RS j n (true, C) R := ⟨fun _ => ⟨h, e, hl⟩, fun z => absurd z (by decide : ¬ (true : Bool) = false)⟩
theorem RS.f {C R : mm_M} {j : Nat} {n : Int32} (h : SE C R) : RS j n (false, C) R := ⟨fun z => absurd z (by decide : ¬ (false : Bool) = true), fun _ => h⟩
/-- what stands while one node of instance j is looked at -/
def ST (C R : mm_M) (j : Nat) (n : Int32) : Prop := SC C R ∧ j < 20 ∧ nI j < C.1 12 0 2 ∧ vp_in n 60 ∧ C.1 12 0 3 = 0 ∧ C.1 17 j n.toNatClampNeg = 400
theorem ST.re {C R : mm_M} {j : Nat} {n : Int32} (h : ST C R j n) : R.1 30 0 1 = 0 := h.1.2.2.1.trans h.2.2.2.2.1
theorem fail_sim {C R : mm_M} {j : Nat} {n e : Int32} (h : SC C R) (hj : j < 20) (hc : nI j < C.1 12 0 2) (he : ¬ e = 0) : SE (s_fail C (C.1 14 j 0) n e) (t_fail R e (nI j) n) := by
  refine ⟨rfl, ?_, he⟩
  have h1 := (h.2.2.2.2 j hj hc).1.1
  show 64 * R.1 41 0 (nI j).toNatClampNeg + n = 64 * C.1 14 j 0 + n
  rw [nI_clamp (by omega), h1]
theorem RS.fail {C R : mm_M} {j : Nat} {n e : Int32} (h : SC C R) (hj : j < 20) (hc : nI j < C.1 12 0 2) (he : ¬ e = 0) : RS j n (false, s_fail C (C.1 14 j 0) n e) (t_fail R e (nI j) n) := RS.f (fail_sim h hj hc he)
theorem u3 {α : Type} {g : Nat → Nat → Nat → α} {f i k a b c : Nat} {x : α} : mm_u g f i k x a b c = if a = f ∧ b = i ∧ c = k then x else g a b c := rfl
/-- found on the reference's side -/
theorem found_at {R : mm_M} {i n t s : Int32} {x : Int64} {m : Nat} (e : (i * 60 + n).toNatClampNeg = m) : (∀ a, (t_found R i n t s x).1 44 0 a = if a = m then 1 else R.1 44 0 a) ∧ (∀ a, (t_found R i n t s x).1 45 0 a = if a = m then s &&& 1 else R.1 45 0 a) ∧ (∀ a, (t_found R i n t s x).1 46 0 a = if a = m then t else R.1 46 0 a) ∧ (∀ a, (t_found R i n t s x).2.1 48 0 a = if a = m then (if s = 0 then 0 else x) else R.2.1 48 0 a) ∧ (∀ f, f ≠ 44 → f ≠ 45 → f ≠ 46 → (t_found R i n t s x).1 f = R.1 f) ∧ (∀ f, f ≠ 48 → (t_found R i n t s x).2.1 f = R.2.1 f) := by
  unfold t_found
  rw [e]
  refine ⟨fun a => ?_, fun a => ?_, fun a => ?_, fun a => ?_, fun f h1 h2 h3 => ?_, fun f h1 => ?_⟩
  · show mm_u (mm_u (mm_u R.1 44 0 m 1) 46 0 m t) 45 0 m (s &&& 1) 44 0 a = _
    rw [mm_u_row' (by decide), mm_u_row' (by decide), mm_u_own]
  · show mm_u (mm_u (mm_u R.1 44 0 m 1) 46 0 m t) 45 0 m (s &&& 1) 45 0 a = _
    rw [mm_u_own, mm_u_row' (by decide), mm_u_row' (by decide)]
  · show mm_u (mm_u (mm_u R.1 44 0 m 1) 46 0 m t) 45 0 m (s &&& 1) 46 0 a = _
    rw [mm_u_row' (by decide), mm_u_own, mm_u_row' (by decide)]
  · show mm_u R.2.1 48 0 m _ 48 0 a = _
    rw [mm_u_own]
  · show mm_u (mm_u (mm_u R.1 44 0 m 1) 46 0 m t) 45 0 m (s &&& 1) f = _
    rw [mm_u_row' h2, mm_u_row' h3, mm_u_row' h1]
  · show mm_u R.2.1 48 0 m _ f = _
    rw [mm_u_row' h1]
theorem found_sim {C R C' : mm_M} {j : Nat} {n t s s' : Int32} {x : Int64} (h : ST C R j n) (es : s' &&& 1 = s) (e0 : s' = 0 → s = 0)
    (c17 : ∀ a b, C'.1 17 a b = if a = j ∧ b = n.toNatClampNeg then t else C.1 17 a b) (c18 : ∀ a b, C'.1 18 a b = if a = j ∧ b = n.toNatClampNeg then s else C.1 18 a b) (c19 : ∀ a b, ¬ (a = j ∧ b = n.toNatClampNeg) → C'.2.1 19 a b = C.2.1 19 a b) (cx : s = 1 → C'.2.1 19 j n.toNatClampNeg = x)
    (co : ∀ f, f < 17 → C'.1 f = C.1 f) (c16 : C'.2.1 16 = C.2.1 16) (ht : TV t) (hs : s = 0 ∨ s = 1) (h3 : t = 300 → s = 1) (hh : s = 1 → s_holds t x = true) : RS j n (true, C') (t_found R (nI j) n t s' x) := by
  obtain ⟨hS, hj, hc, hn, hE, hu⟩ := h
  obtain ⟨f1, f2, f3, f4, f5, f6⟩ := found_at (R := R) (t := t) (s := s') (x := x) (ix_eq hj hn)
  refine RS.t (hS.upd (x := x) hj hc (clamp_i hn).2 c17 c18 c19 cx co c16 f1 (by rw [← es]; exact f2) f3 (fun a q => by rw [f4, if_neg q]) (fun z => ?_) (fun f hf => f5 f (by omega) (by omega) (by omega)) (f5 30 (by decide) (by decide) (by decide)) (f5 41 (by decide) (by decide) (by decide)) (f5 42 (by decide) (by decide) (by decide)) (f5 43 (by decide) (by decide) (by decide)) (f6 56 (by decide)) (f6 57 (by decide)) ht hs h3 hh) ?_ (by rw [c17, if_pos ⟨rfl, rfl⟩]; exact ht.n400)
  · rw [f4, if_pos rfl, if_neg]
    intro q
    rw [e0 q] at z
    exact absurd z (by decide)
  · rw [f5 30 (by decide) (by decide) (by decide)]
    exact hS.2.2.1.trans hE
theorem find_sim {C R : mm_M} {j : Nat} {n t : Int32} {x : Int64} (h : ST C R j n) (ht : TV t) (h3 : ¬ t = 300) : RS j n (true, s_find C j n t) (t_found R (nI j) n t 0 x) := by
  have hw := ((h.1.2.2.2.2 j h.2.1 h.2.2.1).2 _ (clamp_i h.2.2.2.1).2).2.1 h.2.2.2.2.2
  refine found_sim (s := 0) h (by decide) (fun _ => rfl) (fun a b => ?_) (fun a b => ?_) (fun a b q => rfl) (fun z => absurd z (by decide)) (fun f hf => mm_u_row' (by omega)) rfl ht (Or.inl rfl) (fun z => absurd z h3) (fun z => absurd z (by decide))
  · show mm_u C.1 17 j n.toNatClampNeg t 17 a b = _
    rw [u3]
    simp only [true_and]
  · show mm_u C.1 17 j n.toNatClampNeg t 18 a b = _
    rw [mm_u_row' (by decide)]
    split
    · rename_i q
      rw [q.1, q.2]
      exact hw
    · rfl
theorem findK_sim {C R : mm_M} {j : Nat} {n t : Int32} {x : Int64} (h : ST C R j n) (ht : TV t) (hh : s_holds t x = true) : RS j n (true, s_findK C j n t x) (t_found R (nI j) n t 1 x) := by
  refine found_sim (s := 1) h (by decide) (fun z => absurd z (by decide)) (fun a b => ?_) (fun a b => ?_) (fun a b q => ?_) (fun _ => ?_) (fun f hf => ?_) ?_ ht (Or.inr rfl) (fun _ => rfl) (fun _ => hh)
  · show mm_u (mm_u C.1 17 j n.toNatClampNeg t) 18 j n.toNatClampNeg 1 17 a b = _
    rw [mm_u_row' (by decide), u3]
    simp only [true_and]
  · show mm_u (mm_u C.1 17 j n.toNatClampNeg t) 18 j n.toNatClampNeg 1 18 a b = _
    rw [u3, mm_u_row' (by decide)]
    simp only [true_and]
  · show mm_u C.2.1 19 j n.toNatClampNeg x 19 a b = _
    rw [u3, if_neg fun z => q z.2]
  · show mm_u C.2.1 19 j n.toNatClampNeg x 19 j n.toNatClampNeg = x
    rw [mm_u_own, if_pos rfl]
  · show mm_u (mm_u C.1 17 j n.toNatClampNeg t) 18 j n.toNatClampNeg 1 f = _
    rw [mm_u_row' (by omega), mm_u_row' (by omega)]
  · show mm_u C.2.1 19 j n.toNatClampNeg x 16 = _
    rw [mm_u_row' (by decide)]
/-- a node that was looked at, on both sides -/
theorem SC.rd {C R : mm_M} {j : Nat} {a : Int32} (h : SC C R) (hj : j < 20) (hc : nI j < C.1 12 0 2) (ha : vp_in a 60) : (t_at R 44 (nI j) a = 0 ↔ C.1 17 j a.toNatClampNeg = 400) ∧ (¬ C.1 17 j a.toNatClampNeg = 400 → t_at R 46 (nI j) a = C.1 17 j a.toNatClampNeg ∧ t_at R 45 (nI j) a = C.1 18 j a.toNatClampNeg ∧ (C.1 18 j a.toNatClampNeg = 1 → t_val R (nI j) a = C.2.1 19 j a.toNatClampNeg)) ∧ WN C j a.toNatClampNeg := by
  obtain ⟨g1, g2⟩ := (h.2.2.2.2 j hj hc).2 _ (clamp_i ha).2
  unfold t_at t_val
  rw [ix_eq hj ha]
  exact ⟨g1.1, g1.2, g2⟩
theorem findS_sim {C R : mm_M} {j : Nat} {n o : Int32} (h : ST C R j n) (ho : vp_in o 60) (hl : ¬ C.1 17 j o.toNatClampNeg = 400) : RS j n (true, s_findS C j n o) (t_found R (nI j) n (t_at R 46 (nI j) o) (t_at R 45 (nI j) o) (t_val R (nI j) o)) := by
  obtain ⟨-, r1, w1, w2, w3⟩ := h.1.rd h.2.1 h.2.2.1 ho
  obtain ⟨e1, e2, e3⟩ := r1 hl
  obtain ⟨w4, w5, w6⟩ := w3 hl
  rw [e1, e2]
  have s01 : ∀ s : Int32, s = 0 ∨ s = 1 → s &&& 1 = s := fun s hs => by rcases hs with rfl | rfl <;> decide
  refine found_sim (s := C.1 18 j o.toNatClampNeg) h (s01 _ w2) (fun z => z) (fun a b => ?_) (fun a b => ?_) (fun a b q => ?_) (fun z => ?_) (fun f hf => ?_) ?_ w4 w2 w5 (fun z => by rw [e3 z]; exact w6 z)
  · show mm_u (mm_u C.1 17 j n.toNatClampNeg (C.1 17 j o.toNatClampNeg)) 18 j n.toNatClampNeg (C.1 18 j o.toNatClampNeg &&& 1) 17 a b = _
    rw [mm_u_row' (by decide), u3]
    simp only [true_and]
  · show mm_u (mm_u C.1 17 j n.toNatClampNeg (C.1 17 j o.toNatClampNeg)) 18 j n.toNatClampNeg (C.1 18 j o.toNatClampNeg &&& 1) 18 a b = _
    rw [u3, mm_u_row' (by decide), s01 _ w2]
    simp only [true_and]
  · show mm_u C.2.1 19 j n.toNatClampNeg (C.2.1 19 j o.toNatClampNeg) 19 a b = _
    rw [u3, if_neg fun z => q z.2]
  · show mm_u C.2.1 19 j n.toNatClampNeg (C.2.1 19 j o.toNatClampNeg) 19 j n.toNatClampNeg = _
    rw [mm_u_own, if_pos rfl, e3 z]
  · show mm_u (mm_u C.1 17 j n.toNatClampNeg (C.1 17 j o.toNatClampNeg)) 18 j n.toNatClampNeg (C.1 18 j o.toNatClampNeg &&& 1) f = _
    rw [mm_u_row' (by omega), mm_u_row' (by omega)]
  · show mm_u C.2.1 19 j n.toNatClampNeg (C.2.1 19 j o.toNatClampNeg) 16 = _
    rw [mm_u_row' (by decide)]
