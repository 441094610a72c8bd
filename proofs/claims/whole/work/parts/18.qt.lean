/-! what a run of the class needs -/
theorem was_iff {C : mm_M} {j : Nat} {a : Int32} : s_was C j a = true ↔ LPc C j a := by
  unfold s_was LPc
  simp
/-- the face of an instance: which parameters are there -/
theorem SC.face {C R : mm_M} {m : Nat} (h : SC C R) (hp : IP C) (hm : m < 20) (hc : nI m < C.1 12 0 2) : (C.1 15 m 0 = 400 ↔ C.1 8 0 (C.1 14 m 0).toNatClampNeg = 400) ∧ (C.1 15 m 1 = 400 ↔ C.1 9 0 (C.1 14 m 0).toNatClampNeg = 400) ∧ (C.1 15 m 0 = 300 ↔ C.1 8 0 (C.1 14 m 0).toNatClampNeg = 300) ∧ (C.1 15 m 1 = 300 ↔ C.1 9 0 (C.1 14 m 0).toNatClampNeg = 300) ∧ (¬ C.1 15 m 0 = 300 → ¬ C.1 15 m 0 = 400 → VT (C.1 15 m 0)) ∧ (¬ C.1 15 m 1 = 300 → ¬ C.1 15 m 1 = 400 → VT (C.1 15 m 1)) := by
  obtain ⟨f1, f2, f3, f4, f5, f6, f7, f8, f9, f10, -⟩ := (h.2.2.2.2 m hm hc).1
  obtain ⟨-, p8, p9, -⟩ := hp.2.2.2 _ f2
  obtain ⟨a1, a2, a3⟩ := tb_par (C := C) (j := m) p8 (by rw [← f3]; exact f8)
  obtain ⟨b1, b2, b3⟩ := tb_par (C := C) (j := m) p9 (by rw [← f4]; exact f9)
  rw [← f3] at a1 a2 a3
  rw [← f4] at b1 b2 b3
  exact ⟨a1, b1, a2, b2, fun x y => a3 (fun z => y (a1.mpr z)) (fun z => x (a2.mpr z)), fun x y => b3 (fun z => y (b1.mpr z)) (fun z => x (b2.mpr z))⟩
theorem isRun_iff {C : mm_M} {m : Nat} {k : Int32} : s_isRun C m k = true ↔ ¬ C.1 15 m k.toNatClampNeg = 300 ∧ ¬ C.1 15 m k.toNatClampNeg = 400 := by
  unfold s_isRun
  simp
theorem CB.rm {C R : mm_M} (h : CB C R) (hp : IP C) (hS : SC C R) : RM C := by
  intro j hj hc
  have hf := (hS.2.2.2.2 j hj hc).1.2.1
  have hb := (hp.2.2.2 _ hf).1
  refine ⟨⟨hb, was_iff.mpr (h.2 j hj hc).1⟩, fun n hn h18 => ?_⟩
  obtain ⟨hnN, hnL⟩ := hn
  have n6 := hp.in60 hnN
  have hnd := hp.2.2.1 n hnN
  obtain ⟨-, nc⟩ := h.1 j hj hc _ (clamp_i n6).2 (was_iff.mp hnL)
  have nc := nc h18
  have rn : ∀ {a : Int32}, okA C n a → LPc C j a → RN C j a := fun o l => ⟨o.1, was_iff.mpr l⟩
  generalize hk : C.1 2 0 n.toNatClampNeg = k at *
  rcases nc with ⟨q, x⟩ | ⟨q, x⟩ | ⟨q, x⟩ | ⟨q, x⟩ | ⟨q, x⟩
  · rw [hk] at q
    subst q
    exact ⟨by decide, by decide, fun z => absurd z (by decide), fun z => absurd z (by decide), fun z => absurd z (by decide), fun z => absurd rfl z⟩
  · rw [hk] at q
    subst q
    obtain ⟨oa, ob, oc⟩ := hnd.2.2.2.2.1 rfl
    obtain ⟨x1, x2, x3⟩ := x
    refine ⟨by decide, by decide, fun _ => ⟨rn oa x1, fun z => ?_, fun z => ?_⟩, fun z => absurd z (by decide), fun z => absurd z (by decide), fun _ z => absurd rfl z⟩
    · rcases x3 with ⟨y1, y2, y3⟩ | ⟨y1, -⟩
      · exact ⟨rn ob y2.1, rn oc y3.1⟩
      · exact absurd z y1
    · rcases x3 with ⟨y1, -⟩ | ⟨-, o, y1, y2, -⟩
      · exact absurd y1 z
      · rw [← y1]
        refine rn ?_ y2
        rw [y1]
        split
        · exact oc
        · exact ob
  · rw [hk] at q
    subst q
    exact ⟨by decide, by decide, fun z => absurd z (by decide), fun _ => rn (hnd.2.2.2.2.2.1 rfl).1 x.1, fun z => absurd z (by decide), fun _ _ z => absurd rfl z⟩
  · rw [hk] at q
    subst q
    obtain ⟨f8, ob, oc⟩ := hnd.2.2.2.2.2.2.1 rfl
    obtain ⟨m, m1, m2, m3, m4, m5, m6, m7, m8, m9, m10⟩ := x
    obtain ⟨a1, a2, -⟩ := hS.face hp m1 m2
    rw [m5] at a1 a2
    refine ⟨by decide, by decide, fun z => absurd z (by decide), fun z => absurd z (by decide), fun _ => ⟨m, m1, m3, m2, fun z => ?_, fun z => ?_⟩, fun _ _ _ z => absurd rfl z⟩
    · have nb : ¬ C.1 4 0 n.toNatClampNeg = -1 := fun y => (isRun_iff.mp z).2 (a1.mpr (m6.mp y))
      exact rn (ob.resolve_left nb) (m8 nb).1
    · have nb : ¬ C.1 5 0 n.toNatClampNeg = -1 := fun y => (isRun_iff.mp z).2 (a2.mpr (m7.mp y))
      exact rn (oc.resolve_left nb) (m9 nb).1
  · rw [hk] at q
    obtain ⟨q0, q1, q13, q14, q15, q16⟩ := q
    obtain ⟨oa, ob⟩ := hnd.2.2.2.2.2.2.2.2 q0 q1 q13 q14 q15 q16
    obtain ⟨t, x1, x2, -⟩ := x
    exact ⟨q0, q16, fun z => absurd z q13, fun z => absurd z q14, fun z => absurd z q15, fun _ _ _ _ => ⟨rn oa x1.1, rn ob x2.1⟩⟩
