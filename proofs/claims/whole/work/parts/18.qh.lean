/-! the reference's turns are the class's look -/
def unl (C : mm_M) (j : Nat) : Nat → Nat
  | 0 => 0
  | k + 1 => unl C j k + (if C.1 17 j k = 400 then 1 else 0)
theorem unl_le {C : mm_M} {j : Nat} : ∀ k, unl C j k ≤ k
  | 0 => Nat.le_refl _
  | k + 1 => by
    have := unl_le (C := C) (j := j) k
    unfold unl
    split <;> omega
theorem unl_mono {C C1 : mm_M} {j : Nat} (h : ∀ k, ¬ C.1 17 j k = 400 → C1.1 17 j k = C.1 17 j k) : ∀ k, unl C1 j k ≤ unl C j k
  | 0 => Nat.le_refl _
  | k + 1 => by
    have := unl_mono h k
    unfold unl
    by_cases q : C.1 17 j k = 400
    · rw [if_pos q]
      split <;> omega
    · rw [if_neg q, if_neg (by rw [h k q]; exact q)]
      omega
theorem unl_lt {C C1 : mm_M} {j d : Nat} (h : ∀ k, ¬ C.1 17 j k = 400 → C1.1 17 j k = C.1 17 j k) (h1 : C.1 17 j d = 400) (h2 : ¬ C1.1 17 j d = 400) : ∀ k, d < k → unl C1 j k < unl C j k
  | 0, hd => absurd hd (Nat.not_lt_zero d)
  | k + 1, hd => by
    unfold unl
    by_cases e : d = k
    · subst e
      have := unl_mono h d
      rw [if_pos h1, if_neg h2]
      omega
    · have := unl_lt h h1 h2 k (by omega)
      by_cases q : C.1 17 j k = 400
      · rw [if_pos q]
        split <;> omega
      · rw [if_neg q, if_neg (by rw [h k q]; exact q)]
        omega
/-- the types of a ready pair have a size -/
theorem te_ok {C R : mm_M} {j : Nat} {n : Int32} (hS : SC C R) (hq : JQ C j) (hn : s_hasNode C n = true) (hr : ¬ 0 ≤ (t_needs R (nI j) n).1) : TE (nI j) (n, (t_needs R (nI j) n).2) := by
  intro _ hk
  have hp := hq.1
  have hj := hq.2.2.2
  have hc := hq.2.2.1
  have hnd := hp.2.2.1 n hn
  have kn : KO R (t_needs R (nI j) n).2 := needs_keep
  have e2 : (t_needs R (nI j) n).2.1 2 = C.1 2 := (kn.1.2.1 2 (by decide)).trans (hS.1 2 (by decide))
  have hk' : ¬ C.1 2 0 n.toNatClampNeg = 0 ∧ ¬ C.1 2 0 n.toNatClampNeg = 1 ∧ ¬ C.1 2 0 n.toNatClampNeg = 13 ∧ ¬ C.1 2 0 n.toNatClampNeg = 14 ∧ ¬ C.1 2 0 n.toNatClampNeg = 15 ∧ ¬ C.1 2 0 n.toNatClampNeg = 16 := by
    have hk2 := hk
    simp only [e2] at hk2
    exact hk2
  obtain ⟨z0, z1, z13, z14, z15, z16⟩ := hk'
  obtain ⟨oa, ob⟩ := hnd.2.2.2.2.2.2.2.2 z0 z1 z13 z14 z15 z16
  have N : t_needs R (nI j) n = (t_nd R (nI j) (C.1 3 0 n.toNatClampNeg) (C.1 4 0 n.toNatClampNeg), R) := by
    unfold t_needs
    rw [hS.1 2 (by decide), hS.1 3 (by decide), hS.1 4 (by decide), hS.1 5 (by decide), if_neg z0, if_neg z1, if_neg z13, if_neg z14, if_neg z15, if_neg z16]
  rw [N] at hr ⊢
  obtain ⟨la, lb⟩ := nd_l hS hj hc (hp.in60 oa.1) (hp.in60 ob.1) hr
  show ¬ t_sz (t_at R 46 (nI j) (R.1 3 0 n.toNatClampNeg)) = 0 ∧ ¬ t_sz (t_at R 46 (nI j) (R.1 4 0 n.toNatClampNeg)) = 0
  rw [hS.1 3 (by decide), hS.1 4 (by decide)]
  obtain ⟨-, ra, -, -, wa⟩ := hS.rd hj hc (hp.in60 oa.1)
  obtain ⟨-, rb, -, -, wb⟩ := hS.rd hj hc (hp.in60 ob.1)
  rw [(ra la).1, (rb lb).1]
  exact ⟨(wa la).1.sz, (wb lb).1.sz⟩
theorem turns_err {j : Nat} {root : Int32} {R : mm_M} (h : ¬ R.1 30 0 1 = 0) : ∀ k, t_turns (nI j) root k R = R ∧ TB (nI j) root k R
  | 0 => ⟨rfl, trivial⟩
  | k + 1 => ⟨if_neg fun z => h z.2, fun _ z => absurd z h⟩
theorem turns_sim {j : Nat} {root : Int32} : ∀ (k : Nat) (C R : mm_M), SC C R → JQ C j → C.1 12 0 3 = 0 → s_hasNode C root = true → unl C j 60 < k → RS j root (s_look 8 j C root) (t_turns (nI j) root k R) ∧ TB (nI j) root k R
  | 0, _, _, _, _, _, _, hu => absurd hu (Nat.not_lt_zero _)
  | k + 1, C, R, hS, hq, hE, hn, hun => by
    have hj := hq.2.2.2
    have hc := hq.2.2.1
    have hre : R.1 30 0 1 = 0 := hS.2.2.1.trans hE
    have rd := (hS.rd hj hc (hq.1.in60 hn)).1
    by_cases q : C.1 17 j root.toNatClampNeg = 400
    · have q1 : t_at R 44 (nI j) root = 0 := rd.mpr q
      have hl : lv C root ≤ ((8 : Nat) : Int) := (hq.1.2.2.1 root hn).2.1
      obtain ⟨i1, i2, i3, i4, i5, i6⟩ := desc_eq 8 C R root hS hq hE hn q hl
      have eT : t_turns (nI j) root (k + 1) R = t_turns (nI j) root k (t_turnE (nI j) (t_desc (nI j) 8 R root)) := if_pos ⟨q1, hre⟩
      have eDD : t_desc (nI j) 8 R root = ((t_desc (nI j) 8 R root).1, (t_needs R (nI j) (t_desc (nI j) 8 R root).1).2) := Prod.ext rfl i5
      have tb : TB (nI j) root (k + 1) R = (t_at R 44 (nI j) root = 0 → R.1 30 0 1 = 0 → TE (nI j) (t_desc (nI j) 8 R root) ∧ TB (nI j) root k (t_turnE (nI j) (t_desc (nI j) 8 R root))) := rfl
      rw [eT, tb, i6]
      rw [eDD]
      generalize (t_desc (nI j) 8 R root).1 = d at *
      obtain ⟨cnt, c1, c2⟩ := hq.cnt
      have rs := one_sim ⟨hS, hj, hc, hq.1.in60 i1, hE, i2⟩ hq.1 i1 c2 c1 i4
      have te := te_ok hS hq i1 i4
      have kn : KN d j C (s_one C j d).2 := by
        rw [← ready_eq (L := 8) hS hq i1 i4]
        exact (lookK_ex (look_ex 8) hS hq hE i1 i2 (by omega)).1
      generalize t_turnE (nI j) (d, (t_needs R (nI j) d).2) = R1 at *
      by_cases t : (s_one C j d).1 = true
      · obtain ⟨s1, s2, s3⟩ := rs.1 t
        have lt := unl_lt (fun k hk => (kn.2.2.1 k hk).1) i2 s3 60 (clamp_i (hq.1.in60 i1)).2
        obtain ⟨r1, r2⟩ := turns_sim (root := root) k (s_one C j d).2 R1 s1 (kn.2.1 hq) (s1.2.2.1.symm.trans s2) ((kp_hasNode kn.1 root).trans hn) (by omega)
        have es : s_seq (s_one C j d) (fun C1 => s_look 8 j C1 root) = s_look 8 j (s_one C j d).2 root := if_pos t
        rw [es]
        exact ⟨r1, fun _ _ => ⟨te, r2⟩⟩
      · have t' : (s_one C j d).1 = false := by simpa using t
        have se := rs.2 t'
        obtain ⟨e1, e2⟩ := turns_err (j := j) (root := root) (R := R1) (fun z => se.2.2 (se.1.symm.trans z)) k
        have es : s_seq (s_one C j d) (fun C1 => s_look 8 j C1 root) = (false, (s_one C j d).2) := if_neg t
        rw [es, e1]
        exact ⟨RS.f se, fun _ _ => ⟨te, e2⟩⟩
    · have q1 : ¬ t_at R 44 (nI j) root = 0 := fun z => q (rd.mp z)
      have eT : t_turns (nI j) root (k + 1) R = R := if_neg fun z => q1 z.1
      rw [eT, lk_was q]
      exact ⟨RS.t hS hre q, fun z => absurd z q1⟩
