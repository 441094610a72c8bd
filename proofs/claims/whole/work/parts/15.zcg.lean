/-! rows for an evaluation that goes along the road taken and no other -/
theorem pr_f {p q : Prop} (h : ¬ p) : (p → q) = True := eq_true fun z => absurd z h
theorem lf_0 {v : mm_V} {l : List (Option mm_V)} {k : mm_V → Prop} : mm_lV (some v :: l) ((0 : Fin 4) : Nat) k = k v := rfl
theorem lf_1 {a : Option mm_V} {v : mm_V} {l : List (Option mm_V)} {k : mm_V → Prop} : mm_lV (a :: some v :: l) ((1 : Fin 4) : Nat) k = k v := rfl
theorem lf_2 {a b : Option mm_V} {v : mm_V} {l : List (Option mm_V)} {k : mm_V → Prop} : mm_lV (a :: b :: some v :: l) ((2 : Fin 4) : Nat) k = k v := rfl
theorem lf_3 {a b c : Option mm_V} {v : mm_V} {l : List (Option mm_V)} {k : mm_V → Prop} : mm_lV (a :: b :: c :: some v :: l) ((3 : Fin 4) : Nat) k = k v := rfl
section MMCG
variable {g : mm_F} {Γ : mm_G} {Q : Option mm_V → mm_M → Prop} {K : mm_K0} {len pc : Nat} {ls : List (Option mm_V)} {st : List mm_V} {M : mm_M} {u w : Nat}
theorem xs_cT {hds : Nat → Bool} {P : Nat → Nat → mm_X} {b : Nat} {d : Prop} (h : hds pc = true) : mm_cut (mm_cutI hds P b pc) ls st M u w d = ∃ k, k < b ∧ P k pc ls st M u w := by
  unfold mm_cutI
  rw [if_pos h]
  rfl
theorem xs_cF {hds : Nat → Bool} {P : Nat → Nat → mm_X} {b : Nat} {d : Prop} (h : ¬ hds pc = true) : mm_cut (mm_cutI hds P b pc) ls st M u w d = d := by
  unfold mm_cutI
  rw [if_neg h]
  rfl
variable {own : Nat} {rest : Nat × Option FieldType × Bool × Nat × Nat × Option (Nat × (Nat → Int32)) × Bool}
theorem xg_f {ix ci fk : Nat} (h : mm_FL own ix = some (ci, fk)) : mm_i (own, rest) Γ Q K (.getfield ix) len pc ls st M u w = (len = 3 ∧ mm_pR st fun f i r => mm_is M f i ci ∧ K (pc + 3) ls (mm_get M (mm_ft ci fk) f i fk :: r) M u w) := by
  rw [xi_getfield]
  show (len = 3 ∧ mm_pR st fun f i r => mm_o (mm_FL own ix) fun q => _) = _
  rw [h]
  rfl
theorem xp_f {ix ci fk : Nat} (h : mm_FL own ix = some (ci, fk)) : mm_i (own, rest) Γ Q K (.putfield ix) len pc ls st M u w = (len = 3 ∧ mm_p1 st fun v r => mm_pR r fun f i r => mm_is M f i ci ∧ mm_pf (own, rest) ci fk ∧ mm_put M (mm_ft ci fk) f i fk v fun M' => K (pc + 3) ls r M' u w) := by
  rw [xi_putfield]
  show (len = 3 ∧ mm_o (mm_FL own ix) fun q => _) = _
  rw [h]
  rfl
theorem xl_f {ix : Nat} {v : Int64} (h : mm_CL own ix = some v) : mm_i (own, rest) Γ Q K (.ldc2_w ix) len pc ls st M u w = (len = 3 ∧ K (pc + 3) ls (.inr (.inl v) :: st) M u w) := by
  rw [xi_ldc2_w]
  show (len = 3 ∧ mm_o (mm_CL own ix) fun q => _) = _
  rw [h]
  rfl
theorem xv_f {ix id n : Nat} (h : mm_MT own ix = some (id, n, 1)) : mm_i (own, rest) Γ Q K (.invokevirtual ix) len pc ls st M u w = (len = 3 ∧ mm_pN n [] st fun As r => mm_pR r fun f i r => mm_is M f i (mm_mk id) ∧ mm_call (own, rest) Γ K id (.inr (.inr (some (f, i))) :: As) r pc ls M u w) := by
  rw [xi_invokevirtual]
  show (len = 3 ∧ mm_o (mm_MT own ix) fun q => _) = _
  rw [h]
  show (len = 3 ∧ (1 = 1 ∧ _)) = _
  rw [eq_self, true_and]
theorem xc_f {ix id n : Nat} (h : mm_MT own ix = some (id, n, 0)) (hj : mm_JM own ix = none) : mm_i (own, rest) Γ Q K (.invokestatic ix) len pc ls st M u w = (len = 3 ∧ mm_pN n [] st fun As r => mm_call (own, rest) Γ K id As r pc ls M u w) := by
  rw [xi_invokestatic]
  show (len = 3 ∧ mm_iv (own, rest) Γ K (mm_JM own ix) ix st pc ls M u w) = _
  rw [hj, xs_ivN]
  show (len = 3 ∧ mm_o (mm_MT own ix) fun q => _) = _
  rw [h]
  show (len = 3 ∧ (0 = 0 ∧ _)) = _
  rw [eq_self, true_and]
end MMCG
