/-! THE WALK AS A FUNCTION: a typed memory (families of cells), an evaluator of straight code over it, and its soundness. My own text. -/
/-- a value of the walk: an int, a long, or a place (family, number) / null -/
abbrev mm_V : Type := Int32 ⊕ (Int64 ⊕ Option (Nat × Nat))
/-- the memory: ints, longs, references, and which places are made -/
abbrev mm_M : Type := (Nat → Nat → Nat → Int32) × (Nat → Nat → Nat → Int64) × (Nat → Nat → Nat → Option (Nat × Nat)) × (Nat → Nat → Prop)
def mm_u {α : Type} (g : Nat → Nat → Nat → α) (f i k : Nat) (x : α) : Nat → Nat → Nat → α := fun a b c => if a = f ∧ b = i ∧ c = k then x else g a b c
def mm_z {α : Type} (g : Nat → Nat → Nat → α) (f i : Nat) (x : α) : Nat → Nat → Nat → α := fun a b c => if a = f ∧ b = i then x else g a b c
def mm_sI (M : mm_M) (f i k : Nat) (x : Int32) : mm_M := (mm_u M.1 f i k x, M.2)
def mm_sL (M : mm_M) (f i k : Nat) (x : Int64) : mm_M := (M.1, mm_u M.2.1 f i k x, M.2.2)
def mm_sR (M : mm_M) (f i k : Nat) (x : Option (Nat × Nat)) : mm_M := (M.1, M.2.1, mm_u M.2.2.1 f i k x, M.2.2.2)
def mm_new (M : mm_M) (f i : Nat) : mm_M := (mm_z M.1 f i 0, mm_z M.2.1 f i 0, mm_z M.2.2.1 f i none, fun a b => (a = f ∧ b = i) ∨ M.2.2.2 a b)
theorem mm_u_row {α : Type} {g : Nat → Nat → Nat → α} {f i k a b : Nat} {x : α} (h : ¬ (a = f ∧ b = i)) : mm_u g f i k x a b = g a b := by
  funext c
  unfold mm_u
  rw [if_neg]
  exact fun q => h ⟨q.1, q.2.1⟩
theorem mm_u_own {α : Type} {g : Nat → Nat → Nat → α} {f i k c : Nat} {x : α} : mm_u g f i k x f i c = if c = k then x else g f i c := by
  unfold mm_u
  simp
theorem mm_z_row {α : Type} {g : Nat → Nat → Nat → α} {f i a b : Nat} {x : α} (h : ¬ (a = f ∧ b = i)) : mm_z g f i x a b = g a b := by
  funext c
  unfold mm_z
  rw [if_neg h]
theorem mm_z_own {α : Type} {g : Nat → Nat → Nat → α} {f i c : Nat} {x : α} : mm_z g f i x f i c = x := by
  unfold mm_z
  simp
theorem mm_u_ne {α : Type} {g : Nat → Nat → Nat → α} {f i k : Nat} {x r : α} (hx : x ≠ r) (h : ∀ a b c, g a b c ≠ r) : ∀ a b c, mm_u g f i k x a b c ≠ r := by
  intro a b c
  unfold mm_u
  split
  · exact hx
  · exact h a b c
theorem mm_z_ne {α : Type} {g : Nat → Nat → Nat → α} {f i : Nat} {x r : α} (hx : x ≠ r) (h : ∀ a b c, g a b c ≠ r) : ∀ a b c, mm_z g f i x a b c ≠ r := by
  intro a b c
  unfold mm_z
  split
  · exact hx
  · exact h a b c
def mm_ref (ad : Nat → Nat → Nat) (r : Option (Nat × Nat)) : Value := va_rf (r.map fun q => ad q.1 q.2)
def mm_val (ad : Nat → Nat → Nat) : mm_V → Value
  | .inl x => .int x
  | .inr (.inl x) => .long x
  | .inr (.inr r) => mm_ref ad r
def mm_get (M : mm_M) (ty : FieldType) (f i k : Nat) : mm_V := match ty with
  | .long => .inr (.inl (M.2.1 f i k))
  | .object _ => .inr (.inr (M.2.2.1 f i k))
  | .array _ => .inr (.inr (M.2.2.1 f i k))
  | _ => .inl (M.1 f i k)
def mm_arr (ad : Nat → Nat → Nat) (M : mm_M) (ty : FieldType) (n f i : Nat) : vp_A := match ty with
  | .long => (n, .inr (.inl (M.2.1 f i)))
  | .object _ => (n, .inr (.inr (.inr (.inr fun k => (M.2.2.1 f i k).map fun q => ad q.1 q.2))))
  | .array _ => (n, .inr (.inr (.inr (.inr fun k => (M.2.2.1 f i k).map fun q => ad q.1 q.2))))
  | _ => (n, .inl (M.1 f i))
def mm_fs (ad : Nat → Nat → Nat) (M : mm_M) (ci f i : Nat) : List Value := (List.range (mm_N ci)).map fun k => mm_val ad (mm_get M (mm_ft ci k) f i k)
def mm_cell (dA : FieldType → ClassId) (ad : Nat → Nat → Nat) (M : mm_M) (f i : Nat) : va_E := match mm_Y f with
  | .inl ci => .inr (ci, mm_fs ad M ci f i)
  | .inr q => .inl (dA q.1, mm_arr ad M q.1 q.2 f i)
/-- the heap holds the memory, its places at ad; all lie at sz or above; the script's place 999 stands outside -/
def mm_R (D : va_G) (dA : FieldType → ClassId) (sz : Nat) (ad : Nat → Nat → Nat) (M : mm_M) (H : Heap) : Prop :=
  (∀ f i, f ≠ 999 → M.2.2.2 f i → va_at D mm_cl (ad f i, mm_cell dA ad M f i) H ∧ sz ≤ ad f i) ∧
  ∀ f i g j, f ≠ 999 → g ≠ 999 → M.2.2.2 f i → M.2.2.2 g j → ad f i = ad g j → f = g ∧ i = j
/-- what the tables say, beside the words: classes, array classes, nest words -/
def mm_K (D : va_G) (dA : FieldType → ClassId) (U : State) : Prop :=
  va_K D mm_cl (mm_tys dA) U ∧ (∀ q ∈ mm_nF, va_Nw (.fieldLinkNest q.1 q.2.1 q.2.2.1 q.2.2.2.1 q.2.2.2.2.1 q.2.2.2.2.2) U) ∧ (∀ q ∈ mm_nM, va_Nw (.methodLinkNest q.1 q.2.1 q.2.2.1 q.2.2.2) U) ∧ ∀ C ∈ mm_ao, va_AO C U
theorem mm_K.moved {D : va_G} {dA : FieldType → ClassId} {u U : State} (hW : u.WarmedH U.vm) (h : mm_K D dA u) : mm_K D dA U :=
  ⟨va_K.moved hW.alike h.1, fun q hq => va_Nw.warmF hW (h.2.1 q hq), fun q hq => va_Nw.warmM hW (h.2.2.1 q hq), fun C hC => va_AO.moved hW.alike (h.2.2.2 C hC)⟩
theorem mm_K.same {D : va_G} {dA : FieldType → ClassId} {u U : State} (e : u.vm = U.vm) (h : mm_K D dA u) : mm_K D dA U :=
  ⟨va_K.moved (by rw [e]; exact Vm.Alike.refl _) h.1, fun q hq => va_Nw.same rfl e (h.2.1 q hq), fun q hq => va_Nw.same rfl e (h.2.2.1 q hq), fun C hC => va_AO.moved (by rw [e]; exact Vm.Alike.refl _) (h.2.2.2 C hC)⟩
/-- one cell was written -/
theorem mm_R.write {D : va_G} {dA : FieldType → ClassId} {sz : Nat} {ad : Nat → Nat → Nat} {M M' : mm_M} {H H1 : Heap} {f i : Nat} (h : mm_R D dA sz ad M H) (hf : f ≠ 999) (hd : M.2.2.2 f i) (e0 : M'.2.2.2 = M.2.2.2)
    (hI : ∀ a b, ¬ (a = f ∧ b = i) → M'.1 a b = M.1 a b) (hL : ∀ a b, ¬ (a = f ∧ b = i) → M'.2.1 a b = M.2.1 a b) (hQ : ∀ a b, ¬ (a = f ∧ b = i) → M'.2.2.1 a b = M.2.2.1 a b)
    (he : va_at D mm_cl (ad f i, mm_cell dA ad M' f i) H1) (oq : ∀ q : Nat, q ≠ ad f i → H1[q]? = H[q]?) : mm_R D dA sz ad M' H1 := by
  refine ⟨fun a b ha hb => ?_, fun a b g j ha hg hb hj e => ?_⟩
  · rw [e0] at hb
    obtain ⟨h1, h2⟩ := h.1 a b ha hb
    refine ⟨?_, h2⟩
    by_cases hk : a = f ∧ b = i
    · obtain ⟨rfl, rfl⟩ := hk
      exact he
    · have hc : mm_cell dA ad M' a b = mm_cell dA ad M a b := by
        unfold mm_cell mm_fs mm_get mm_arr
        rw [hI a b hk, hL a b hk, hQ a b hk]
      rw [hc]
      refine va_at.kept h1 (oq _ fun q => hk ?_)
      exact h.2 a b f i ha hf hb hd q
  · rw [e0] at hb hj
    exact h.2 a b g j ha hg hb hj e
def mm_ad (ad : Nat → Nat → Nat) (f i N : Nat) : Nat → Nat → Nat := fun a b => if a = f ∧ b = i then N else ad a b
theorem mm_ad_own {ad : Nat → Nat → Nat} {f i N : Nat} : mm_ad ad f i N f i = N := if_pos ⟨rfl, rfl⟩
theorem mm_ad_ne {ad : Nat → Nat → Nat} {f i N a b : Nat} (h : ¬ (a = f ∧ b = i)) : mm_ad ad f i N a b = ad a b := if_neg h
/-- a cell was made -/
theorem mm_R.make {D : va_G} {dA : FieldType → ClassId} {sz : Nat} {ad : Nat → Nat → Nat} {M : mm_M} {H H1 : Heap} {f i : Nat} (h : mm_R D dA sz ad M H) (hf : ¬ M.2.2.2 f i) (hfr : ∀ a b c, M.2.2.1 a b c ≠ some (f, i)) (hz : sz ≤ H.size)
    (he : va_at D mm_cl (H.size, mm_cell dA (mm_ad ad f i H.size) (mm_new M f i) f i) H1) (oq : ∀ q : Nat, q < H.size → H1[q]? = H[q]?) :
    mm_R D dA sz (mm_ad ad f i H.size) (mm_new M f i) H1 := by
  have hm : ∀ r : Option (Nat × Nat), r ≠ some (f, i) → r.map (fun q => mm_ad ad f i H.size q.1 q.2) = r.map (fun q => ad q.1 q.2) := by
    intro r hr
    cases r with
    | none => rfl
    | some q =>
      obtain ⟨a, b⟩ := q
      show some (mm_ad ad f i H.size a b) = some (ad a b)
      rw [mm_ad_ne]
      rintro ⟨rfl, rfl⟩
      exact hr rfl
  have old : ∀ a b, ¬ (a = f ∧ b = i) → (mm_new M f i).2.2.2 a b → M.2.2.2 a b := by
    intro a b hk hb
    rcases hb with q | q
    · exact absurd q hk
    · exact q
  refine ⟨fun a b ha hb => ?_, fun a b g j ha hg hb hj e => ?_⟩
  · by_cases hk : a = f ∧ b = i
    · obtain ⟨e1, e2⟩ := hk
      rw [e1, e2, mm_ad_own]
      exact ⟨he, hz⟩
    · obtain ⟨h1, h2⟩ := h.1 a b ha (old a b hk hb)
      rw [mm_ad_ne hk]
      refine ⟨?_, h2⟩
      have hc : mm_cell dA (mm_ad ad f i H.size) (mm_new M f i) a b = mm_cell dA ad M a b := by
        have e1 : (mm_new M f i).1 a b = M.1 a b := mm_z_row hk
        have e2 : (mm_new M f i).2.1 a b = M.2.1 a b := mm_z_row hk
        have e3 : (mm_new M f i).2.2.1 a b = M.2.2.1 a b := mm_z_row hk
        unfold mm_cell
        cases mm_Y a with
        | inl ci =>
          show (Sum.inr (ci, mm_fs (mm_ad ad f i H.size) (mm_new M f i) ci a b) : va_E) = Sum.inr (ci, mm_fs ad M ci a b)
          congr 2
          unfold mm_fs
          apply List.map_congr_left
          intro k _
          unfold mm_get
          rw [e1, e2, e3]
          cases mm_ft ci k <;> first | rfl | exact congrArg va_rf (hm _ (hfr a b k))
        | inr q =>
          obtain ⟨ty, n⟩ := q
          show (Sum.inl (dA ty, mm_arr (mm_ad ad f i H.size) (mm_new M f i) ty n a b) : va_E) = Sum.inl (dA ty, mm_arr ad M ty n a b)
          congr 2
          unfold mm_arr
          rw [e1, e2, e3]
          cases ty <;> first | rfl | (simp only [hm _ (hfr a b _)])
      rw [hc]
      exact va_at.kept h1 (oq _ (va_at.lt h1))
  · by_cases h1 : a = f ∧ b = i
    · by_cases h2 : g = f ∧ j = i
      · exact ⟨h1.1.trans h2.1.symm, h1.2.trans h2.2.symm⟩
      · rw [h1.1, h1.2, mm_ad_own, mm_ad_ne h2] at e
        have := va_at.lt (h.1 g j hg (old g j h2 hj)).1
        simp only at this
        omega
    · by_cases h2 : g = f ∧ j = i
      · rw [h2.1, h2.2, mm_ad_own, mm_ad_ne h1] at e
        have := va_at.lt (h.1 a b ha (old a b h1 hb)).1
        simp only at this
        omega
      · rw [mm_ad_ne h1, mm_ad_ne h2] at e
        exact h.2 a b g j ha hg (old a b h1 hb) (old g j h2 hj) e
/-! locals as a list: what is known of each place -/
def mm_L (ad : Nat → Nat → Nat) : Nat → List (Option mm_V) → List (Nat × Value)
  | _, [] => []
  | k, none :: r => mm_L ad (k + 1) r
  | k, some v :: r => (k, mm_val ad v) :: mm_L ad (k + 1) r
theorem mm_L_mem {ad : Nat → Nat → Nat} : ∀ (ls : List (Option mm_V)) (k : Nat) (q : Nat × Value), q ∈ mm_L ad k ls ↔ ∃ (j : Nat) (v : mm_V), ls[j]? = some (some v) ∧ q = (k + j, mm_val ad v)
  | [], k, q => by simp [mm_L]
  | none :: r, k, q => by
    rw [mm_L, mm_L_mem r (k + 1) q]
    constructor
    · rintro ⟨j, v, h, rfl⟩
      exact ⟨j + 1, v, by simpa using h, by rw [show k + 1 + j = k + (j + 1) by omega]⟩
    · rintro ⟨j, v, h, rfl⟩
      cases j with
      | zero => simp at h
      | succ j => exact ⟨j, v, by simpa using h, by rw [show k + 1 + j = k + (j + 1) by omega]⟩
  | some w :: r, k, q => by
    rw [mm_L, List.mem_cons, mm_L_mem r (k + 1) q]
    constructor
    · rintro (rfl | ⟨j, v, h, rfl⟩)
      · exact ⟨0, w, by simp, rfl⟩
      · exact ⟨j + 1, v, by simpa using h, by rw [show k + 1 + j = k + (j + 1) by omega]⟩
    · rintro ⟨j, v, h, rfl⟩
      cases j with
      | zero =>
        left
        simp at h
        rw [h]
        rfl
      | succ j => exact Or.inr ⟨j, v, by simpa using h, by rw [show k + 1 + j = k + (j + 1) by omega]⟩
theorem mm_L_at {ad : Nat → Nat → Nat} {la : Array Slot} {nL : Nat} {ls : List (Option mm_V)} (h : lv_has la nL (mm_L ad 0 ls)) {j : Nat} {v : mm_V} (hj : ls[j]? = some (some v)) : la[j]? = some (.val (mm_val ad v)) :=
  h.2.2 (j, mm_val ad v) ((mm_L_mem ls 0 _).mpr ⟨j, v, hj, by rw [Nat.zero_add]⟩)
def mm_kill (ls : List (Option mm_V)) (i : Nat) : List (Option mm_V) := match i with
  | 0 => ls
  | j + 1 => match ls[j]? with
    | some (some (.inr (.inl _))) => ls.set j none
    | _ => ls
def mm_st1 (ls : List (Option mm_V)) (i : Nat) (v : mm_V) : List (Option mm_V) := (mm_kill ls i).set i (some v)
def mm_st2 (ls : List (Option mm_V)) (i : Nat) (v : mm_V) : List (Option mm_V) := ((mm_kill ls i).set i (some v)).set (i + 1) none
theorem mm_kill_at {ls : List (Option mm_V)} {i j : Nat} {v : mm_V} (h : (mm_kill ls i)[j]? = some (some v)) : ls[j]? = some (some v) ∧ ¬ (j + 1 = i ∧ ∃ x, v = .inr (.inl x)) := by
  cases i with
  | zero => exact ⟨h, fun q => by omega⟩
  | succ k =>
    unfold mm_kill at h
    dsimp only at h
    split at h
    · rename_i x hx
      rw [List.getElem?_set] at h
      split at h
      · split at h
        · cases h
        · cases h
      · exact ⟨h, fun q => by omega⟩
    · rename_i hn
      refine ⟨h, fun q => ?_⟩
      obtain ⟨q1, x, rfl⟩ := q
      have : j = k := by omega
      subst this
      exact hn x h
theorem mm_cat2 {ad : Nat → Nat → Nat} {v : mm_V} (h : (mm_val ad v).category = 2) : ∃ x, v = .inr (.inl x) := by
  match v, h with
  | .inr (.inl x), _ => exact ⟨x, rfl⟩
  | .inr (.inr none), h => cases h
  | .inr (.inr (some _)), h => cases h
theorem mm_L_st1 {ad : Nat → Nat → Nat} {ls : List (Option mm_V)} {i : Nat} {v : mm_V} (la : Array Slot) (nL : Nat) (h : lv_has la nL ((i, mm_val ad v) :: (mm_L ad 0 ls).filter (fun q => !(q.1 == i) && !(q.1 + 1 == i && q.2.category == 2)))) : lv_has la nL (mm_L ad 0 (mm_st1 ls i v)) := by
  refine ⟨h.1, h.2.1, fun q hq => h.2.2 q ?_⟩
  obtain ⟨j, w, hj, rfl⟩ := (mm_L_mem _ _ _).mp hq
  rw [Nat.zero_add]
  unfold mm_st1 at hj
  rw [List.getElem?_set] at hj
  split at hj
  · rename_i e
    subst e
    split at hj
    · cases hj
      exact List.mem_cons_self
    · cases hj
  · rename_i e
    obtain ⟨h1, h2⟩ := mm_kill_at hj
    refine List.mem_cons_of_mem _ (List.mem_filter.mpr ⟨(mm_L_mem ls 0 _).mpr ⟨j, w, h1, by rw [Nat.zero_add]⟩, ?_⟩)
    simp only [Bool.and_eq_true, Bool.not_eq_true', beq_eq_false_iff_ne, ne_eq, Bool.and_eq_false_iff]
    refine ⟨fun q => e q.symm, ?_⟩
    by_cases hji : j + 1 = i
    · right
      intro hc
      exact h2 ⟨hji, mm_cat2 hc⟩
    · exact Or.inl hji
theorem mm_L_st2 {ad : Nat → Nat → Nat} {ls : List (Option mm_V)} {i : Nat} {v : mm_V} (la : Array Slot) (nL : Nat) (h : lv_has la nL ((i, mm_val ad v) :: (mm_L ad 0 ls).filter (fun q => !(q.1 == i) && (!(q.1 == i + 1) && !(q.1 + 1 == i && q.2.category == 2))))) : lv_has la nL (mm_L ad 0 (mm_st2 ls i v)) := by
  refine ⟨h.1, h.2.1, fun q hq => h.2.2 q ?_⟩
  obtain ⟨j, w, hj, rfl⟩ := (mm_L_mem _ _ _).mp hq
  rw [Nat.zero_add]
  unfold mm_st2 at hj
  rw [List.getElem?_set] at hj
  split at hj
  · split at hj <;> cases hj
  · rename_i e2
    rw [List.getElem?_set] at hj
    split at hj
    · rename_i e
      subst e
      split at hj
      · cases hj
        exact List.mem_cons_self
      · cases hj
    · rename_i e
      obtain ⟨h1, h2⟩ := mm_kill_at hj
      refine List.mem_cons_of_mem _ (List.mem_filter.mpr ⟨(mm_L_mem ls 0 _).mpr ⟨j, w, h1, by rw [Nat.zero_add]⟩, ?_⟩)
      simp only [Bool.and_eq_true, Bool.not_eq_true', beq_eq_false_iff_ne, ne_eq, Bool.and_eq_false_iff]
      refine ⟨fun q => e q.symm, fun q => e2 q.symm, ?_⟩
      by_cases hji : j + 1 = i
      · right
        intro hc
        exact h2 ⟨hji, mm_cat2 hc⟩
      · exact Or.inl hji
/-! the evaluator -/
abbrev mm_K0 : Type := Nat → List (Option mm_V) → List mm_V → mm_M → Nat → Nat → Prop
abbrev mm_G : Type := Nat → List mm_V → mm_M → (Option mm_V → mm_M → Prop) → Prop
/-- whose pool, locals, return type, may make cells, cells, slots, the script, is an init -/
abbrev mm_F : Type := Nat × Nat × Option FieldType × Bool × Nat × Nat × Option (Nat × (Nat → Int32)) × Bool
def mm_o {α : Type} (x : Option α) (k : α → Prop) : Prop := match x with
  | some a => k a
  | none => False
def mm_p1 (st : List mm_V) (k : mm_V → List mm_V → Prop) : Prop := match st with
  | v :: r => k v r
  | [] => False
def mm_pI (st : List mm_V) (k : Int32 → List mm_V → Prop) : Prop := match st with
  | .inl x :: r => k x r
  | _ => False
def mm_pL (st : List mm_V) (k : Int64 → List mm_V → Prop) : Prop := match st with
  | .inr (.inl x) :: r => k x r
  | _ => False
def mm_pQ (st : List mm_V) (k : Option (Nat × Nat) → List mm_V → Prop) : Prop := match st with
  | .inr (.inr x) :: r => k x r
  | _ => False
def mm_pR (st : List mm_V) (k : Nat → Nat → List mm_V → Prop) : Prop := match st with
  | .inr (.inr (some q)) :: r => k q.1 q.2 r
  | _ => False
def mm_lV (ls : List (Option mm_V)) (i : Nat) (k : mm_V → Prop) : Prop := match ls[i]? with
  | some (some v) => k v
  | _ => False
def mm_vI (v : mm_V) (k : Int32 → Prop) : Prop := match v with
  | .inl x => k x
  | _ => False
def mm_vL (v : mm_V) (k : Int64 → Prop) : Prop := match v with
  | .inr (.inl x) => k x
  | _ => False
def mm_vQ (v : mm_V) (k : Option (Nat × Nat) → Prop) : Prop := match v with
  | .inr (.inr x) => k x
  | _ => False
def mm_pN : Nat → List mm_V → List mm_V → (List mm_V → List mm_V → Prop) → Prop
  | 0, acc, st, k => k acc st
  | n + 1, acc, v :: r, k => mm_pN n (v :: acc) r k
  | _ + 1, _, [], _ => False
def mm_cat : mm_V → Nat
  | .inr (.inl _) => 2
  | _ => 1
def mm_sm : List mm_V → Nat
  | [] => 0
  | v :: r => mm_cat v + mm_sm r
def mm_is (M : mm_M) (f i ci : Nat) : Prop := mm_Y f = .inl ci ∧ f ≠ 999 ∧ M.2.2.2 f i
def mm_len (f : Nat) : Nat := match mm_Y f with
  | .inr q => q.2
  | _ => 0
def mm_ia (M : mm_M) (f i : Nat) (ty : FieldType) : Prop := mm_Y f = .inr (ty, mm_len f) ∧ f ≠ 999 ∧ M.2.2.2 f i
def mm_okV (M : mm_M) : mm_V → Prop
  | .inr (.inr (some q)) => M.2.2.2 q.1 q.2
  | _ => True
def mm_okS (M : mm_M) : List mm_V → Prop
  | [] => True
  | v :: r => mm_okV M v ∧ mm_okS M r
def mm_okL (M : mm_M) : List (Option mm_V) → Prop
  | [] => True
  | some v :: r => mm_okV M v ∧ mm_okL M r
  | none :: r => mm_okL M r
def mm_jmp (pc : Nat) (off : Int) : Nat := ((pc : Int) + off).toNat
def mm_c0 (c : Jvm.ClassFile.Cond) (x : Int32) : Prop := match c with
  | .eq => x = 0
  | .ne => ¬ x = 0
  | .lt => x < 0
  | .ge => 0 ≤ x
  | .gt => 0 < x
  | .le => x ≤ 0
def mm_c2 (c : Jvm.ClassFile.Cond) (x y : Int32) : Prop := match c with
  | .eq => x = y
  | .ne => ¬ x = y
  | .lt => x < y
  | .ge => y ≤ x
  | .gt => y < x
  | .le => x ≤ y
def mm_ts (x : Int32) : Int → List Int → (Int → Prop) → Prop → Prop
  | _, [], _, d => d
  | lo, o :: r, k, d => (x = Int32.ofInt lo → k o) ∧ (¬ x = Int32.ofInt lo → mm_ts x (lo + 1) r k d)
def mm_ks (x : Int32) : List (Int × Int) → (Int → Prop) → Prop → Prop
  | [], _, d => d
  | q :: r, k, d => (x = Int32.ofInt q.1 → k q.2) ∧ (¬ x = Int32.ofInt q.1 → mm_ks x r k d)
/-- a final field: in its own init alone -/
def mm_pf (g : mm_F) (ci k : Nat) : Prop := mm_fin ci k = false ∨ (g.1 = ci ∧ g.2.2.2.2.2.2.2 = true)
def mm_isR : FieldType → Bool
  | .object _ => true
  | .array _ => true
  | _ => false
def mm_put (M : mm_M) (ty : FieldType) (f i k : Nat) (v : mm_V) (kk : mm_M → Prop) : Prop := match v with
  | .inl x => (ty = .int ∨ ty = .boolean) ∧ narrow ty (.int x) = .int x ∧ fits ty (.int x) = true ∧ kk (mm_sI M f i k x)
  | .inr (.inl x) => ty = .long ∧ kk (mm_sL M f i k x)
  | .inr (.inr r) => mm_isR ty = true ∧ kk (mm_sR M f i k r)
def mm_lk (ps : Array (Int × Int)) : Prop := (ps.toList.zip (ps.toList.drop 1)).all (fun (a, next) => a.1 < next.1) = true ∧ ∀ q ∈ ps.toList, -2147483648 ≤ q.1 ∧ q.1 < 2147483648
def mm_tk (lo hi : Int) (offs : Array Int) : Prop := hi = lo + (offs.toList.length : Int) - 1 ∧ -2147483648 ≤ lo ∧ lo + (offs.toList.length : Int) ≤ 2147483648
def mm_at0 (t : ArrayType) : Prop := newarray.typeOf t ∈ mm_prt
/-- Math's members -/
def mm_jm (j : Nat) (st : List mm_V) (k : mm_V → List mm_V → Prop) : Prop := match j with
  | 0 => mm_pI st fun y r => mm_pI r fun x r => k (.inl (if x < y then y else x)) r
  | 1 => mm_pI st fun x r => k (.inl (if 0 ≤ x then x else 0 - x)) r
  | 2 => mm_pL st fun y r => mm_pL r fun x r => k (.inr (.inl (if y < x then x else y))) r
  | 3 => mm_pL st fun y r => mm_pL r fun x r => k (.inr (.inl (if y < x then y else x))) r
  | _ => False
def mm_call (g : mm_F) (Γ : mm_G) (K : mm_K0) (id : Nat) (As r : List mm_V) (pc : Nat) (ls : List (Option mm_V)) (M : mm_M) (u w : Nat) : Prop :=
  mm_sm r ≤ 8 ∧ u + mm_mc id ≤ g.2.2.2.2.1 ∧ w + mm_ms id ≤ g.2.2.2.2.2.1 ∧ (mm_al id = true → g.2.2.2.1 = true ∧ mm_okL M ls ∧ mm_okS M r) ∧ Γ id As M fun v M' => K (pc + 3) ls (v.toList ++ r) M' (u + mm_mc id) (w + mm_ms id)
def mm_i (g : mm_F) (Γ : mm_G) (Q : Option mm_V → mm_M → Prop) (K : mm_K0) (ins : Instr) (len pc : Nat) (ls : List (Option mm_V)) (st : List mm_V) (M : mm_M) (u w : Nat) : Prop :=
  match ins with
  | .iconst n => len = 1 ∧ K (pc + 1) ls (.inl (Int32.ofInt n) :: st) M u w
  | .bipush n => len = 2 ∧ K (pc + 2) ls (.inl (Int8.ofInt n).toInt32 :: st) M u w
  | .sipush n => len = 3 ∧ K (pc + 3) ls (.inl (Int16.ofInt n).toInt32 :: st) M u w
  | .lconst n => len = 1 ∧ K (pc + 1) ls (.inr (.inl (Int64.ofNat (n : Nat))) :: st) M u w
  | .ldc i => len = 2 ∧ mm_o (mm_CI g.1 i) fun v => K (pc + 2) ls (.inl v :: st) M u w
  | .ldc2_w i => len = 3 ∧ mm_o (mm_CL g.1 i) fun v => K (pc + 3) ls (.inr (.inl v) :: st) M u w
  | .iload_n k => len = 1 ∧ mm_lV ls (k : Nat) fun v => mm_vI v fun x => K (pc + 1) ls (.inl x :: st) M u w
  | .iload k => len = 2 ∧ mm_lV ls k fun v => mm_vI v fun x => K (pc + 2) ls (.inl x :: st) M u w
  | .lload_n k => len = 1 ∧ mm_lV ls (k : Nat) fun v => mm_vL v fun x => K (pc + 1) ls (.inr (.inl x) :: st) M u w
  | .lload k => len = 2 ∧ mm_lV ls k fun v => mm_vL v fun x => K (pc + 2) ls (.inr (.inl x) :: st) M u w
  | .aload_n k => len = 1 ∧ mm_lV ls (k : Nat) fun v => mm_vQ v fun x => K (pc + 1) ls (.inr (.inr x) :: st) M u w
  | .aload k => len = 2 ∧ mm_lV ls k fun v => mm_vQ v fun x => K (pc + 2) ls (.inr (.inr x) :: st) M u w
  | .istore_n k => len = 1 ∧ (k : Nat) < g.2.1 ∧ mm_pI st fun x r => K (pc + 1) (mm_st1 ls (k : Nat) (.inl x)) r M u w
  | .istore k => len = 2 ∧ k < g.2.1 ∧ mm_pI st fun x r => K (pc + 2) (mm_st1 ls k (.inl x)) r M u w
  | .lstore_n k => len = 1 ∧ (k : Nat) + 1 < g.2.1 ∧ mm_pL st fun x r => K (pc + 1) (mm_st2 ls (k : Nat) (.inr (.inl x))) r M u w
  | .lstore k => len = 2 ∧ k + 1 < g.2.1 ∧ mm_pL st fun x r => K (pc + 2) (mm_st2 ls k (.inr (.inl x))) r M u w
  | .astore_n k => len = 1 ∧ (k : Nat) < g.2.1 ∧ mm_pR st fun f i r => K (pc + 1) (mm_st1 ls (k : Nat) (.inr (.inr (some (f, i))))) r M u w
  | .astore k => len = 2 ∧ k < g.2.1 ∧ mm_pR st fun f i r => K (pc + 2) (mm_st1 ls k (.inr (.inr (some (f, i))))) r M u w
  | .iinc k n => len = 3 ∧ k < g.2.1 ∧ mm_lV ls k fun v => mm_vI v fun x => K (pc + 3) (mm_st1 ls k (.inl (x + Int32.ofInt n))) st M u w
  | .iadd => len = 1 ∧ mm_pI st fun y r => mm_pI r fun x r => K (pc + 1) ls (.inl (x + y) :: r) M u w
  | .isub => len = 1 ∧ mm_pI st fun y r => mm_pI r fun x r => K (pc + 1) ls (.inl (x - y) :: r) M u w
  | .imul => len = 1 ∧ mm_pI st fun y r => mm_pI r fun x r => K (pc + 1) ls (.inl (x * y) :: r) M u w
  | .iand => len = 1 ∧ mm_pI st fun y r => mm_pI r fun x r => K (pc + 1) ls (.inl (x &&& y) :: r) M u w
  | .ior => len = 1 ∧ mm_pI st fun y r => mm_pI r fun x r => K (pc + 1) ls (.inl (x ||| y) :: r) M u w
  | .ixor => len = 1 ∧ mm_pI st fun y r => mm_pI r fun x r => K (pc + 1) ls (.inl (x ^^^ y) :: r) M u w
  | .idiv => len = 1 ∧ mm_pI st fun y r => mm_pI r fun x r => ¬ y = 0 ∧ K (pc + 1) ls (.inl (x / y) :: r) M u w
  | .irem => len = 1 ∧ mm_pI st fun y r => mm_pI r fun x r => ¬ y = 0 ∧ K (pc + 1) ls (.inl (x - x / y * y) :: r) M u w
  | .ineg => len = 1 ∧ mm_pI st fun x r => K (pc + 1) ls (.inl (-x) :: r) M u w
  | .ladd => len = 1 ∧ mm_pL st fun y r => mm_pL r fun x r => K (pc + 1) ls (.inr (.inl (x + y)) :: r) M u w
  | .lsub => len = 1 ∧ mm_pL st fun y r => mm_pL r fun x r => K (pc + 1) ls (.inr (.inl (x - y)) :: r) M u w
  | .lmul => len = 1 ∧ mm_pL st fun y r => mm_pL r fun x r => K (pc + 1) ls (.inr (.inl (x * y)) :: r) M u w
  | .land => len = 1 ∧ mm_pL st fun y r => mm_pL r fun x r => K (pc + 1) ls (.inr (.inl (x &&& y)) :: r) M u w
  | .lor => len = 1 ∧ mm_pL st fun y r => mm_pL r fun x r => K (pc + 1) ls (.inr (.inl (x ||| y)) :: r) M u w
  | .lxor => len = 1 ∧ mm_pL st fun y r => mm_pL r fun x r => K (pc + 1) ls (.inr (.inl (x ^^^ y)) :: r) M u w
  | .ldiv => len = 1 ∧ mm_pL st fun y r => mm_pL r fun x r => ¬ y = 0 ∧ K (pc + 1) ls (.inr (.inl (x / y)) :: r) M u w
  | .lrem => len = 1 ∧ mm_pL st fun y r => mm_pL r fun x r => ¬ y = 0 ∧ K (pc + 1) ls (.inr (.inl (x - x / y * y)) :: r) M u w
  | .lneg => len = 1 ∧ mm_pL st fun x r => K (pc + 1) ls (.inr (.inl (-x)) :: r) M u w
  | .ishl => len = 1 ∧ mm_pI st fun y r => mm_pI r fun x r => K (pc + 1) ls (.inl (x <<< (y &&& 31)) :: r) M u w
  | .ishr => len = 1 ∧ mm_pI st fun y r => mm_pI r fun x r => K (pc + 1) ls (.inl (x >>> (y &&& 31)) :: r) M u w
  | .iushr => len = 1 ∧ mm_pI st fun y r => mm_pI r fun x r => K (pc + 1) ls (.inl (x.toUInt32 >>> (y.toUInt32 &&& Int32.toUInt32 31)).toInt32 :: r) M u w
  | .lshl => len = 1 ∧ mm_pI st fun y r => mm_pL r fun x r => K (pc + 1) ls (.inr (.inl (x <<< (y.toInt64 &&& 63))) :: r) M u w
  | .lshr => len = 1 ∧ mm_pI st fun y r => mm_pL r fun x r => K (pc + 1) ls (.inr (.inl (x >>> (y.toInt64 &&& 63))) :: r) M u w
  | .lushr => len = 1 ∧ mm_pI st fun y r => mm_pL r fun x r => K (pc + 1) ls (.inr (.inl (x.toUInt64 >>> (y.toInt64.toUInt64 &&& Int64.toUInt64 63)).toInt64) :: r) M u w
  | .i2l => len = 1 ∧ mm_pI st fun x r => K (pc + 1) ls (.inr (.inl x.toInt64) :: r) M u w
  | .l2i => len = 1 ∧ mm_pL st fun x r => K (pc + 1) ls (.inl x.toInt32 :: r) M u w
  | .lcmp => len = 1 ∧ mm_pL st fun y r => mm_pL r fun x r => K (pc + 1) ls (.inl (lg_cmp x y) :: r) M u w
  | .dup => len = 1 ∧ mm_p1 st fun v r => mm_cat v = 1 ∧ K (pc + 1) ls (v :: v :: r) M u w
  | .pop => len = 1 ∧ mm_p1 st fun v r => mm_cat v = 1 ∧ K (pc + 1) ls r M u w
  | .dup_x1 => len = 1 ∧ mm_p1 st fun v r => mm_p1 r fun v2 r => mm_cat v = 1 ∧ mm_cat v2 = 1 ∧ K (pc + 1) ls (v :: v2 :: v :: r) M u w
  | .dup2 => len = 1 ∧ mm_p1 st fun v r => mm_p1 r fun v2 r => mm_cat v = 1 ∧ mm_cat v2 = 1 ∧ K (pc + 1) ls (v :: v2 :: v :: v2 :: r) M u w
  | .ifCond c off => len = 3 ∧ 0 ≤ (pc : Int) + off ∧ mm_pI st fun x r => (mm_c0 c x → K (mm_jmp pc off) ls r M u w) ∧ (¬ mm_c0 c x → K (pc + 3) ls r M u w)
  | .if_icmp c off => len = 3 ∧ 0 ≤ (pc : Int) + off ∧ mm_pI st fun y r => mm_pI r fun x r => (mm_c2 c x y → K (mm_jmp pc off) ls r M u w) ∧ (¬ mm_c2 c x y → K (pc + 3) ls r M u w)
  | .goto off => len = 3 ∧ 0 ≤ (pc : Int) + off ∧ K (mm_jmp pc off) ls st M u w
  | .tableswitch d lo hi offs => mm_tk lo hi offs ∧ mm_pI st fun x r => mm_ts x lo offs.toList (fun off => 0 ≤ (pc : Int) + off ∧ K (mm_jmp pc off) ls r M u w) (0 ≤ (pc : Int) + d ∧ K (mm_jmp pc d) ls r M u w)
  | .lookupswitch d ps => mm_lk ps ∧ mm_pI st fun x r => mm_ks x ps.toList (fun off => 0 ≤ (pc : Int) + off ∧ K (mm_jmp pc off) ls r M u w) (0 ≤ (pc : Int) + d ∧ K (mm_jmp pc d) ls r M u w)
  | .getfield ix => len = 3 ∧ mm_pR st fun f i r => mm_o (mm_FL g.1 ix) fun q => mm_is M f i q.1 ∧ K (pc + 3) ls (mm_get M (mm_ft q.1 q.2) f i q.2 :: r) M u w
  | .putfield ix => len = 3 ∧ mm_o (mm_FL g.1 ix) fun q => mm_p1 st fun v r => mm_pR r fun f i r => mm_is M f i q.1 ∧ mm_pf g q.1 q.2 ∧ mm_put M (mm_ft q.1 q.2) f i q.2 v fun M' => K (pc + 3) ls r M' u w
  | .iaload => len = 1 ∧ mm_pI st fun j r => mm_pR r fun f i r => if f = 999 then mm_o g.2.2.2.2.2.2.1 fun q => i = 0 ∧ vp_in j q.1 ∧ K (pc + 1) ls (.inl (q.2 j.toNatClampNeg) :: r) M u w else mm_ia M f i .int ∧ vp_in j (mm_len f) ∧ K (pc + 1) ls (.inl (M.1 f i j.toNatClampNeg) :: r) M u w
  | .baload => len = 1 ∧ mm_pI st fun j r => mm_pR r fun f i r => mm_ia M f i .boolean ∧ vp_in j (mm_len f) ∧ K (pc + 1) ls (.inl (M.1 f i j.toNatClampNeg) :: r) M u w
  | .laload => len = 1 ∧ mm_pI st fun j r => mm_pR r fun f i r => mm_ia M f i .long ∧ vp_in j (mm_len f) ∧ K (pc + 1) ls (.inr (.inl (M.2.1 f i j.toNatClampNeg)) :: r) M u w
  | .aaload => len = 1 ∧ mm_pI st fun j r => mm_pR r fun f i r => ∃ C, mm_ia M f i (.object C) ∧ vp_in j (mm_len f) ∧ K (pc + 1) ls (.inr (.inr (M.2.2.1 f i j.toNatClampNeg)) :: r) M u w
  | .iastore => len = 1 ∧ mm_pI st fun x r => mm_pI r fun j r => mm_pR r fun f i r => mm_ia M f i .int ∧ vp_in j (mm_len f) ∧ K (pc + 1) ls r (mm_sI M f i j.toNatClampNeg x) u w
  | .bastore => len = 1 ∧ mm_pI st fun x r => mm_pI r fun j r => mm_pR r fun f i r => mm_ia M f i .boolean ∧ vp_in j (mm_len f) ∧ K (pc + 1) ls r (mm_sI M f i j.toNatClampNeg (x &&& 1)) u w
  | .lastore => len = 1 ∧ mm_pL st fun x r => mm_pI r fun j r => mm_pR r fun f i r => mm_ia M f i .long ∧ vp_in j (mm_len f) ∧ K (pc + 1) ls r (mm_sL M f i j.toNatClampNeg x) u w
  | .arraylength => len = 1 ∧ mm_pR st fun f i r => if f = 999 then mm_o g.2.2.2.2.2.2.1 fun q => i = 0 ∧ K (pc + 1) ls (.inl (Int32.ofNat q.1) :: r) M u w else ∃ ty, mm_ia M f i ty ∧ K (pc + 1) ls (.inl (Int32.ofNat (mm_len f)) :: r) M u w
  | .invokestatic ix => len = 3 ∧ match mm_JM g.1 ix with
    | some j => u ≤ g.2.2.2.2.1 ∧ w ≤ g.2.2.2.2.2.1 ∧ mm_jm j st fun v r => mm_sm r ≤ 8 ∧ K (pc + 3) ls (v :: r) M u w
    | none => mm_o (mm_MT g.1 ix) fun q => q.2.2 = 0 ∧ mm_pN q.2.1 [] st fun As r => mm_call g Γ K q.1 As r pc ls M u w
  | .invokevirtual ix => len = 3 ∧ mm_o (mm_MT g.1 ix) fun q => q.2.2 = 1 ∧ mm_pN q.2.1 [] st fun As r => mm_pR r fun f i r => mm_is M f i (mm_mk q.1) ∧ mm_call g Γ K q.1 (.inr (.inr (some (f, i))) :: As) r pc ls M u w
  | .invokespecial ix => len = 3 ∧ mm_o (mm_MT g.1 ix) fun q => if q.2.2 = 3 then mm_pR st fun f i r => mm_sm r ≤ 8 ∧ K (pc + 3) ls r M u w else q.2.2 = 2 ∧ mm_pN q.2.1 [] st fun As r => mm_pR r fun f i r => mm_is M f i (mm_mk q.1) ∧ mm_call g Γ K q.1 (.inr (.inr (some (f, i))) :: As) r pc ls M u w
  | .new ix => len = 3 ∧ g.2.2.2.1 = true ∧ mm_o (mm_CC g.1 ix) fun ci => ∃ f i, mm_Y f = .inl ci ∧ f ≠ 999 ∧ ¬ M.2.2.2 f i ∧ (∀ a b c, M.2.2.1 a b c ≠ some (f, i)) ∧ mm_okL M ls ∧ mm_okS M st ∧ u + 1 ≤ g.2.2.2.2.1 ∧ w + mm_N ci ≤ g.2.2.2.2.2.1 ∧ K (pc + 3) ls (.inr (.inr (some (f, i))) :: st) (mm_new M f i) (u + 1) (w + mm_N ci)
  | .newarray at_ => len = 2 ∧ g.2.2.2.1 = true ∧ mm_pI st fun n r => ¬ n < 0 ∧ n.toNatClampNeg ≤ 60000 ∧ mm_at0 at_ ∧ ∃ f i, mm_Y f = .inr (newarray.typeOf at_, n.toNatClampNeg) ∧ f ≠ 999 ∧ ¬ M.2.2.2 f i ∧ (∀ a b c, M.2.2.1 a b c ≠ some (f, i)) ∧ mm_okL M ls ∧ mm_okS M r ∧ u + 1 ≤ g.2.2.2.2.1 ∧ w + n.toNatClampNeg ≤ g.2.2.2.2.2.1 ∧ K (pc + 2) ls (.inr (.inr (some (f, i))) :: r) (mm_new M f i) (u + 1) (w + n.toNatClampNeg)
  | .anewarray ix => len = 3 ∧ g.2.2.2.1 = true ∧ mm_o (mm_CO g.1 ix) fun C => mm_pI st fun n r => ¬ n < 0 ∧ n.toNatClampNeg ≤ 60000 ∧ ∃ f i, mm_Y f = .inr (.object C, n.toNatClampNeg) ∧ f ≠ 999 ∧ ¬ M.2.2.2 f i ∧ (∀ a b c, M.2.2.1 a b c ≠ some (f, i)) ∧ mm_okL M ls ∧ mm_okS M r ∧ u + 1 ≤ g.2.2.2.2.1 ∧ w + n.toNatClampNeg ≤ g.2.2.2.2.2.1 ∧ K (pc + 3) ls (.inr (.inr (some (f, i))) :: r) (mm_new M f i) (u + 1) (w + n.toNatClampNeg)
  | .aastore => len = 1 ∧ mm_pR st fun f2 i2 r => mm_pI r fun j r => mm_pR r fun f i r => ∃ ci, mm_is M f2 i2 ci ∧ mm_ia M f i (.object (mm_nm ci)) ∧ vp_in j (mm_len f) ∧ K (pc + 1) ls r (mm_sR M f i j.toNatClampNeg (some (f2, i2))) u w
  | .ireturn => len = 1 ∧ u ≤ g.2.2.2.2.1 ∧ w ≤ g.2.2.2.2.2.1 ∧ mm_o g.2.2.1 fun ty => mm_pI st fun x r => r = [] ∧ narrow ty (.int x) = .int x ∧ Q (some (.inl x)) M
  | .lreturn => len = 1 ∧ u ≤ g.2.2.2.2.1 ∧ w ≤ g.2.2.2.2.2.1 ∧ g.2.2.1 = some .long ∧ mm_pL st fun x r => r = [] ∧ Q (some (.inr (.inl x))) M
  | .return_ => len = 1 ∧ u ≤ g.2.2.2.2.1 ∧ w ≤ g.2.2.2.2.2.1 ∧ g.2.2.1 = none ∧ st = [] ∧ Q none M
  | _ => False
def mm_s (g : mm_F) (Γ : mm_G) (Q : Option mm_V → mm_M → Prop) (K : mm_K0) (d : Except DecodeError (Instr × Nat)) (pc : Nat) (ls : List (Option mm_V)) (st : List mm_V) (M : mm_M) (u w : Nat) : Prop :=
  match d with
  | .ok q => mm_i g Γ Q K q.1 q.2 pc ls st M u w
  | .error _ => False
abbrev mm_X : Type := List (Option mm_V) → List mm_V → mm_M → Nat → Nat → Prop
def mm_cut (x : Option mm_X) (ls : List (Option mm_V)) (st : List mm_V) (M : mm_M) (u w : Nat) (d : Prop) : Prop := match x with
  | some X => X ls st M u w
  | none => d
def mm_x (g : mm_F) (cc : ByteArray) (Γ : mm_G) (cut : Nat → Option mm_X) (Q : Option mm_V → mm_M → Prop) : Nat → Nat → List (Option mm_V) → List mm_V → mm_M → Nat → Nat → Prop
  | 0, _, _, _, _, _, _ => False
  | n + 1, pc, ls, st, M, u, w => mm_s g Γ Q (fun pc ls st M u w => mm_cut (cut pc) ls st M u w (mm_x g cc Γ cut Q n pc ls st M u w)) (decode cc pc) pc ls st M u w
