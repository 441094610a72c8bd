/-! making: memory that grows -/
def CLN (M : mm_M) : Prop := ∀ f i, ¬ M.2.2.2 f i → (∀ k, M.1 f i k = 0 ∧ M.2.1 f i k = 0 ∧ M.2.2.1 f i k = none) ∧ ∀ a b c, M.2.2.1 a b c ≠ some (f, i)
def mm_mkd (M : mm_M) (f i : Nat) : mm_M := (M.1, M.2.1, M.2.2.1, fun a b => (a = f ∧ b = i) ∨ M.2.2.2 a b)
theorem mm_z_id {α : Type} {g : Nat → Nat → Nat → α} {f i : Nat} {x : α} (h : ∀ k, g f i k = x) : mm_z g f i x = g := by
  funext a b c
  unfold mm_z
  split
  · rename_i q
    rw [q.1, q.2, h]
  · rfl
theorem new_eq {M : mm_M} {f i : Nat} (h : CLN M) (hn : ¬ M.2.2.2 f i) : mm_new M f i = mm_mkd M f i := by
  obtain ⟨h1, -⟩ := h f i hn
  unfold mm_new mm_mkd
  rw [mm_z_id fun k => (h1 k).1, mm_z_id fun k => (h1 k).2.1, mm_z_id fun k => (h1 k).2.2]
theorem CLN.new {M : mm_M} {f i : Nat} (h : CLN M) : CLN (mm_mkd M f i) := fun a b hn => h a b fun z => hn (Or.inr z)
theorem CLN.sI {M : mm_M} {o i k : Nat} {x : Int32} (h : CLN M) (ho : M.2.2.2 o i) : CLN (mm_sI M o i k x) := fun a b hn => by
  obtain ⟨h1, h2⟩ := h a b hn
  refine ⟨fun c => ⟨?_, (h1 c).2⟩, h2⟩
  show mm_u M.1 o i k x a b c = 0
  rw [mm_u_row (fun q => hn (by rw [q.1, q.2]; exact ho))]
  exact (h1 c).1
theorem CLN.sL {M : mm_M} {o i k : Nat} {x : Int64} (h : CLN M) (ho : M.2.2.2 o i) : CLN (mm_sL M o i k x) := fun a b hn => by
  obtain ⟨h1, h2⟩ := h a b hn
  refine ⟨fun c => ⟨(h1 c).1, ?_, (h1 c).2.2⟩, h2⟩
  show mm_u M.2.1 o i k x a b c = 0
  rw [mm_u_row (fun q => hn (by rw [q.1, q.2]; exact ho))]
  exact (h1 c).2.1
theorem CLN.sR {M : mm_M} {o i k f j : Nat} (h : CLN M) (ho : M.2.2.2 o i) (hf : M.2.2.2 f j) : CLN (mm_sR M o i k (some (f, j))) := fun a b hn => by
  obtain ⟨h1, h2⟩ := h a b hn
  refine ⟨fun c => ⟨(h1 c).1, (h1 c).2.1, ?_⟩, fun x y z => ?_⟩
  · show mm_u M.2.2.1 o i k (some (f, j)) a b c = none
    rw [mm_u_row (fun q => hn (by rw [q.1, q.2]; exact ho))]
    exact (h1 c).2.2
  · show mm_u M.2.2.1 o i k (some (f, j)) x y z ≠ some (a, b)
    unfold mm_u
    split
    · intro q
      cases q
      exact hn hf
    · exact h2 x y z
/-- n places are made, and handed to the fields a, a + 1, .. of (o, i) -/
def mkr (o i s a : Nat) : Nat → mm_M → mm_M
  | 0, M => M
  | n + 1, M => mm_sR (mm_mkd (mkr o i s a n M) (a + n + s) i) o i (a + n) (some (a + n + s, i))
theorem mkr_at {o i s a : Nat} {M : mm_M} : ∀ n, (mkr o i s a n M).1 = M.1 ∧ (mkr o i s a n M).2.1 = M.2.1 ∧ (∀ x y z, (mkr o i s a n M).2.2.1 x y z = if x = o ∧ y = i ∧ a ≤ z ∧ z < a + n then some (z + s, i) else M.2.2.1 x y z) ∧ ∀ x y, (mkr o i s a n M).2.2.2 x y ↔ (y = i ∧ a + s ≤ x ∧ x < a + s + n) ∨ M.2.2.2 x y
  | 0 => ⟨rfl, rfl, fun x y z => by rw [if_neg (by omega)]; rfl, fun x y => ⟨fun h => Or.inr h, fun h => h.elim (fun q => by omega) id⟩⟩
  | n + 1 => by
    obtain ⟨h1, h2, h3, h4⟩ := mkr_at (o := o) (i := i) (s := s) (a := a) (M := M) n
    refine ⟨h1, h2, fun x y z => ?_, fun x y => ?_⟩
    · show mm_u (mkr o i s a n M).2.2.1 o i (a + n) (some (a + n + s, i)) x y z = _
      rw [u3, h3]
      by_cases q : x = o ∧ y = i ∧ z = a + n
      · rw [if_pos q, if_pos ⟨q.1, q.2.1, by omega, by omega⟩, q.2.2]
      · rw [if_neg q]
        by_cases q2 : x = o ∧ y = i ∧ a ≤ z ∧ z < a + n
        · rw [if_pos q2, if_pos ⟨q2.1, q2.2.1, q2.2.2.1, by omega⟩]
        · rw [if_neg q2, if_neg (fun w => q2 ⟨w.1, w.2.1, w.2.2.1, by
            by_cases e : z = a + n
            · exact absurd ⟨w.1, w.2.1, e⟩ q
            · omega⟩)]
    · show (x = a + n + s ∧ y = i) ∨ (mkr o i s a n M).2.2.2 x y ↔ _
      rw [h4]
      constructor
      · rintro (q | q | q)
        · exact Or.inl ⟨q.2, by omega, by omega⟩
        · exact Or.inl ⟨q.1, by omega, by omega⟩
        · exact Or.inr q
      · rintro (q | q)
        · by_cases e : x = a + n + s
          · exact Or.inl ⟨e, q.1⟩
          · exact Or.inr (Or.inl ⟨q.1, by omega, by omega⟩)
        · exact Or.inr (Or.inr q)
theorem mkr_cln {o i s a : Nat} {M : mm_M} (h : CLN M) (ho : M.2.2.2 o i) : ∀ n, CLN (mkr o i s a n M)
  | 0 => h
  | n + 1 => ((mkr_cln h ho n).new).sR (Or.inr (((mkr_at n).2.2.2 o i).mpr (Or.inr ho))) (Or.inl ⟨rfl, rfl⟩)
section MK
variable {g : mm_F} {cc : ByteArray} {Γ : mm_G} {Q : Option mm_V → mm_M → Prop} {cut : Nat → Option mm_X} {N pc p2 : Nat} {ls : List (Option mm_V)} {st : List mm_V} {M : mm_M} {u w : Nat}
theorem xs0 {ins : Instr} {len : Nat} (d : decode cc pc = .ok (ins, len)) (h : mm_i g Γ Q (fun pc ls st M u w => mm_cut (cut pc) ls st M u w (mm_x g cc Γ cut Q N pc ls st M u w)) ins len pc ls st M u w) : mm_x g cc Γ cut Q (N + 1) pc ls st M u w := by
  unfold mm_x mm_s
  rw [d]
  exact h
/-- a place for an array is made and handed to a field -/
theorem seg {o i s a n ln ci ix : Nat} {x : Int32} {at_ : ArrayType} (hal : g.2.2.2.1 = true) (hM : CLN M) (ho : M.2.2.2 o i) (hnm : ∀ t, t ≤ n → ¬ M.2.2.2 (a + t + s) i)
    (d0 : decode cc pc = .ok (.aload_n 0, 1)) (dp : ∀ (K : mm_K0) (st : List mm_V) (M : mm_M) (u w : Nat), K p2 [some (.inr (.inr (some (o, i))))] (.inl x :: st) M u w → mm_s g Γ Q K (decode cc (pc + 1)) (pc + 1) [some (.inr (.inr (some (o, i))))] st M u w)
    (d2 : decode cc p2 = .ok (.newarray at_, 2)) (d3 : decode cc (p2 + 2) = .ok (.putfield ix, 3)) (hx : ¬ x < 0 ∧ x.toNatClampNeg = ln ∧ ln ≤ 60000) (hat : mm_at0 at_) (hY : mm_Y (a + n + s) = .inr (newarray.typeOf at_, ln)) (h9 : a + n + s ≠ 999) (hu : u + 1 ≤ g.2.2.2.2.1) (hw : w + ln ≤ g.2.2.2.2.2.1)
    (hFL : mm_FL g.1 ix = some (ci, a + n)) (hYo : mm_Y o = .inl ci) (ho9 : o ≠ 999) (hfin : mm_pf g ci (a + n)) (hty : mm_isR (mm_ft ci (a + n)) = true)
    (k : mm_x g cc Γ (fun _ => none) Q N (p2 + 5) [some (.inr (.inr (some (o, i))))] [] (mkr o i s a (n + 1) M) (u + 1) (w + ln)) : mm_x g cc Γ (fun _ => none) Q (N + 4) pc [some (.inr (.inr (some (o, i))))] [] (mkr o i s a n M) u w := by
  obtain ⟨-, -, -, m4⟩ := mkr_at (o := o) (i := i) (s := s) (a := a) (M := M) n
  have mo : (mkr o i s a n M).2.2.2 o i := (m4 o i).mpr (Or.inr ho)
  have cl := mkr_cln (s := s) (a := a) hM ho n
  have nm : ¬ (mkr o i s a n M).2.2.2 (a + n + s) i := fun z => by
    rcases (m4 _ _).mp z with q | q
    · omega
    · exact hnm n (Nat.le_refl _) q
  have k' : mm_x g cc Γ (fun _ => none) Q N (p2 + 5) [some (.inr (.inr (some (o, i))))] [] (mm_sR (mm_mkd (mkr o i s a n M) (a + n + s) i) o i (a + n) (some (a + n + s, i))) (u + 1) (w + ln) := k
  generalize mkr o i s a n M = M1 at *
  refine xs0 d0 ⟨rfl, ?_⟩
  show mm_x g cc Γ (fun _ => none) Q (N + 3) (pc + 1) [some (.inr (.inr (some (o, i))))] [.inr (.inr (some (o, i)))] M1 u w
  unfold mm_x
  refine dp _ _ _ _ _ ?_
  show mm_x g cc Γ (fun _ => none) Q (N + 2) p2 [some (.inr (.inr (some (o, i))))] [.inl x, .inr (.inr (some (o, i)))] M1 u w
  refine xs0 d2 ⟨rfl, hal, ?_⟩
  show ¬ x < 0 ∧ x.toNatClampNeg ≤ 60000 ∧ mm_at0 at_ ∧ _
  rw [hx.2.1]
  refine ⟨hx.1, hx.2.2, hat, a + n + s, i, hY, h9, nm, (cl _ _ nm).2, ⟨mo, trivial⟩, ⟨mo, trivial⟩, hu, hw, ?_⟩
  rw [new_eq cl nm]
  show mm_x g cc Γ (fun _ => none) Q (N + 1) (p2 + 2) [some (.inr (.inr (some (o, i))))] [.inr (.inr (some (a + n + s, i))), .inr (.inr (some (o, i)))] (mm_mkd M1 (a + n + s) i) (u + 1) (w + ln)
  refine xs0 d3 ⟨rfl, ?_⟩
  rw [hFL]
  exact ⟨⟨hYo, ho9, Or.inr mo⟩, hfin, hty, k'⟩
/-- a number is handed to a field -/
theorem segI {o i fld ci ix : Nat} {x : Int32} (ho : M.2.2.2 o i) (hl : ls[0]? = some (some (.inr (.inr (some (o, i))))))
    (d0 : decode cc pc = .ok (.aload_n 0, 1)) (dp : ∀ (K : mm_K0) (st : List mm_V) (M : mm_M) (u w : Nat), K p2 ls (.inl x :: st) M u w → mm_s g Γ Q K (decode cc (pc + 1)) (pc + 1) ls st M u w)
    (d3 : decode cc p2 = .ok (.putfield ix, 3)) (hFL : mm_FL g.1 ix = some (ci, fld)) (hYo : mm_Y o = .inl ci) (ho9 : o ≠ 999) (hfin : mm_pf g ci fld) (hty : mm_ft ci fld = .int)
    (k : mm_x g cc Γ (fun _ => none) Q N (p2 + 3) ls [] (mm_sI M o i fld x) u w) : mm_x g cc Γ (fun _ => none) Q (N + 3) pc ls [] M u w := by
  refine xs0 d0 ⟨rfl, ?_⟩
  unfold mm_lV
  show match ls[0]? with | some (some v) => _ | _ => False
  rw [hl]
  show mm_x g cc Γ (fun _ => none) Q (N + 2) (pc + 1) ls [.inr (.inr (some (o, i)))] M u w
  unfold mm_x
  refine dp _ _ _ _ _ ?_
  show mm_x g cc Γ (fun _ => none) Q (N + 1) p2 ls [.inl x, .inr (.inr (some (o, i)))] M u w
  refine xs0 d3 ⟨rfl, ?_⟩
  rw [hFL]
  refine ⟨⟨hYo, ho9, ho⟩, hfin, ?_⟩
  show mm_put M (mm_ft ci fld) o i fld (.inl x) _
  rw [hty]
  exact ⟨Or.inl rfl, rfl, rfl, k⟩
theorem segL {o i fld ci ix : Nat} {x : Int64} (ho : M.2.2.2 o i) (hl : ls[0]? = some (some (.inr (.inr (some (o, i))))))
    (d0 : decode cc pc = .ok (.aload_n 0, 1)) (dp : ∀ (K : mm_K0) (st : List mm_V) (M : mm_M) (u w : Nat), K p2 ls (.inr (.inl x) :: st) M u w → mm_s g Γ Q K (decode cc (pc + 1)) (pc + 1) ls st M u w)
    (d3 : decode cc p2 = .ok (.putfield ix, 3)) (hFL : mm_FL g.1 ix = some (ci, fld)) (hYo : mm_Y o = .inl ci) (ho9 : o ≠ 999) (hfin : mm_pf g ci fld) (hty : mm_ft ci fld = .long)
    (k : mm_x g cc Γ (fun _ => none) Q N (p2 + 3) ls [] (mm_sL M o i fld x) u w) : mm_x g cc Γ (fun _ => none) Q (N + 3) pc ls [] M u w := by
  refine xs0 d0 ⟨rfl, ?_⟩
  unfold mm_lV
  show match ls[0]? with | some (some v) => _ | _ => False
  rw [hl]
  show mm_x g cc Γ (fun _ => none) Q (N + 2) (pc + 1) ls [.inr (.inr (some (o, i)))] M u w
  unfold mm_x
  refine dp _ _ _ _ _ ?_
  show mm_x g cc Γ (fun _ => none) Q (N + 1) p2 ls [.inr (.inl x), .inr (.inr (some (o, i)))] M u w
  refine xs0 d3 ⟨rfl, ?_⟩
  rw [hFL]
  refine ⟨⟨hYo, ho9, ho⟩, hfin, ?_⟩
  show mm_put M (mm_ft ci fld) o i fld (.inr (.inl x)) _
  rw [hty]
  exact ⟨rfl, k⟩
/-- Object's init -/
theorem seg0 {o i ix nn ii : Nat} (d0 : decode cc pc = .ok (.aload_n 0, 1)) (hl : ls[0]? = some (some (.inr (.inr (some (o, i)))))) (d1 : decode cc (pc + 1) = .ok (.invokespecial ix, 3)) (hMT : mm_MT g.1 ix = some (ii, nn, 3)) (k : mm_x g cc Γ (fun _ => none) Q N (pc + 4) ls [] M u w) : mm_x g cc Γ (fun _ => none) Q (N + 2) pc ls [] M u w := by
  refine xs0 d0 ⟨rfl, ?_⟩
  unfold mm_lV
  show match ls[0]? with | some (some v) => _ | _ => False
  rw [hl]
  show mm_x g cc Γ (fun _ => none) Q (N + 1) (pc + 1) ls [.inr (.inr (some (o, i)))] M u w
  refine xs0 d1 ⟨rfl, ?_⟩
  rw [hMT]
  exact ⟨Nat.zero_le _, k⟩
theorem segR (d : decode cc pc = .ok (.return_, 1)) (hu : u ≤ g.2.2.2.2.1) (hw : w ≤ g.2.2.2.2.2.1) (hr : g.2.2.1 = none) (k : Q none M) : mm_x g cc Γ (fun _ => none) Q (N + 1) pc ls [] M u w := xs0 d ⟨rfl, hu, hw, hr, rfl, k⟩
theorem dpB {n : Int} (d : decode cc pc = .ok (.bipush n, 2)) (K : mm_K0) (st : List mm_V) (M : mm_M) (u w : Nat) (h : K (pc + 2) ls (.inl (Int8.ofInt n).toInt32 :: st) M u w) : mm_s g Γ Q K (decode cc pc) pc ls st M u w := by
  rw [d]
  exact ⟨rfl, h⟩
theorem dpS {n : Int} (d : decode cc pc = .ok (.sipush n, 3)) (K : mm_K0) (st : List mm_V) (M : mm_M) (u w : Nat) (h : K (pc + 3) ls (.inl (Int16.ofInt n).toInt32 :: st) M u w) : mm_s g Γ Q K (decode cc pc) pc ls st M u w := by
  rw [d]
  exact ⟨rfl, h⟩
theorem dpI {n : Int} (d : decode cc pc = .ok (.iconst n, 1)) (K : mm_K0) (st : List mm_V) (M : mm_M) (u w : Nat) (h : K (pc + 1) ls (.inl (Int32.ofInt n) :: st) M u w) : mm_s g Γ Q K (decode cc pc) pc ls st M u w := by
  rw [d]
  exact ⟨rfl, h⟩
end MK
