set_option maxRecDepth 100000 in
set_option maxHeartbeats 4000000 in
theorem whole_start {p : Program} {e : Env} {s : State} {m : MethodId} {below : List Frame} {meth : Method} {c : Code} (l : Launch) {b L : Nat} {xs : Nat → Int32} (hL : L ≤ 3072) (C0 : lw_At p s m meth c b L xs) : W p l e room_1 s m #[Value.ref b] below meth c s.heap [] 0 0 (lw_Z below #[Value.ref b] s) (entryFrame m ([Value.ref b] : List Value).toArray 4) := by
  obtain ⟨hx, hb, hr, hml, hown, hts, hX, hbl, hlocks, hgv⟩ := C0
  obtain ⟨D, dA, hK⟩ := law_K hts
  have X : mm_ctx p s m #[Value.ref b] meth c room_1 (lw_g L xs) code D dA s.heap.size := ⟨hx, hb, hml, hown, fun w hw => hts w (mm_T_lw hw), hK, hlocks, hr, fun h => absurd h (by decide : ¬ (false : Bool) = true), Nat.le_refl _, Nat.le_refl _, Nat.le_refl _, Nat.le_of_ble_eq_true rfl, Nat.le_of_ble_eq_true rfl⟩
  have rI : ∀ (x : Int32) (ty : FieldType) (M : mm_M) (ad : Nat → Nat → Nat) (H : Heap) (locs : List Loc) (la : Array Slot) (pc : Nat), lw_post (some (.inl x)) M → (lw_g L xs).2.2.1 = some ty → narrow ty (.int x) = .int x → decode code pc = .ok (.ireturn, 1) → mm_h (lw_g L xs) D dA s.heap.size (fun _ _ => b) m_0 s M ad H locs → W p l e room_1 s m #[Value.ref b] below meth c H locs (lw_g L xs).2.2.2.2.1 (lw_g L xs).2.2.2.2.2.1 (lw_Z below #[Value.ref b] s) (F0 m pc la [.int x]) := by
    intro x ty M ad H locs la pc hq ht hn hd hh
    have ex : x = 1 := Sum.inl.inj (Option.some.inj hq)
    subst ex
    have k := lw_ret (l := l) (e := e) (s := s) (below := below) (b := b) (m := m) (H := H) (ls := la) hx hb hr hlocks hd
    have k2 := W.forget (L := locs) (fun q hq => hh.2.2.2.2.2.2 q hq) k
    rw [List.nil_append] at k2
    exact k2
  have rL : ∀ (x : Int64) (M : mm_M) (ad : Nat → Nat → Nat) (H : Heap) (locs : List Loc) (la : Array Slot) (pc : Nat), lw_post (some (.inr (.inl x))) M → (lw_g L xs).2.2.1 = some .long → decode code pc = .ok (.lreturn, 1) → mm_h (lw_g L xs) D dA s.heap.size (fun _ _ => b) m_0 s M ad H locs → W p l e room_1 s m #[Value.ref b] below meth c H locs (lw_g L xs).2.2.2.2.1 (lw_g L xs).2.2.2.2.2.1 (lw_Z below #[Value.ref b] s) (F0 m pc la [.long x]) := by
    intro x M ad H locs la pc hq
    exact absurd (Option.some.inj hq) (by intro z; cases z)
  have rV : ∀ (M : mm_M) (ad : Nat → Nat → Nat) (H : Heap) (locs : List Loc) (la : Array Slot) (pc : Nat), lw_post none M → (lw_g L xs).2.2.1 = none → decode code pc = .ok (.return_, 1) → mm_h (lw_g L xs) D dA s.heap.size (fun _ _ => b) m_0 s M ad H locs → W p l e room_1 s m #[Value.ref b] below meth c H locs (lw_g L xs).2.2.2.2.1 (lw_g L xs).2.2.2.2.2.1 (lw_Z below #[Value.ref b] s) (F0 m pc la []) := by
    intro M ad H locs la pc hq
    exact absurd hq (by intro z; cases z)
  have lp : ∀ (k pc : Nat), h18 pc = true → ∀ (ls : List (Option mm_V)) (st : List mm_V) (M' : mm_M) (u w : Nat), p_law L k pc ls st M' u w → mm_W p l e room_1 s m #[Value.ref b] below meth c (lw_Z below #[Value.ref b] s) (lw_g L xs) D dA s.heap.size (fun _ _ => b) m_0 pc ls st M' u w := by
    intro k
    induction k using Nat.strongRecOn with
    | ind k ih =>
      intro pc hpc ls st M' u w hP
      refine mm_sound X lw_ok ?_ rI rL rV 120 pc ls st M' u w (lw_turn hL hP)
      intro pc' Y hY ls st M' u w hYs
      unfold mm_cutI at hY
      split at hY
      · rename_i hpc'
        cases hY
        obtain ⟨k', hk', hP'⟩ := hYs
        exact ih k' hk' pc' hpc' ls st M' u w hP'
      · cases hY
  have hfin := mm_sound X lw_ok (cut := mm_cutI h18 (p_law L) 601) (fun pc' Y hY ls st M' u w hYs => by
      unfold mm_cutI at hY
      split at hY
      · rename_i hpc'
        cases hY
        obtain ⟨k', -, hP'⟩ := hYs
        exact lp k' pc' hpc' ls st M' u w hP'
      · cases hY) rI rL rV 60 0 [some (.inr (.inr (some (999, 0)))), none, none, none] [] m_0 0 0 lw_begin
  rw [lg_entry_eq]
  refine hfin (fun _ _ => b) s.heap [] _ ⟨fun h => absurd h (by decide : ¬ (true : Bool) = false), fun f i h => ⟨rfl, h⟩, ⟨fun f i hf h => absurd h.1 hf, fun f i g j hf _ h => absurd h.1 hf⟩, ⟨hX, hbl, rfl, rfl⟩, va_S.rf⟩ ?_
  exact lv_entry [Value.ref b] (n := 4) (show 1 ≤ 4 by decide)
