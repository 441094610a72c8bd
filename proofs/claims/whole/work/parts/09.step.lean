/-! rewriting rows of the evaluator -/
def mm_kk (g : mm_F) (cc : ByteArray) (Γ : mm_G) (cut : Nat → Option mm_X) (Q : Option mm_V → mm_M → Prop) (n : Nat) : mm_K0 := fun pc ls st M u w => mm_cut (cut pc) ls st M u w (mm_x g cc Γ cut Q n pc ls st M u w)
def mm_iv (g : mm_F) (Γ : mm_G) (K : mm_K0) (j : Option Nat) (ix : Nat) (st : List mm_V) (pc : Nat) (ls : List (Option mm_V)) (M : mm_M) (u w : Nat) : Prop := match j with
  | some j => u ≤ g.2.2.2.2.1 ∧ w ≤ g.2.2.2.2.2.1 ∧ mm_jm j st fun v r => mm_sm r ≤ 8 ∧ K (pc + 3) ls (v :: r) M u w
  | none => mm_o (mm_MT g.1 ix) fun q => q.2.2 = 0 ∧ mm_pN q.2.1 [] st fun As r => mm_call g Γ K q.1 As r pc ls M u w
section MMR
variable {g : mm_F} {cc : ByteArray} {Γ : mm_G} {cut : Nat → Option mm_X} {Q : Option mm_V → mm_M → Prop} {K : mm_K0} {n len pc u w : Nat} {ls : List (Option mm_V)} {st r : List mm_V} {M : mm_M}
theorem xs_x : mm_x g cc Γ cut Q (n + 1) pc ls st M u w = mm_s g Γ Q (mm_kk g cc Γ cut Q n) (decode cc pc) pc ls st M u w := rfl
theorem xs_kk : mm_kk g cc Γ cut Q n pc ls st M u w = mm_cut (cut pc) ls st M u w (mm_x g cc Γ cut Q n pc ls st M u w) := rfl
theorem xs_s {ins : Instr} : mm_s g Γ Q K (.ok (ins, len)) pc ls st M u w = mm_i g Γ Q K ins len pc ls st M u w := rfl
theorem xs_cutI {hds : Nat → Bool} {P : Nat → Nat → mm_X} {b : Nat} : mm_cutI hds P b pc = if hds pc = true then some (fun ls st M u w => ∃ k, k < b ∧ P k pc ls st M u w) else none := rfl
theorem xs_c {d : Prop} : mm_cut none ls st M u w d = d := rfl
theorem xs_d {d : Prop} {X : mm_X} : mm_cut (some X) ls st M u w d = X ls st M u w := rfl
theorem xs_o {α : Type} {a : α} {k : α → Prop} : mm_o (some a) k = k a := rfl
theorem xs_p1 {v : mm_V} {k : mm_V → List mm_V → Prop} : mm_p1 (v :: r) k = k v r := rfl
theorem xs_pI {x : Int32} {k : Int32 → List mm_V → Prop} : mm_pI (.inl x :: r) k = k x r := rfl
theorem xs_pL {x : Int64} {k : Int64 → List mm_V → Prop} : mm_pL (.inr (.inl x) :: r) k = k x r := rfl
theorem xs_pR {f i : Nat} {k : Nat → Nat → List mm_V → Prop} : mm_pR (.inr (.inr (some (f, i))) :: r) k = k f i r := rfl
theorem xs_vI {x : Int32} {k : Int32 → Prop} : mm_vI (.inl x) k = k x := rfl
theorem xs_vL {x : Int64} {k : Int64 → Prop} : mm_vL (.inr (.inl x)) k = k x := rfl
theorem xs_vQ {x : Option (Nat × Nat)} {k : Option (Nat × Nat) → Prop} : mm_vQ (.inr (.inr x)) k = k x := rfl
theorem xs_lV0 {v : mm_V} {l : List (Option mm_V)} {k : mm_V → Prop} : mm_lV (some v :: l) 0 k = k v := rfl
theorem xs_lVs {x : Option mm_V} {l : List (Option mm_V)} {i : Nat} {k : mm_V → Prop} : mm_lV (x :: l) (i + 1) k = mm_lV l i k := rfl
theorem xs_pN0 {acc : List mm_V} {k : List mm_V → List mm_V → Prop} : mm_pN 0 acc st k = k acc st := rfl
theorem xs_pNs {v : mm_V} {acc : List mm_V} {m : Nat} {k : List mm_V → List mm_V → Prop} : mm_pN (m + 1) acc (v :: r) k = mm_pN m (v :: acc) r k := rfl
theorem xs_k0 : mm_kill ls 0 = ls := rfl
theorem xs_ts0 {x : Int32} {lo : Int} {k : Int → Prop} {d : Prop} : mm_ts x lo [] k d = d := rfl
theorem xs_ts1 {x : Int32} {lo off : Int} {l : List Int} {k : Int → Prop} {d : Prop} : mm_ts x lo (off :: l) k d = ((x = Int32.ofInt lo → k off) ∧ (¬ x = Int32.ofInt lo → mm_ts x (lo + 1) l k d)) := rfl
theorem xs_ks0 {x : Int32} {k : Int → Prop} {d : Prop} : mm_ks x [] k d = d := rfl
theorem xs_ks1 {x : Int32} {q : Int × Int} {l : List (Int × Int)} {k : Int → Prop} {d : Prop} : mm_ks x (q :: l) k d = ((x = Int32.ofInt q.1 → k q.2) ∧ (¬ x = Int32.ofInt q.1 → mm_ks x l k d)) := rfl
theorem xs_0eq {x : Int32} : mm_c0 .eq x = (x = 0) := rfl
theorem xs_0ne {x : Int32} : mm_c0 .ne x = (¬ x = 0) := rfl
theorem xs_0lt {x : Int32} : mm_c0 .lt x = (x < 0) := rfl
theorem xs_0ge {x : Int32} : mm_c0 .ge x = (0 ≤ x) := rfl
theorem xs_0gt {x : Int32} : mm_c0 .gt x = (0 < x) := rfl
theorem xs_0le {x : Int32} : mm_c0 .le x = (x ≤ 0) := rfl
theorem xs_2eq {x y : Int32} : mm_c2 .eq x y = (x = y) := rfl
theorem xs_2ne {x y : Int32} : mm_c2 .ne x y = (¬ x = y) := rfl
theorem xs_2lt {x y : Int32} : mm_c2 .lt x y = (x < y) := rfl
theorem xs_2ge {x y : Int32} : mm_c2 .ge x y = (y ≤ x) := rfl
theorem xs_2gt {x y : Int32} : mm_c2 .gt x y = (y < x) := rfl
theorem xs_2le {x y : Int32} : mm_c2 .le x y = (x ≤ y) := rfl
theorem xs_catI {x : Int32} : mm_cat (.inl x) = 1 := rfl
theorem xs_catL {x : Int64} : mm_cat (.inr (.inl x)) = 2 := rfl
theorem xs_catR {x : Option (Nat × Nat)} : mm_cat (.inr (.inr x)) = 1 := rfl
theorem xs_sm0 : mm_sm [] = 0 := rfl
theorem xs_sm1 {v : mm_V} : mm_sm (v :: r) = mm_cat v + mm_sm r := rfl
theorem xs_tl1 {v : mm_V} : (some v).toList ++ r = v :: r := rfl
theorem xs_tl0 : (none : Option mm_V).toList ++ r = r := rfl
theorem xs_gl {q : Nat × mm_Ct} {L : List (Nat × mm_Ct)} {id : Nat} {As : List mm_V} {P : Option mm_V → mm_M → Prop} : mm_gl (q :: L) id As M P = if id = q.1 then q.2 As M P else mm_gl L id As M P := rfl
theorem xs_jm0 {k : mm_V → List mm_V → Prop} : mm_jm 0 st k = (mm_pI st fun y r => mm_pI r fun x r => k (.inl (if x < y then y else x)) r) := rfl
theorem xs_jm1 {k : mm_V → List mm_V → Prop} : mm_jm 1 st k = (mm_pI st fun x r => k (.inl (if 0 ≤ x then x else 0 - x)) r) := rfl
theorem xs_jm2 {k : mm_V → List mm_V → Prop} : mm_jm 2 st k = (mm_pL st fun y r => mm_pL r fun x r => k (.inr (.inl (if y < x then x else y))) r) := rfl
theorem xs_jm3 {k : mm_V → List mm_V → Prop} : mm_jm 3 st k = (mm_pL st fun y r => mm_pL r fun x r => k (.inr (.inl (if y < x then y else x))) r) := rfl
theorem xs_nI {x : Int32} : (narrow .int (.int x) = .int x) = True := by simp [narrow]
theorem xs_fI {x : Int32} : (fits .int (.int x) = true) = True := by simp [fits]
theorem xs_putI {ty : FieldType} {f i k : Nat} {x : Int32} {kk : mm_M → Prop} : mm_put M ty f i k (.inl x) kk = ((ty = .int ∨ ty = .boolean) ∧ narrow ty (.int x) = .int x ∧ fits ty (.int x) = true ∧ kk (mm_sI M f i k x)) := rfl
theorem xs_putL {ty : FieldType} {f i k : Nat} {x : Int64} {kk : mm_M → Prop} : mm_put M ty f i k (.inr (.inl x)) kk = (ty = .long ∧ kk (mm_sL M f i k x)) := rfl
theorem xs_putR {ty : FieldType} {f i k : Nat} {x : Option (Nat × Nat)} {kk : mm_M → Prop} : mm_put M ty f i k (.inr (.inr x)) kk = (mm_isR ty = true ∧ kk (mm_sR M f i k x)) := rfl
theorem fv_0 : ((0 : Fin 4) : Nat) = 0 := rfl
theorem fv_1 : ((1 : Fin 4) : Nat) = 1 := rfl
theorem fv_2 : ((2 : Fin 4) : Nat) = 2 := rfl
theorem fv_3 : ((3 : Fin 4) : Nat) = 3 := rfl
theorem st1_0 {x : Option mm_V} {l : List (Option mm_V)} {v : mm_V} : mm_st1 (x :: l) 0 v = some v :: l := rfl
theorem st1_1I {a : Int32} {y : Option mm_V} {l : List (Option mm_V)} {v : mm_V} : mm_st1 (some (.inl a) :: y :: l) 1 v = some (.inl a) :: some v :: l := rfl
theorem st2_1I {a : Int32} {y z : Option mm_V} {l : List (Option mm_V)} {v : mm_V} : mm_st2 (some (.inl a) :: y :: z :: l) 1 v = some (.inl a) :: some v :: none :: l := rfl
theorem st1_1L {a : Int64} {y : Option mm_V} {l : List (Option mm_V)} {v : mm_V} : mm_st1 (some (.inr (.inl a)) :: y :: l) 1 v = none :: some v :: l := rfl
theorem st2_1L {a : Int64} {y z : Option mm_V} {l : List (Option mm_V)} {v : mm_V} : mm_st2 (some (.inr (.inl a)) :: y :: z :: l) 1 v = none :: some v :: none :: l := rfl
theorem st1_1R {a : Option (Nat × Nat)} {y : Option mm_V} {l : List (Option mm_V)} {v : mm_V} : mm_st1 (some (.inr (.inr a)) :: y :: l) 1 v = some (.inr (.inr a)) :: some v :: l := rfl
theorem st2_1R {a : Option (Nat × Nat)} {y z : Option mm_V} {l : List (Option mm_V)} {v : mm_V} : mm_st2 (some (.inr (.inr a)) :: y :: z :: l) 1 v = some (.inr (.inr a)) :: some v :: none :: l := rfl
theorem st1_1N {y : Option mm_V} {l : List (Option mm_V)} {v : mm_V} : mm_st1 (none :: y :: l) 1 v = none :: some v :: l := rfl
theorem st2_1N {y z : Option mm_V} {l : List (Option mm_V)} {v : mm_V} : mm_st2 (none :: y :: z :: l) 1 v = none :: some v :: none :: l := rfl
theorem st2_0 {x y : Option mm_V} {l : List (Option mm_V)} {v : mm_V} : mm_st2 (x :: y :: l) 0 v = some v :: none :: l := rfl
theorem mm_kills {x : Option mm_V} {l : List (Option mm_V)} {i : Nat} : mm_kill (x :: l) (i + 2) = x :: mm_kill l (i + 1) := by
  show (match (x :: l)[i + 1]? with | some (some (.inr (.inl _))) => (x :: l).set (i + 1) none | _ => x :: l) = x :: (match l[i]? with | some (some (.inr (.inl _))) => l.set i none | _ => l)
  rw [List.getElem?_cons_succ]
  split <;> rfl
theorem st1_s {x : Option mm_V} {l : List (Option mm_V)} {i : Nat} {v : mm_V} : mm_st1 (x :: l) (i + 2) v = x :: mm_st1 l (i + 1) v := by
  unfold mm_st1
  rw [mm_kills]
  rfl
theorem st2_s {x : Option mm_V} {l : List (Option mm_V)} {i : Nat} {v : mm_V} : mm_st2 (x :: l) (i + 2) v = x :: mm_st2 l (i + 1) v := by
  unfold mm_st2
  rw [mm_kills]
  rfl
theorem xi_iconst {n : Int} : mm_i g Γ Q K (.iconst n) len pc ls st M u w = (len = 1 ∧ K (pc + 1) ls (.inl (Int32.ofInt n) :: st) M u w) := rfl
theorem xi_bipush {n : Int} : mm_i g Γ Q K (.bipush n) len pc ls st M u w = (len = 2 ∧ K (pc + 2) ls (.inl (Int8.ofInt n).toInt32 :: st) M u w) := rfl
theorem xi_sipush {n : Int} : mm_i g Γ Q K (.sipush n) len pc ls st M u w = (len = 3 ∧ K (pc + 3) ls (.inl (Int16.ofInt n).toInt32 :: st) M u w) := rfl
theorem xi_lconst {n : Fin 2} : mm_i g Γ Q K (.lconst n) len pc ls st M u w = (len = 1 ∧ K (pc + 1) ls (.inr (.inl (Int64.ofNat (n : Nat))) :: st) M u w) := rfl
theorem xi_ldc {i : Nat} : mm_i g Γ Q K (.ldc i) len pc ls st M u w = (len = 2 ∧ mm_o (mm_CI g.1 i) fun v => K (pc + 2) ls (.inl v :: st) M u w) := rfl
theorem xi_ldc2_w {i : Nat} : mm_i g Γ Q K (.ldc2_w i) len pc ls st M u w = (len = 3 ∧ mm_o (mm_CL g.1 i) fun v => K (pc + 3) ls (.inr (.inl v) :: st) M u w) := rfl
theorem xi_iload_n {k : Fin 4} : mm_i g Γ Q K (.iload_n k) len pc ls st M u w = (len = 1 ∧ mm_lV ls (k : Nat) fun v => mm_vI v fun x => K (pc + 1) ls (.inl x :: st) M u w) := rfl
theorem xi_iload {k : Nat} : mm_i g Γ Q K (.iload k) len pc ls st M u w = (len = 2 ∧ mm_lV ls k fun v => mm_vI v fun x => K (pc + 2) ls (.inl x :: st) M u w) := rfl
theorem xi_lload_n {k : Fin 4} : mm_i g Γ Q K (.lload_n k) len pc ls st M u w = (len = 1 ∧ mm_lV ls (k : Nat) fun v => mm_vL v fun x => K (pc + 1) ls (.inr (.inl x) :: st) M u w) := rfl
theorem xi_lload {k : Nat} : mm_i g Γ Q K (.lload k) len pc ls st M u w = (len = 2 ∧ mm_lV ls k fun v => mm_vL v fun x => K (pc + 2) ls (.inr (.inl x) :: st) M u w) := rfl
theorem xi_aload_n {k : Fin 4} : mm_i g Γ Q K (.aload_n k) len pc ls st M u w = (len = 1 ∧ mm_lV ls (k : Nat) fun v => mm_vQ v fun x => K (pc + 1) ls (.inr (.inr x) :: st) M u w) := rfl
theorem xi_aload {k : Nat} : mm_i g Γ Q K (.aload k) len pc ls st M u w = (len = 2 ∧ mm_lV ls k fun v => mm_vQ v fun x => K (pc + 2) ls (.inr (.inr x) :: st) M u w) := rfl
theorem xi_istore_n {k : Fin 4} : mm_i g Γ Q K (.istore_n k) len pc ls st M u w = (len = 1 ∧ (k : Nat) < g.2.1 ∧ mm_pI st fun x r => K (pc + 1) (mm_st1 ls (k : Nat) (.inl x)) r M u w) := rfl
theorem xi_istore {k : Nat} : mm_i g Γ Q K (.istore k) len pc ls st M u w = (len = 2 ∧ k < g.2.1 ∧ mm_pI st fun x r => K (pc + 2) (mm_st1 ls k (.inl x)) r M u w) := rfl
theorem xi_lstore_n {k : Fin 4} : mm_i g Γ Q K (.lstore_n k) len pc ls st M u w = (len = 1 ∧ (k : Nat) + 1 < g.2.1 ∧ mm_pL st fun x r => K (pc + 1) (mm_st2 ls (k : Nat) (.inr (.inl x))) r M u w) := rfl
theorem xi_lstore {k : Nat} : mm_i g Γ Q K (.lstore k) len pc ls st M u w = (len = 2 ∧ k + 1 < g.2.1 ∧ mm_pL st fun x r => K (pc + 2) (mm_st2 ls k (.inr (.inl x))) r M u w) := rfl
theorem xi_astore_n {k : Fin 4} : mm_i g Γ Q K (.astore_n k) len pc ls st M u w = (len = 1 ∧ (k : Nat) < g.2.1 ∧ mm_pR st fun f i r => K (pc + 1) (mm_st1 ls (k : Nat) (.inr (.inr (some (f, i))))) r M u w) := rfl
theorem xi_astore {k : Nat} : mm_i g Γ Q K (.astore k) len pc ls st M u w = (len = 2 ∧ k < g.2.1 ∧ mm_pR st fun f i r => K (pc + 2) (mm_st1 ls k (.inr (.inr (some (f, i))))) r M u w) := rfl
theorem xi_iinc {k : Nat} {n : Int} : mm_i g Γ Q K (.iinc k n) len pc ls st M u w = (len = 3 ∧ k < g.2.1 ∧ mm_lV ls k fun v => mm_vI v fun x => K (pc + 3) (mm_st1 ls k (.inl (x + Int32.ofInt n))) st M u w) := rfl
theorem xi_iadd  : mm_i g Γ Q K (.iadd) len pc ls st M u w = (len = 1 ∧ mm_pI st fun y r => mm_pI r fun x r => K (pc + 1) ls (.inl (x + y) :: r) M u w) := rfl
theorem xi_isub  : mm_i g Γ Q K (.isub) len pc ls st M u w = (len = 1 ∧ mm_pI st fun y r => mm_pI r fun x r => K (pc + 1) ls (.inl (x - y) :: r) M u w) := rfl
theorem xi_imul  : mm_i g Γ Q K (.imul) len pc ls st M u w = (len = 1 ∧ mm_pI st fun y r => mm_pI r fun x r => K (pc + 1) ls (.inl (x * y) :: r) M u w) := rfl
theorem xi_iand  : mm_i g Γ Q K (.iand) len pc ls st M u w = (len = 1 ∧ mm_pI st fun y r => mm_pI r fun x r => K (pc + 1) ls (.inl (x &&& y) :: r) M u w) := rfl
theorem xi_ior  : mm_i g Γ Q K (.ior) len pc ls st M u w = (len = 1 ∧ mm_pI st fun y r => mm_pI r fun x r => K (pc + 1) ls (.inl (x ||| y) :: r) M u w) := rfl
theorem xi_ixor  : mm_i g Γ Q K (.ixor) len pc ls st M u w = (len = 1 ∧ mm_pI st fun y r => mm_pI r fun x r => K (pc + 1) ls (.inl (x ^^^ y) :: r) M u w) := rfl
theorem xi_idiv  : mm_i g Γ Q K (.idiv) len pc ls st M u w = (len = 1 ∧ mm_pI st fun y r => mm_pI r fun x r => ¬ y = 0 ∧ K (pc + 1) ls (.inl (x / y) :: r) M u w) := rfl
theorem xi_irem  : mm_i g Γ Q K (.irem) len pc ls st M u w = (len = 1 ∧ mm_pI st fun y r => mm_pI r fun x r => ¬ y = 0 ∧ K (pc + 1) ls (.inl (x - x / y * y) :: r) M u w) := rfl
theorem xi_ineg  : mm_i g Γ Q K (.ineg) len pc ls st M u w = (len = 1 ∧ mm_pI st fun x r => K (pc + 1) ls (.inl (-x) :: r) M u w) := rfl
theorem xi_ladd  : mm_i g Γ Q K (.ladd) len pc ls st M u w = (len = 1 ∧ mm_pL st fun y r => mm_pL r fun x r => K (pc + 1) ls (.inr (.inl (x + y)) :: r) M u w) := rfl
theorem xi_lsub  : mm_i g Γ Q K (.lsub) len pc ls st M u w = (len = 1 ∧ mm_pL st fun y r => mm_pL r fun x r => K (pc + 1) ls (.inr (.inl (x - y)) :: r) M u w) := rfl
theorem xi_lmul  : mm_i g Γ Q K (.lmul) len pc ls st M u w = (len = 1 ∧ mm_pL st fun y r => mm_pL r fun x r => K (pc + 1) ls (.inr (.inl (x * y)) :: r) M u w) := rfl
theorem xi_land  : mm_i g Γ Q K (.land) len pc ls st M u w = (len = 1 ∧ mm_pL st fun y r => mm_pL r fun x r => K (pc + 1) ls (.inr (.inl (x &&& y)) :: r) M u w) := rfl
theorem xi_lor  : mm_i g Γ Q K (.lor) len pc ls st M u w = (len = 1 ∧ mm_pL st fun y r => mm_pL r fun x r => K (pc + 1) ls (.inr (.inl (x ||| y)) :: r) M u w) := rfl
theorem xi_lxor  : mm_i g Γ Q K (.lxor) len pc ls st M u w = (len = 1 ∧ mm_pL st fun y r => mm_pL r fun x r => K (pc + 1) ls (.inr (.inl (x ^^^ y)) :: r) M u w) := rfl
theorem xi_ldiv  : mm_i g Γ Q K (.ldiv) len pc ls st M u w = (len = 1 ∧ mm_pL st fun y r => mm_pL r fun x r => ¬ y = 0 ∧ K (pc + 1) ls (.inr (.inl (x / y)) :: r) M u w) := rfl
theorem xi_lrem  : mm_i g Γ Q K (.lrem) len pc ls st M u w = (len = 1 ∧ mm_pL st fun y r => mm_pL r fun x r => ¬ y = 0 ∧ K (pc + 1) ls (.inr (.inl (x - x / y * y)) :: r) M u w) := rfl
theorem xi_lneg  : mm_i g Γ Q K (.lneg) len pc ls st M u w = (len = 1 ∧ mm_pL st fun x r => K (pc + 1) ls (.inr (.inl (-x)) :: r) M u w) := rfl
theorem xi_ishl  : mm_i g Γ Q K (.ishl) len pc ls st M u w = (len = 1 ∧ mm_pI st fun y r => mm_pI r fun x r => K (pc + 1) ls (.inl (x <<< (y &&& 31)) :: r) M u w) := rfl
theorem xi_ishr  : mm_i g Γ Q K (.ishr) len pc ls st M u w = (len = 1 ∧ mm_pI st fun y r => mm_pI r fun x r => K (pc + 1) ls (.inl (x >>> (y &&& 31)) :: r) M u w) := rfl
theorem xi_iushr  : mm_i g Γ Q K (.iushr) len pc ls st M u w = (len = 1 ∧ mm_pI st fun y r => mm_pI r fun x r => K (pc + 1) ls (.inl (x.toUInt32 >>> (y.toUInt32 &&& Int32.toUInt32 31)).toInt32 :: r) M u w) := rfl
theorem xi_lshl  : mm_i g Γ Q K (.lshl) len pc ls st M u w = (len = 1 ∧ mm_pI st fun y r => mm_pL r fun x r => K (pc + 1) ls (.inr (.inl (x <<< (y.toInt64 &&& 63))) :: r) M u w) := rfl
theorem xi_lshr  : mm_i g Γ Q K (.lshr) len pc ls st M u w = (len = 1 ∧ mm_pI st fun y r => mm_pL r fun x r => K (pc + 1) ls (.inr (.inl (x >>> (y.toInt64 &&& 63))) :: r) M u w) := rfl
theorem xi_lushr  : mm_i g Γ Q K (.lushr) len pc ls st M u w = (len = 1 ∧ mm_pI st fun y r => mm_pL r fun x r => K (pc + 1) ls (.inr (.inl (x.toUInt64 >>> (y.toInt64.toUInt64 &&& Int64.toUInt64 63)).toInt64) :: r) M u w) := rfl
theorem xi_i2l  : mm_i g Γ Q K (.i2l) len pc ls st M u w = (len = 1 ∧ mm_pI st fun x r => K (pc + 1) ls (.inr (.inl x.toInt64) :: r) M u w) := rfl
theorem xi_l2i  : mm_i g Γ Q K (.l2i) len pc ls st M u w = (len = 1 ∧ mm_pL st fun x r => K (pc + 1) ls (.inl x.toInt32 :: r) M u w) := rfl
theorem xi_lcmp  : mm_i g Γ Q K (.lcmp) len pc ls st M u w = (len = 1 ∧ mm_pL st fun y r => mm_pL r fun x r => K (pc + 1) ls (.inl (lg_cmp x y) :: r) M u w) := rfl
theorem xi_dup  : mm_i g Γ Q K (.dup) len pc ls st M u w = (len = 1 ∧ mm_p1 st fun v r => mm_cat v = 1 ∧ K (pc + 1) ls (v :: v :: r) M u w) := rfl
theorem xi_pop  : mm_i g Γ Q K (.pop) len pc ls st M u w = (len = 1 ∧ mm_p1 st fun v r => mm_cat v = 1 ∧ K (pc + 1) ls r M u w) := rfl
theorem xi_dup_x1  : mm_i g Γ Q K (.dup_x1) len pc ls st M u w = (len = 1 ∧ mm_p1 st fun v r => mm_p1 r fun v2 r => mm_cat v = 1 ∧ mm_cat v2 = 1 ∧ K (pc + 1) ls (v :: v2 :: v :: r) M u w) := rfl
theorem xi_dup2  : mm_i g Γ Q K (.dup2) len pc ls st M u w = (len = 1 ∧ mm_p1 st fun v r => mm_p1 r fun v2 r => mm_cat v = 1 ∧ mm_cat v2 = 1 ∧ K (pc + 1) ls (v :: v2 :: v :: v2 :: r) M u w) := rfl
theorem xi_ifCond {c : Jvm.ClassFile.Cond} {off : Int} : mm_i g Γ Q K (.ifCond c off) len pc ls st M u w = (len = 3 ∧ 0 ≤ (pc : Int) + off ∧ mm_pI st fun x r => (mm_c0 c x → K (mm_jmp pc off) ls r M u w) ∧ (¬ mm_c0 c x → K (pc + 3) ls r M u w)) := rfl
theorem xi_if_icmp {c : Jvm.ClassFile.Cond} {off : Int} : mm_i g Γ Q K (.if_icmp c off) len pc ls st M u w = (len = 3 ∧ 0 ≤ (pc : Int) + off ∧ mm_pI st fun y r => mm_pI r fun x r => (mm_c2 c x y → K (mm_jmp pc off) ls r M u w) ∧ (¬ mm_c2 c x y → K (pc + 3) ls r M u w)) := rfl
theorem xi_goto {off : Int} : mm_i g Γ Q K (.goto off) len pc ls st M u w = (len = 3 ∧ 0 ≤ (pc : Int) + off ∧ K (mm_jmp pc off) ls st M u w) := rfl
theorem xi_tableswitch {d : Int} {lo : Int} {hi : Int} {offs : Array Int} : mm_i g Γ Q K (.tableswitch d lo hi offs) len pc ls st M u w = (mm_tk lo hi offs ∧ mm_pI st fun x r => mm_ts x lo offs.toList (fun off => 0 ≤ (pc : Int) + off ∧ K (mm_jmp pc off) ls r M u w) (0 ≤ (pc : Int) + d ∧ K (mm_jmp pc d) ls r M u w)) := rfl
theorem xi_lookupswitch {d : Int} {ps : Array (Int × Int)} : mm_i g Γ Q K (.lookupswitch d ps) len pc ls st M u w = (mm_lk ps ∧ mm_pI st fun x r => mm_ks x ps.toList (fun off => 0 ≤ (pc : Int) + off ∧ K (mm_jmp pc off) ls r M u w) (0 ≤ (pc : Int) + d ∧ K (mm_jmp pc d) ls r M u w)) := rfl
theorem xi_getfield {ix : Nat} : mm_i g Γ Q K (.getfield ix) len pc ls st M u w = (len = 3 ∧ mm_pR st fun f i r => mm_o (mm_FL g.1 ix) fun q => mm_is M f i q.1 ∧ K (pc + 3) ls (mm_get M (mm_ft q.1 q.2) f i q.2 :: r) M u w) := rfl
theorem xi_putfield {ix : Nat} : mm_i g Γ Q K (.putfield ix) len pc ls st M u w = (len = 3 ∧ mm_o (mm_FL g.1 ix) fun q => mm_p1 st fun v r => mm_pR r fun f i r => mm_is M f i q.1 ∧ mm_pf g q.1 q.2 ∧ mm_put M (mm_ft q.1 q.2) f i q.2 v fun M' => K (pc + 3) ls r M' u w) := rfl
theorem xi_iaload  : mm_i g Γ Q K (.iaload) len pc ls st M u w = (len = 1 ∧ mm_pI st fun j r => mm_pR r fun f i r => if f = 999 then mm_o g.2.2.2.2.2.2.1 fun q => i = 0 ∧ vp_in j q.1 ∧ K (pc + 1) ls (.inl (q.2 j.toNatClampNeg) :: r) M u w else mm_ia M f i .int ∧ vp_in j (mm_len f) ∧ K (pc + 1) ls (.inl (M.1 f i j.toNatClampNeg) :: r) M u w) := rfl
theorem xi_baload  : mm_i g Γ Q K (.baload) len pc ls st M u w = (len = 1 ∧ mm_pI st fun j r => mm_pR r fun f i r => mm_ia M f i .boolean ∧ vp_in j (mm_len f) ∧ K (pc + 1) ls (.inl (M.1 f i j.toNatClampNeg) :: r) M u w) := rfl
theorem xi_laload  : mm_i g Γ Q K (.laload) len pc ls st M u w = (len = 1 ∧ mm_pI st fun j r => mm_pR r fun f i r => mm_ia M f i .long ∧ vp_in j (mm_len f) ∧ K (pc + 1) ls (.inr (.inl (M.2.1 f i j.toNatClampNeg)) :: r) M u w) := rfl
theorem xi_aaload  : mm_i g Γ Q K (.aaload) len pc ls st M u w = (len = 1 ∧ mm_pI st fun j r => mm_pR r fun f i r => ∃ C, mm_ia M f i (.object C) ∧ vp_in j (mm_len f) ∧ K (pc + 1) ls (.inr (.inr (M.2.2.1 f i j.toNatClampNeg)) :: r) M u w) := rfl
theorem xi_iastore  : mm_i g Γ Q K (.iastore) len pc ls st M u w = (len = 1 ∧ mm_pI st fun x r => mm_pI r fun j r => mm_pR r fun f i r => mm_ia M f i .int ∧ vp_in j (mm_len f) ∧ K (pc + 1) ls r (mm_sI M f i j.toNatClampNeg x) u w) := rfl
theorem xi_bastore  : mm_i g Γ Q K (.bastore) len pc ls st M u w = (len = 1 ∧ mm_pI st fun x r => mm_pI r fun j r => mm_pR r fun f i r => mm_ia M f i .boolean ∧ vp_in j (mm_len f) ∧ K (pc + 1) ls r (mm_sI M f i j.toNatClampNeg (x &&& 1)) u w) := rfl
theorem xi_lastore  : mm_i g Γ Q K (.lastore) len pc ls st M u w = (len = 1 ∧ mm_pL st fun x r => mm_pI r fun j r => mm_pR r fun f i r => mm_ia M f i .long ∧ vp_in j (mm_len f) ∧ K (pc + 1) ls r (mm_sL M f i j.toNatClampNeg x) u w) := rfl
theorem xi_arraylength  : mm_i g Γ Q K (.arraylength) len pc ls st M u w = (len = 1 ∧ mm_pR st fun f i r => if f = 999 then mm_o g.2.2.2.2.2.2.1 fun q => i = 0 ∧ K (pc + 1) ls (.inl (Int32.ofNat q.1) :: r) M u w else ∃ ty, mm_ia M f i ty ∧ K (pc + 1) ls (.inl (Int32.ofNat (mm_len f)) :: r) M u w) := rfl
theorem xi_invokestatic {ix : Nat} : mm_i g Γ Q K (.invokestatic ix) len pc ls st M u w = (len = 3 ∧ mm_iv g Γ K (mm_JM g.1 ix) ix st pc ls M u w) := rfl
theorem xi_invokevirtual {ix : Nat} : mm_i g Γ Q K (.invokevirtual ix) len pc ls st M u w = (len = 3 ∧ mm_o (mm_MT g.1 ix) fun q => q.2.2 = 1 ∧ mm_pN q.2.1 [] st fun As r => mm_pR r fun f i r => mm_is M f i (mm_mk q.1) ∧ mm_call g Γ K q.1 (.inr (.inr (some (f, i))) :: As) r pc ls M u w) := rfl
theorem xi_invokespecial {ix : Nat} : mm_i g Γ Q K (.invokespecial ix) len pc ls st M u w = (len = 3 ∧ mm_o (mm_MT g.1 ix) fun q => if q.2.2 = 3 then mm_pR st fun f i r => mm_sm r ≤ 8 ∧ K (pc + 3) ls r M u w else q.2.2 = 2 ∧ mm_pN q.2.1 [] st fun As r => mm_pR r fun f i r => mm_is M f i (mm_mk q.1) ∧ mm_call g Γ K q.1 (.inr (.inr (some (f, i))) :: As) r pc ls M u w) := rfl
theorem xi_new {ix : Nat} : mm_i g Γ Q K (.new ix) len pc ls st M u w = (len = 3 ∧ g.2.2.2.1 = true ∧ mm_o (mm_CC g.1 ix) fun ci => ∃ f i, mm_Y f = .inl ci ∧ f ≠ 999 ∧ ¬ M.2.2.2 f i ∧ (∀ a b c, M.2.2.1 a b c ≠ some (f, i)) ∧ mm_okL M ls ∧ mm_okS M st ∧ u + 1 ≤ g.2.2.2.2.1 ∧ w + mm_N ci ≤ g.2.2.2.2.2.1 ∧ K (pc + 3) ls (.inr (.inr (some (f, i))) :: st) (mm_new M f i) (u + 1) (w + mm_N ci)) := rfl
theorem xi_newarray {at_ : ArrayType} : mm_i g Γ Q K (.newarray at_) len pc ls st M u w = (len = 2 ∧ g.2.2.2.1 = true ∧ mm_pI st fun n r => ¬ n < 0 ∧ n.toNatClampNeg ≤ 60000 ∧ mm_at0 at_ ∧ ∃ f i, mm_Y f = .inr (newarray.typeOf at_, n.toNatClampNeg) ∧ f ≠ 999 ∧ ¬ M.2.2.2 f i ∧ (∀ a b c, M.2.2.1 a b c ≠ some (f, i)) ∧ mm_okL M ls ∧ mm_okS M r ∧ u + 1 ≤ g.2.2.2.2.1 ∧ w + n.toNatClampNeg ≤ g.2.2.2.2.2.1 ∧ K (pc + 2) ls (.inr (.inr (some (f, i))) :: r) (mm_new M f i) (u + 1) (w + n.toNatClampNeg)) := rfl
theorem xi_anewarray {ix : Nat} : mm_i g Γ Q K (.anewarray ix) len pc ls st M u w = (len = 3 ∧ g.2.2.2.1 = true ∧ mm_o (mm_CO g.1 ix) fun C => mm_pI st fun n r => ¬ n < 0 ∧ n.toNatClampNeg ≤ 60000 ∧ ∃ f i, mm_Y f = .inr (.object C, n.toNatClampNeg) ∧ f ≠ 999 ∧ ¬ M.2.2.2 f i ∧ (∀ a b c, M.2.2.1 a b c ≠ some (f, i)) ∧ mm_okL M ls ∧ mm_okS M r ∧ u + 1 ≤ g.2.2.2.2.1 ∧ w + n.toNatClampNeg ≤ g.2.2.2.2.2.1 ∧ K (pc + 3) ls (.inr (.inr (some (f, i))) :: r) (mm_new M f i) (u + 1) (w + n.toNatClampNeg)) := rfl
theorem xi_aastore  : mm_i g Γ Q K (.aastore) len pc ls st M u w = (len = 1 ∧ mm_pR st fun f2 i2 r => mm_pI r fun j r => mm_pR r fun f i r => ∃ ci, mm_is M f2 i2 ci ∧ mm_ia M f i (.object (mm_nm ci)) ∧ vp_in j (mm_len f) ∧ K (pc + 1) ls r (mm_sR M f i j.toNatClampNeg (some (f2, i2))) u w) := rfl
theorem xi_ireturn  : mm_i g Γ Q K (.ireturn) len pc ls st M u w = (len = 1 ∧ u ≤ g.2.2.2.2.1 ∧ w ≤ g.2.2.2.2.2.1 ∧ mm_o g.2.2.1 fun ty => mm_pI st fun x r => r = [] ∧ narrow ty (.int x) = .int x ∧ Q (some (.inl x)) M) := rfl
theorem xi_lreturn  : mm_i g Γ Q K (.lreturn) len pc ls st M u w = (len = 1 ∧ u ≤ g.2.2.2.2.1 ∧ w ≤ g.2.2.2.2.2.1 ∧ g.2.2.1 = some .long ∧ mm_pL st fun x r => r = [] ∧ Q (some (.inr (.inl x))) M) := rfl
theorem xi_return_  : mm_i g Γ Q K (.return_) len pc ls st M u w = (len = 1 ∧ u ≤ g.2.2.2.2.1 ∧ w ≤ g.2.2.2.2.2.1 ∧ g.2.2.1 = none ∧ st = [] ∧ Q none M) := rfl
theorem xs_ivS {j ix : Nat} : mm_iv g Γ K (some j) ix st pc ls M u w = (u ≤ g.2.2.2.2.1 ∧ w ≤ g.2.2.2.2.2.1 ∧ mm_jm j st fun v r => mm_sm r ≤ 8 ∧ K (pc + 3) ls (v :: r) M u w) := rfl
theorem xs_ivN {ix : Nat} : mm_iv g Γ K none ix st pc ls M u w = (mm_o (mm_MT g.1 ix) fun q => q.2.2 = 0 ∧ mm_pN q.2.1 [] st fun As r => mm_call g Γ K q.1 As r pc ls M u w) := rfl
theorem xs_call {id : Nat} {As : List mm_V} (h : 8 ≤ id) : mm_call g Γ K id As r pc ls M u w = (mm_sm r ≤ 8 ∧ u ≤ g.2.2.2.2.1 ∧ w ≤ g.2.2.2.2.2.1 ∧ Γ id As M fun v M' => K (pc + 3) ls (v.toList ++ r) M' u w) := by
  unfold mm_call
  rw [mm_mch h, mm_msh h, mm_alh h]
  simp
end MMR
def bi (b : Bool) : Int32 := if b then 1 else 0
theorem kn_0 : Int64.ofNat 0 = 0 := by decide +kernel
theorem kn_1 : Int64.ofNat 1 = 1 := by decide +kernel
theorem bi_0 {b : Bool} : (bi b = 0) = (b = false) := by cases b <;> decide
theorem bi_n {b : Bool} : (narrow .boolean (.int (bi b)) = .int (bi b)) = True := by cases b <;> decide
theorem bi_f {b : Bool} : (fits .boolean (.int (bi b)) = true) = True := by cases b <;> decide
theorem bn_0 : (narrow .boolean (.int 0) = .int 0) = True := by decide
theorem bn_1 : (narrow .boolean (.int 1) = .int 1) = True := by decide
theorem mm_pi {Post : Option mm_V → mm_M → Prop} {a b : Int32} {M : mm_M} (h : Post (some (.inl a)) M) (e : a = b) : Post (some (.inl b)) M := e ▸ h
theorem mm_pl {Post : Option mm_V → mm_M → Prop} {a b : Int64} {M : mm_M} (h : Post (some (.inr (.inl a))) M) (e : a = b) : Post (some (.inr (.inl b))) M := e ▸ h
theorem k_ic_m1 : Int32.ofInt (-1) = (-1) := by decide +kernel
theorem k_ic_0 : Int32.ofInt 0 = 0 := by decide +kernel
theorem k_ic_1 : Int32.ofInt 1 = 1 := by decide +kernel
theorem k_ic_2 : Int32.ofInt 2 = 2 := by decide +kernel
theorem k_ic_3 : Int32.ofInt 3 = 3 := by decide +kernel
theorem k_ic_4 : Int32.ofInt 4 = 4 := by decide +kernel
theorem k_ic_5 : Int32.ofInt 5 = 5 := by decide +kernel
theorem k_bi_m31 : (Int8.ofInt (-31)).toInt32 = (-31) := by decide +kernel
theorem k_bi_m7 : (Int8.ofInt (-7)).toInt32 = (-7) := by decide +kernel
theorem k_bi_m6 : (Int8.ofInt (-6)).toInt32 = (-6) := by decide +kernel
theorem k_bi_m5 : (Int8.ofInt (-5)).toInt32 = (-5) := by decide +kernel
theorem k_bi_m4 : (Int8.ofInt (-4)).toInt32 = (-4) := by decide +kernel
theorem k_bi_m3 : (Int8.ofInt (-3)).toInt32 = (-3) := by decide +kernel
theorem k_bi_m2 : (Int8.ofInt (-2)).toInt32 = (-2) := by decide +kernel
theorem k_bi_6 : (Int8.ofInt 6).toInt32 = 6 := by decide +kernel
theorem k_bi_7 : (Int8.ofInt 7).toInt32 = 7 := by decide +kernel
theorem k_bi_8 : (Int8.ofInt 8).toInt32 = 8 := by decide +kernel
theorem k_bi_9 : (Int8.ofInt 9).toInt32 = 9 := by decide +kernel
theorem k_bi_10 : (Int8.ofInt 10).toInt32 = 10 := by decide +kernel
theorem k_bi_11 : (Int8.ofInt 11).toInt32 = 11 := by decide +kernel
theorem k_bi_12 : (Int8.ofInt 12).toInt32 = 12 := by decide +kernel
theorem k_bi_13 : (Int8.ofInt 13).toInt32 = 13 := by decide +kernel
theorem k_bi_14 : (Int8.ofInt 14).toInt32 = 14 := by decide +kernel
theorem k_bi_15 : (Int8.ofInt 15).toInt32 = 15 := by decide +kernel
theorem k_bi_16 : (Int8.ofInt 16).toInt32 = 16 := by decide +kernel
theorem k_bi_17 : (Int8.ofInt 17).toInt32 = 17 := by decide +kernel
theorem k_bi_20 : (Int8.ofInt 20).toInt32 = 20 := by decide +kernel
theorem k_bi_31 : (Int8.ofInt 31).toInt32 = 31 := by decide +kernel
theorem k_bi_60 : (Int8.ofInt 60).toInt32 = 60 := by decide +kernel
theorem k_bi_61 : (Int8.ofInt 61).toInt32 = 61 := by decide +kernel
theorem k_bi_63 : (Int8.ofInt 63).toInt32 = 63 := by decide +kernel
theorem k_bi_64 : (Int8.ofInt 64).toInt32 = 64 := by decide +kernel
theorem k_bi_100 : (Int8.ofInt 100).toInt32 = 100 := by decide +kernel
theorem k_bi_101 : (Int8.ofInt 101).toInt32 = 101 := by decide +kernel
theorem k_si_200 : (Int16.ofInt 200).toInt32 = 200 := by decide +kernel
theorem k_si_201 : (Int16.ofInt 201).toInt32 = 201 := by decide +kernel
theorem k_si_299 : (Int16.ofInt 299).toInt32 = 299 := by decide +kernel
theorem k_si_300 : (Int16.ofInt 300).toInt32 = 300 := by decide +kernel
theorem k_si_400 : (Int16.ofInt 400).toInt32 = 400 := by decide +kernel
theorem k_si_500 : (Int16.ofInt 500).toInt32 = 500 := by decide +kernel
theorem k_si_1200 : (Int16.ofInt 1200).toInt32 = 1200 := by decide +kernel
theorem k_si_3000 : (Int16.ofInt 3000).toInt32 = 3000 := by decide +kernel
theorem k_si_20000 : (Int16.ofInt 20000).toInt32 = 20000 := by decide +kernel
theorem k_lc_0 : Int64.ofNat ((0 : Fin 2) : Nat) = 0 := by decide +kernel
theorem k_lc_1 : Int64.ofNat ((1 : Fin 2) : Nat) = 1 := by decide +kernel
theorem k_ic_6 : Int32.ofInt 6 = 6 := by decide +kernel
theorem k_ic_7 : Int32.ofInt 7 = 7 := by decide +kernel
theorem k_ic_8 : Int32.ofInt 8 = 8 := by decide +kernel
theorem k_ic_9 : Int32.ofInt 9 = 9 := by decide +kernel
theorem k_ic_10 : Int32.ofInt 10 = 10 := by decide +kernel
theorem k_ic_11 : Int32.ofInt 11 = 11 := by decide +kernel
theorem k_ic_12 : Int32.ofInt 12 = 12 := by decide +kernel
theorem k_ic_13 : Int32.ofInt 13 = 13 := by decide +kernel
theorem k_ic_14 : Int32.ofInt 14 = 14 := by decide +kernel
theorem k_ic_15 : Int32.ofInt 15 = 15 := by decide +kernel
theorem k_ic_16 : Int32.ofInt 16 = 16 := by decide +kernel
theorem jt_1_7 : mm_jmp 1 7 = 8 := by decide +kernel
theorem jp_1_7 : (0 ≤ ((1 : Nat) : Int) + 7) = True := by decide +kernel
theorem jt_1_10 : mm_jmp 1 10 = 11 := by decide +kernel
theorem jp_1_10 : (0 ≤ ((1 : Nat) : Int) + 10) = True := by decide +kernel
theorem jt_1_11 : mm_jmp 1 11 = 12 := by decide +kernel
theorem jp_1_11 : (0 ≤ ((1 : Nat) : Int) + 11) = True := by decide +kernel
theorem jt_1_12 : mm_jmp 1 12 = 13 := by decide +kernel
theorem jp_1_12 : (0 ≤ ((1 : Nat) : Int) + 12) = True := by decide +kernel
theorem jt_1_13 : mm_jmp 1 13 = 14 := by decide +kernel
theorem jp_1_13 : (0 ≤ ((1 : Nat) : Int) + 13) = True := by decide +kernel
theorem jt_1_15 : mm_jmp 1 15 = 16 := by decide +kernel
theorem jp_1_15 : (0 ≤ ((1 : Nat) : Int) + 15) = True := by decide +kernel
theorem jt_1_18 : mm_jmp 1 18 = 19 := by decide +kernel
theorem jp_1_18 : (0 ≤ ((1 : Nat) : Int) + 18) = True := by decide +kernel
theorem jt_1_19 : mm_jmp 1 19 = 20 := by decide +kernel
theorem jp_1_19 : (0 ≤ ((1 : Nat) : Int) + 19) = True := by decide +kernel
theorem jt_1_22 : mm_jmp 1 22 = 23 := by decide +kernel
theorem jp_1_22 : (0 ≤ ((1 : Nat) : Int) + 22) = True := by decide +kernel
theorem jt_1_27 : mm_jmp 1 27 = 28 := by decide +kernel
theorem jp_1_27 : (0 ≤ ((1 : Nat) : Int) + 27) = True := by decide +kernel
theorem jt_1_31 : mm_jmp 1 31 = 32 := by decide +kernel
theorem jp_1_31 : (0 ≤ ((1 : Nat) : Int) + 31) = True := by decide +kernel
theorem jt_1_34 : mm_jmp 1 34 = 35 := by decide +kernel
theorem jp_1_34 : (0 ≤ ((1 : Nat) : Int) + 34) = True := by decide +kernel
theorem jt_1_39 : mm_jmp 1 39 = 40 := by decide +kernel
theorem jp_1_39 : (0 ≤ ((1 : Nat) : Int) + 39) = True := by decide +kernel
theorem jt_1_47 : mm_jmp 1 47 = 48 := by decide +kernel
theorem jp_1_47 : (0 ≤ ((1 : Nat) : Int) + 47) = True := by decide +kernel
theorem jt_1_51 : mm_jmp 1 51 = 52 := by decide +kernel
theorem jp_1_51 : (0 ≤ ((1 : Nat) : Int) + 51) = True := by decide +kernel
theorem jt_1_55 : mm_jmp 1 55 = 56 := by decide +kernel
theorem jp_1_55 : (0 ≤ ((1 : Nat) : Int) + 55) = True := by decide +kernel
theorem jt_1_63 : mm_jmp 1 63 = 64 := by decide +kernel
theorem jp_1_63 : (0 ≤ ((1 : Nat) : Int) + 63) = True := by decide +kernel
theorem jt_1_64 : mm_jmp 1 64 = 65 := by decide +kernel
theorem jp_1_64 : (0 ≤ ((1 : Nat) : Int) + 64) = True := by decide +kernel
theorem jt_1_73 : mm_jmp 1 73 = 74 := by decide +kernel
theorem jp_1_73 : (0 ≤ ((1 : Nat) : Int) + 73) = True := by decide +kernel
theorem jt_1_82 : mm_jmp 1 82 = 83 := by decide +kernel
theorem jp_1_82 : (0 ≤ ((1 : Nat) : Int) + 82) = True := by decide +kernel
theorem jt_1_83 : mm_jmp 1 83 = 84 := by decide +kernel
theorem jp_1_83 : (0 ≤ ((1 : Nat) : Int) + 83) = True := by decide +kernel
theorem jt_1_85 : mm_jmp 1 85 = 86 := by decide +kernel
theorem jp_1_85 : (0 ≤ ((1 : Nat) : Int) + 85) = True := by decide +kernel
theorem jt_1_100 : mm_jmp 1 100 = 101 := by decide +kernel
theorem jp_1_100 : (0 ≤ ((1 : Nat) : Int) + 100) = True := by decide +kernel
theorem jt_1_104 : mm_jmp 1 104 = 105 := by decide +kernel
theorem jp_1_104 : (0 ≤ ((1 : Nat) : Int) + 104) = True := by decide +kernel
theorem jt_1_113 : mm_jmp 1 113 = 114 := by decide +kernel
theorem jp_1_113 : (0 ≤ ((1 : Nat) : Int) + 113) = True := by decide +kernel
theorem jt_1_122 : mm_jmp 1 122 = 123 := by decide +kernel
theorem jp_1_122 : (0 ≤ ((1 : Nat) : Int) + 122) = True := by decide +kernel
theorem jt_1_131 : mm_jmp 1 131 = 132 := by decide +kernel
theorem jp_1_131 : (0 ≤ ((1 : Nat) : Int) + 131) = True := by decide +kernel
theorem jt_1_139 : mm_jmp 1 139 = 140 := by decide +kernel
theorem jp_1_139 : (0 ≤ ((1 : Nat) : Int) + 139) = True := by decide +kernel
theorem jt_1_140 : mm_jmp 1 140 = 141 := by decide +kernel
theorem jp_1_140 : (0 ≤ ((1 : Nat) : Int) + 140) = True := by decide +kernel
theorem jt_1_149 : mm_jmp 1 149 = 150 := by decide +kernel
theorem jp_1_149 : (0 ≤ ((1 : Nat) : Int) + 149) = True := by decide +kernel
theorem jt_1_152 : mm_jmp 1 152 = 153 := by decide +kernel
theorem jp_1_152 : (0 ≤ ((1 : Nat) : Int) + 152) = True := by decide +kernel
theorem jt_1_162 : mm_jmp 1 162 = 163 := by decide +kernel
theorem jp_1_162 : (0 ≤ ((1 : Nat) : Int) + 162) = True := by decide +kernel
theorem jt_1_185 : mm_jmp 1 185 = 186 := by decide +kernel
theorem jp_1_185 : (0 ≤ ((1 : Nat) : Int) + 185) = True := by decide +kernel
theorem jt_1_191 : mm_jmp 1 191 = 192 := by decide +kernel
theorem jp_1_191 : (0 ≤ ((1 : Nat) : Int) + 191) = True := by decide +kernel
theorem jt_2_7 : mm_jmp 2 7 = 9 := by decide +kernel
theorem jp_2_7 : (0 ≤ ((2 : Nat) : Int) + 7) = True := by decide +kernel
theorem jt_2_11 : mm_jmp 2 11 = 13 := by decide +kernel
theorem jp_2_11 : (0 ≤ ((2 : Nat) : Int) + 11) = True := by decide +kernel
theorem jt_2_13 : mm_jmp 2 13 = 15 := by decide +kernel
theorem jp_2_13 : (0 ≤ ((2 : Nat) : Int) + 13) = True := by decide +kernel
theorem jt_2_15 : mm_jmp 2 15 = 17 := by decide +kernel
theorem jp_2_15 : (0 ≤ ((2 : Nat) : Int) + 15) = True := by decide +kernel
theorem jt_2_21 : mm_jmp 2 21 = 23 := by decide +kernel
theorem jp_2_21 : (0 ≤ ((2 : Nat) : Int) + 21) = True := by decide +kernel
theorem jt_3_7 : mm_jmp 3 7 = 10 := by decide +kernel
theorem jp_3_7 : (0 ≤ ((3 : Nat) : Int) + 7) = True := by decide +kernel
theorem jt_3_9 : mm_jmp 3 9 = 12 := by decide +kernel
theorem jp_3_9 : (0 ≤ ((3 : Nat) : Int) + 9) = True := by decide +kernel
theorem jt_3_10 : mm_jmp 3 10 = 13 := by decide +kernel
theorem jp_3_10 : (0 ≤ ((3 : Nat) : Int) + 10) = True := by decide +kernel
theorem jt_3_13 : mm_jmp 3 13 = 16 := by decide +kernel
theorem jp_3_13 : (0 ≤ ((3 : Nat) : Int) + 13) = True := by decide +kernel
theorem jt_3_16 : mm_jmp 3 16 = 19 := by decide +kernel
theorem jp_3_16 : (0 ≤ ((3 : Nat) : Int) + 16) = True := by decide +kernel
theorem jt_3_23 : mm_jmp 3 23 = 26 := by decide +kernel
theorem jp_3_23 : (0 ≤ ((3 : Nat) : Int) + 23) = True := by decide +kernel
theorem jt_4_5 : mm_jmp 4 5 = 9 := by decide +kernel
theorem jp_4_5 : (0 ≤ ((4 : Nat) : Int) + 5) = True := by decide +kernel
theorem jt_4_7 : mm_jmp 4 7 = 11 := by decide +kernel
theorem jp_4_7 : (0 ≤ ((4 : Nat) : Int) + 7) = True := by decide +kernel
theorem jt_4_9 : mm_jmp 4 9 = 13 := by decide +kernel
theorem jp_4_9 : (0 ≤ ((4 : Nat) : Int) + 9) = True := by decide +kernel
theorem jt_4_10 : mm_jmp 4 10 = 14 := by decide +kernel
theorem jp_4_10 : (0 ≤ ((4 : Nat) : Int) + 10) = True := by decide +kernel
theorem jt_4_17 : mm_jmp 4 17 = 21 := by decide +kernel
theorem jp_4_17 : (0 ≤ ((4 : Nat) : Int) + 17) = True := by decide +kernel
theorem jt_4_20 : mm_jmp 4 20 = 24 := by decide +kernel
theorem jp_4_20 : (0 ≤ ((4 : Nat) : Int) + 20) = True := by decide +kernel
theorem jt_5_5 : mm_jmp 5 5 = 10 := by decide +kernel
theorem jp_5_5 : (0 ≤ ((5 : Nat) : Int) + 5) = True := by decide +kernel
theorem jt_5_7 : mm_jmp 5 7 = 12 := by decide +kernel
theorem jp_5_7 : (0 ≤ ((5 : Nat) : Int) + 7) = True := by decide +kernel
theorem jt_5_9 : mm_jmp 5 9 = 14 := by decide +kernel
theorem jp_5_9 : (0 ≤ ((5 : Nat) : Int) + 9) = True := by decide +kernel
theorem jt_5_11 : mm_jmp 5 11 = 16 := by decide +kernel
theorem jp_5_11 : (0 ≤ ((5 : Nat) : Int) + 11) = True := by decide +kernel
theorem jt_5_12 : mm_jmp 5 12 = 17 := by decide +kernel
theorem jp_5_12 : (0 ≤ ((5 : Nat) : Int) + 12) = True := by decide +kernel
theorem jt_5_16 : mm_jmp 5 16 = 21 := by decide +kernel
theorem jp_5_16 : (0 ≤ ((5 : Nat) : Int) + 16) = True := by decide +kernel
theorem jt_5_21 : mm_jmp 5 21 = 26 := by decide +kernel
theorem jp_5_21 : (0 ≤ ((5 : Nat) : Int) + 21) = True := by decide +kernel
theorem jt_5_26 : mm_jmp 5 26 = 31 := by decide +kernel
theorem jp_5_26 : (0 ≤ ((5 : Nat) : Int) + 26) = True := by decide +kernel
theorem jt_5_29 : mm_jmp 5 29 = 34 := by decide +kernel
theorem jp_5_29 : (0 ≤ ((5 : Nat) : Int) + 29) = True := by decide +kernel
theorem jt_5_38 : mm_jmp 5 38 = 43 := by decide +kernel
theorem jp_5_38 : (0 ≤ ((5 : Nat) : Int) + 38) = True := by decide +kernel
theorem jt_5_39 : mm_jmp 5 39 = 44 := by decide +kernel
theorem jp_5_39 : (0 ≤ ((5 : Nat) : Int) + 39) = True := by decide +kernel
theorem jt_6_4 : mm_jmp 6 4 = 10 := by decide +kernel
theorem jp_6_4 : (0 ≤ ((6 : Nat) : Int) + 4) = True := by decide +kernel
theorem jt_6_9 : mm_jmp 6 9 = 15 := by decide +kernel
theorem jp_6_9 : (0 ≤ ((6 : Nat) : Int) + 9) = True := by decide +kernel
theorem jt_6_16 : mm_jmp 6 16 = 22 := by decide +kernel
theorem jp_6_16 : (0 ≤ ((6 : Nat) : Int) + 16) = True := by decide +kernel
theorem jt_6_22 : mm_jmp 6 22 = 28 := by decide +kernel
theorem jp_6_22 : (0 ≤ ((6 : Nat) : Int) + 22) = True := by decide +kernel
theorem jt_7_7 : mm_jmp 7 7 = 14 := by decide +kernel
theorem jp_7_7 : (0 ≤ ((7 : Nat) : Int) + 7) = True := by decide +kernel
theorem jt_7_12 : mm_jmp 7 12 = 19 := by decide +kernel
theorem jp_7_12 : (0 ≤ ((7 : Nat) : Int) + 12) = True := by decide +kernel
theorem jt_7_13 : mm_jmp 7 13 = 20 := by decide +kernel
theorem jp_7_13 : (0 ≤ ((7 : Nat) : Int) + 13) = True := by decide +kernel
theorem jt_7_16 : mm_jmp 7 16 = 23 := by decide +kernel
theorem jp_7_16 : (0 ≤ ((7 : Nat) : Int) + 16) = True := by decide +kernel
theorem jt_7_17 : mm_jmp 7 17 = 24 := by decide +kernel
theorem jp_7_17 : (0 ≤ ((7 : Nat) : Int) + 17) = True := by decide +kernel
theorem jt_7_21 : mm_jmp 7 21 = 28 := by decide +kernel
theorem jp_7_21 : (0 ≤ ((7 : Nat) : Int) + 21) = True := by decide +kernel
theorem jt_7_28 : mm_jmp 7 28 = 35 := by decide +kernel
theorem jp_7_28 : (0 ≤ ((7 : Nat) : Int) + 28) = True := by decide +kernel
theorem jt_8_5 : mm_jmp 8 5 = 13 := by decide +kernel
theorem jp_8_5 : (0 ≤ ((8 : Nat) : Int) + 5) = True := by decide +kernel
theorem jt_8_7 : mm_jmp 8 7 = 15 := by decide +kernel
theorem jp_8_7 : (0 ≤ ((8 : Nat) : Int) + 7) = True := by decide +kernel
theorem jt_8_12 : mm_jmp 8 12 = 20 := by decide +kernel
theorem jp_8_12 : (0 ≤ ((8 : Nat) : Int) + 12) = True := by decide +kernel
theorem jt_8_14 : mm_jmp 8 14 = 22 := by decide +kernel
theorem jp_8_14 : (0 ≤ ((8 : Nat) : Int) + 14) = True := by decide +kernel
theorem jt_8_18 : mm_jmp 8 18 = 26 := by decide +kernel
theorem jp_8_18 : (0 ≤ ((8 : Nat) : Int) + 18) = True := by decide +kernel
theorem jt_9_4 : mm_jmp 9 4 = 13 := by decide +kernel
theorem jp_9_4 : (0 ≤ ((9 : Nat) : Int) + 4) = True := by decide +kernel
theorem jt_9_6 : mm_jmp 9 6 = 15 := by decide +kernel
theorem jp_9_6 : (0 ≤ ((9 : Nat) : Int) + 6) = True := by decide +kernel
theorem jt_9_7 : mm_jmp 9 7 = 16 := by decide +kernel
theorem jp_9_7 : (0 ≤ ((9 : Nat) : Int) + 7) = True := by decide +kernel
theorem jt_9_9 : mm_jmp 9 9 = 18 := by decide +kernel
theorem jp_9_9 : (0 ≤ ((9 : Nat) : Int) + 9) = True := by decide +kernel
theorem jt_9_11 : mm_jmp 9 11 = 20 := by decide +kernel
theorem jp_9_11 : (0 ≤ ((9 : Nat) : Int) + 11) = True := by decide +kernel
theorem jt_9_12 : mm_jmp 9 12 = 21 := by decide +kernel
theorem jp_9_12 : (0 ≤ ((9 : Nat) : Int) + 12) = True := by decide +kernel
theorem jt_9_14 : mm_jmp 9 14 = 23 := by decide +kernel
theorem jp_9_14 : (0 ≤ ((9 : Nat) : Int) + 14) = True := by decide +kernel
theorem jt_9_17 : mm_jmp 9 17 = 26 := by decide +kernel
theorem jp_9_17 : (0 ≤ ((9 : Nat) : Int) + 17) = True := by decide +kernel
theorem jt_9_19 : mm_jmp 9 19 = 28 := by decide +kernel
theorem jp_9_19 : (0 ≤ ((9 : Nat) : Int) + 19) = True := by decide +kernel
theorem jt_9_20 : mm_jmp 9 20 = 29 := by decide +kernel
theorem jp_9_20 : (0 ≤ ((9 : Nat) : Int) + 20) = True := by decide +kernel
theorem jt_9_25 : mm_jmp 9 25 = 34 := by decide +kernel
theorem jp_9_25 : (0 ≤ ((9 : Nat) : Int) + 25) = True := by decide +kernel
theorem jt_9_29 : mm_jmp 9 29 = 38 := by decide +kernel
theorem jp_9_29 : (0 ≤ ((9 : Nat) : Int) + 29) = True := by decide +kernel
theorem jt_9_41 : mm_jmp 9 41 = 50 := by decide +kernel
theorem jp_9_41 : (0 ≤ ((9 : Nat) : Int) + 41) = True := by decide +kernel
theorem jt_9_43 : mm_jmp 9 43 = 52 := by decide +kernel
theorem jp_9_43 : (0 ≤ ((9 : Nat) : Int) + 43) = True := by decide +kernel
theorem jt_10_5 : mm_jmp 10 5 = 15 := by decide +kernel
theorem jp_10_5 : (0 ≤ ((10 : Nat) : Int) + 5) = True := by decide +kernel
theorem jt_10_7 : mm_jmp 10 7 = 17 := by decide +kernel
theorem jp_10_7 : (0 ≤ ((10 : Nat) : Int) + 7) = True := by decide +kernel
theorem jt_10_9 : mm_jmp 10 9 = 19 := by decide +kernel
theorem jp_10_9 : (0 ≤ ((10 : Nat) : Int) + 9) = True := by decide +kernel
theorem jt_10_11 : mm_jmp 10 11 = 21 := by decide +kernel
theorem jp_10_11 : (0 ≤ ((10 : Nat) : Int) + 11) = True := by decide +kernel
theorem jt_10_17 : mm_jmp 10 17 = 27 := by decide +kernel
theorem jp_10_17 : (0 ≤ ((10 : Nat) : Int) + 17) = True := by decide +kernel
theorem jt_10_20 : mm_jmp 10 20 = 30 := by decide +kernel
theorem jp_10_20 : (0 ≤ ((10 : Nat) : Int) + 20) = True := by decide +kernel
theorem jt_10_23 : mm_jmp 10 23 = 33 := by decide +kernel
theorem jp_10_23 : (0 ≤ ((10 : Nat) : Int) + 23) = True := by decide +kernel
theorem jt_11_4 : mm_jmp 11 4 = 15 := by decide +kernel
theorem jp_11_4 : (0 ≤ ((11 : Nat) : Int) + 4) = True := by decide +kernel
theorem jt_11_7 : mm_jmp 11 7 = 18 := by decide +kernel
theorem jp_11_7 : (0 ≤ ((11 : Nat) : Int) + 7) = True := by decide +kernel
theorem jt_11_10 : mm_jmp 11 10 = 21 := by decide +kernel
theorem jp_11_10 : (0 ≤ ((11 : Nat) : Int) + 10) = True := by decide +kernel
theorem jt_11_12 : mm_jmp 11 12 = 23 := by decide +kernel
theorem jp_11_12 : (0 ≤ ((11 : Nat) : Int) + 12) = True := by decide +kernel
theorem jt_12_4 : mm_jmp 12 4 = 16 := by decide +kernel
theorem jp_12_4 : (0 ≤ ((12 : Nat) : Int) + 4) = True := by decide +kernel
theorem jt_12_5 : mm_jmp 12 5 = 17 := by decide +kernel
theorem jp_12_5 : (0 ≤ ((12 : Nat) : Int) + 5) = True := by decide +kernel
theorem jt_12_8 : mm_jmp 12 8 = 20 := by decide +kernel
theorem jp_12_8 : (0 ≤ ((12 : Nat) : Int) + 8) = True := by decide +kernel
theorem jt_12_12 : mm_jmp 12 12 = 24 := by decide +kernel
theorem jp_12_12 : (0 ≤ ((12 : Nat) : Int) + 12) = True := by decide +kernel
theorem jt_13_4 : mm_jmp 13 4 = 17 := by decide +kernel
theorem jp_13_4 : (0 ≤ ((13 : Nat) : Int) + 4) = True := by decide +kernel
theorem jt_13_7 : mm_jmp 13 7 = 20 := by decide +kernel
theorem jp_13_7 : (0 ≤ ((13 : Nat) : Int) + 7) = True := by decide +kernel
theorem jt_13_15 : mm_jmp 13 15 = 28 := by decide +kernel
theorem jp_13_15 : (0 ≤ ((13 : Nat) : Int) + 15) = True := by decide +kernel
theorem jt_13_31 : mm_jmp 13 31 = 44 := by decide +kernel
theorem jp_13_31 : (0 ≤ ((13 : Nat) : Int) + 31) = True := by decide +kernel
theorem jt_13_71 : mm_jmp 13 71 = 84 := by decide +kernel
theorem jp_13_71 : (0 ≤ ((13 : Nat) : Int) + 71) = True := by decide +kernel
theorem jt_14_4 : mm_jmp 14 4 = 18 := by decide +kernel
theorem jp_14_4 : (0 ≤ ((14 : Nat) : Int) + 4) = True := by decide +kernel
theorem jt_14_7 : mm_jmp 14 7 = 21 := by decide +kernel
theorem jp_14_7 : (0 ≤ ((14 : Nat) : Int) + 7) = True := by decide +kernel
theorem jt_14_12 : mm_jmp 14 12 = 26 := by decide +kernel
theorem jp_14_12 : (0 ≤ ((14 : Nat) : Int) + 12) = True := by decide +kernel
theorem jt_14_13 : mm_jmp 14 13 = 27 := by decide +kernel
theorem jp_14_13 : (0 ≤ ((14 : Nat) : Int) + 13) = True := by decide +kernel
theorem jt_14_17 : mm_jmp 14 17 = 31 := by decide +kernel
theorem jp_14_17 : (0 ≤ ((14 : Nat) : Int) + 17) = True := by decide +kernel
theorem jt_14_20 : mm_jmp 14 20 = 34 := by decide +kernel
theorem jp_14_20 : (0 ≤ ((14 : Nat) : Int) + 20) = True := by decide +kernel
theorem jt_14_29 : mm_jmp 14 29 = 43 := by decide +kernel
theorem jp_14_29 : (0 ≤ ((14 : Nat) : Int) + 29) = True := by decide +kernel
theorem jt_15_4 : mm_jmp 15 4 = 19 := by decide +kernel
theorem jp_15_4 : (0 ≤ ((15 : Nat) : Int) + 4) = True := by decide +kernel
theorem jt_15_5 : mm_jmp 15 5 = 20 := by decide +kernel
theorem jp_15_5 : (0 ≤ ((15 : Nat) : Int) + 5) = True := by decide +kernel
theorem jt_15_7 : mm_jmp 15 7 = 22 := by decide +kernel
theorem jp_15_7 : (0 ≤ ((15 : Nat) : Int) + 7) = True := by decide +kernel
theorem jt_16_5 : mm_jmp 16 5 = 21 := by decide +kernel
theorem jp_16_5 : (0 ≤ ((16 : Nat) : Int) + 5) = True := by decide +kernel
theorem jt_16_6 : mm_jmp 16 6 = 22 := by decide +kernel
theorem jp_16_6 : (0 ≤ ((16 : Nat) : Int) + 6) = True := by decide +kernel
theorem jt_16_7 : mm_jmp 16 7 = 23 := by decide +kernel
theorem jp_16_7 : (0 ≤ ((16 : Nat) : Int) + 7) = True := by decide +kernel
theorem jt_16_10 : mm_jmp 16 10 = 26 := by decide +kernel
theorem jp_16_10 : (0 ≤ ((16 : Nat) : Int) + 10) = True := by decide +kernel
theorem jt_16_12 : mm_jmp 16 12 = 28 := by decide +kernel
theorem jp_16_12 : (0 ≤ ((16 : Nat) : Int) + 12) = True := by decide +kernel
theorem jt_16_19 : mm_jmp 16 19 = 35 := by decide +kernel
theorem jp_16_19 : (0 ≤ ((16 : Nat) : Int) + 19) = True := by decide +kernel
theorem jt_17_4 : mm_jmp 17 4 = 21 := by decide +kernel
theorem jp_17_4 : (0 ≤ ((17 : Nat) : Int) + 4) = True := by decide +kernel
theorem jt_17_5 : mm_jmp 17 5 = 22 := by decide +kernel
theorem jp_17_5 : (0 ≤ ((17 : Nat) : Int) + 5) = True := by decide +kernel
theorem jt_17_7 : mm_jmp 17 7 = 24 := by decide +kernel
theorem jp_17_7 : (0 ≤ ((17 : Nat) : Int) + 7) = True := by decide +kernel
theorem jt_17_8 : mm_jmp 17 8 = 25 := by decide +kernel
theorem jp_17_8 : (0 ≤ ((17 : Nat) : Int) + 8) = True := by decide +kernel
theorem jt_17_34 : mm_jmp 17 34 = 51 := by decide +kernel
theorem jp_17_34 : (0 ≤ ((17 : Nat) : Int) + 34) = True := by decide +kernel
theorem jt_17_77 : mm_jmp 17 77 = 94 := by decide +kernel
theorem jp_17_77 : (0 ≤ ((17 : Nat) : Int) + 77) = True := by decide +kernel
theorem jt_18_4 : mm_jmp 18 4 = 22 := by decide +kernel
theorem jp_18_4 : (0 ≤ ((18 : Nat) : Int) + 4) = True := by decide +kernel
theorem jt_18_7 : mm_jmp 18 7 = 25 := by decide +kernel
theorem jp_18_7 : (0 ≤ ((18 : Nat) : Int) + 7) = True := by decide +kernel
theorem jt_18_8 : mm_jmp 18 8 = 26 := by decide +kernel
theorem jp_18_8 : (0 ≤ ((18 : Nat) : Int) + 8) = True := by decide +kernel
theorem jt_18_9 : mm_jmp 18 9 = 27 := by decide +kernel
theorem jp_18_9 : (0 ≤ ((18 : Nat) : Int) + 9) = True := by decide +kernel
theorem jt_18_13 : mm_jmp 18 13 = 31 := by decide +kernel
theorem jp_18_13 : (0 ≤ ((18 : Nat) : Int) + 13) = True := by decide +kernel
theorem jt_18_72 : mm_jmp 18 72 = 90 := by decide +kernel
theorem jp_18_72 : (0 ≤ ((18 : Nat) : Int) + 72) = True := by decide +kernel
theorem jt_19_4 : mm_jmp 19 4 = 23 := by decide +kernel
theorem jp_19_4 : (0 ≤ ((19 : Nat) : Int) + 4) = True := by decide +kernel
theorem jt_19_5 : mm_jmp 19 5 = 24 := by decide +kernel
theorem jp_19_5 : (0 ≤ ((19 : Nat) : Int) + 5) = True := by decide +kernel
theorem jt_19_7 : mm_jmp 19 7 = 26 := by decide +kernel
theorem jp_19_7 : (0 ≤ ((19 : Nat) : Int) + 7) = True := by decide +kernel
theorem jt_19_13 : mm_jmp 19 13 = 32 := by decide +kernel
theorem jp_19_13 : (0 ≤ ((19 : Nat) : Int) + 13) = True := by decide +kernel
theorem jt_19_61 : mm_jmp 19 61 = 80 := by decide +kernel
theorem jp_19_61 : (0 ≤ ((19 : Nat) : Int) + 61) = True := by decide +kernel
theorem jt_19_81 : mm_jmp 19 81 = 100 := by decide +kernel
theorem jp_19_81 : (0 ≤ ((19 : Nat) : Int) + 81) = True := by decide +kernel
theorem jt_19_100 : mm_jmp 19 100 = 119 := by decide +kernel
theorem jp_19_100 : (0 ≤ ((19 : Nat) : Int) + 100) = True := by decide +kernel
theorem jt_19_107 : mm_jmp 19 107 = 126 := by decide +kernel
theorem jp_19_107 : (0 ≤ ((19 : Nat) : Int) + 107) = True := by decide +kernel
theorem jt_19_114 : mm_jmp 19 114 = 133 := by decide +kernel
theorem jp_19_114 : (0 ≤ ((19 : Nat) : Int) + 114) = True := by decide +kernel
theorem jt_19_121 : mm_jmp 19 121 = 140 := by decide +kernel
theorem jp_19_121 : (0 ≤ ((19 : Nat) : Int) + 121) = True := by decide +kernel
theorem jt_19_128 : mm_jmp 19 128 = 147 := by decide +kernel
theorem jp_19_128 : (0 ≤ ((19 : Nat) : Int) + 128) = True := by decide +kernel
theorem jt_19_135 : mm_jmp 19 135 = 154 := by decide +kernel
theorem jp_19_135 : (0 ≤ ((19 : Nat) : Int) + 135) = True := by decide +kernel
theorem jt_20_4 : mm_jmp 20 4 = 24 := by decide +kernel
theorem jp_20_4 : (0 ≤ ((20 : Nat) : Int) + 4) = True := by decide +kernel
theorem jt_20_7 : mm_jmp 20 7 = 27 := by decide +kernel
theorem jp_20_7 : (0 ≤ ((20 : Nat) : Int) + 7) = True := by decide +kernel
theorem jt_20_19 : mm_jmp 20 19 = 39 := by decide +kernel
theorem jp_20_19 : (0 ≤ ((20 : Nat) : Int) + 19) = True := by decide +kernel
theorem jt_20_23 : mm_jmp 20 23 = 43 := by decide +kernel
theorem jp_20_23 : (0 ≤ ((20 : Nat) : Int) + 23) = True := by decide +kernel
theorem jt_21_4 : mm_jmp 21 4 = 25 := by decide +kernel
theorem jp_21_4 : (0 ≤ ((21 : Nat) : Int) + 4) = True := by decide +kernel
theorem jt_21_7 : mm_jmp 21 7 = 28 := by decide +kernel
theorem jp_21_7 : (0 ≤ ((21 : Nat) : Int) + 7) = True := by decide +kernel
theorem jt_21_17 : mm_jmp 21 17 = 38 := by decide +kernel
theorem jp_21_17 : (0 ≤ ((21 : Nat) : Int) + 17) = True := by decide +kernel
theorem jt_21_23 : mm_jmp 21 23 = 44 := by decide +kernel
theorem jp_21_23 : (0 ≤ ((21 : Nat) : Int) + 23) = True := by decide +kernel
theorem jt_22_4 : mm_jmp 22 4 = 26 := by decide +kernel
theorem jp_22_4 : (0 ≤ ((22 : Nat) : Int) + 4) = True := by decide +kernel
theorem jt_22_7 : mm_jmp 22 7 = 29 := by decide +kernel
theorem jp_22_7 : (0 ≤ ((22 : Nat) : Int) + 7) = True := by decide +kernel
theorem jt_22_11 : mm_jmp 22 11 = 33 := by decide +kernel
theorem jp_22_11 : (0 ≤ ((22 : Nat) : Int) + 11) = True := by decide +kernel
theorem jt_22_16 : mm_jmp 22 16 = 38 := by decide +kernel
theorem jp_22_16 : (0 ≤ ((22 : Nat) : Int) + 16) = True := by decide +kernel
theorem jt_23_4 : mm_jmp 23 4 = 27 := by decide +kernel
theorem jp_23_4 : (0 ≤ ((23 : Nat) : Int) + 4) = True := by decide +kernel
theorem jt_23_7 : mm_jmp 23 7 = 30 := by decide +kernel
theorem jp_23_7 : (0 ≤ ((23 : Nat) : Int) + 7) = True := by decide +kernel
theorem jt_23_15 : mm_jmp 23 15 = 38 := by decide +kernel
theorem jp_23_15 : (0 ≤ ((23 : Nat) : Int) + 15) = True := by decide +kernel
theorem jt_23_22 : mm_jmp 23 22 = 45 := by decide +kernel
theorem jp_23_22 : (0 ≤ ((23 : Nat) : Int) + 22) = True := by decide +kernel
theorem jt_23_32 : mm_jmp 23 32 = 55 := by decide +kernel
theorem jp_23_32 : (0 ≤ ((23 : Nat) : Int) + 32) = True := by decide +kernel
theorem jt_23_90 : mm_jmp 23 90 = 113 := by decide +kernel
theorem jp_23_90 : (0 ≤ ((23 : Nat) : Int) + 90) = True := by decide +kernel
theorem jt_24_4 : mm_jmp 24 4 = 28 := by decide +kernel
theorem jp_24_4 : (0 ≤ ((24 : Nat) : Int) + 4) = True := by decide +kernel
theorem jt_24_7 : mm_jmp 24 7 = 31 := by decide +kernel
theorem jp_24_7 : (0 ≤ ((24 : Nat) : Int) + 7) = True := by decide +kernel
theorem jt_24_8 : mm_jmp 24 8 = 32 := by decide +kernel
theorem jp_24_8 : (0 ≤ ((24 : Nat) : Int) + 8) = True := by decide +kernel
theorem jt_24_9 : mm_jmp 24 9 = 33 := by decide +kernel
theorem jp_24_9 : (0 ≤ ((24 : Nat) : Int) + 9) = True := by decide +kernel
theorem jt_24_11 : mm_jmp 24 11 = 35 := by decide +kernel
theorem jp_24_11 : (0 ≤ ((24 : Nat) : Int) + 11) = True := by decide +kernel
theorem jt_24_19 : mm_jmp 24 19 = 43 := by decide +kernel
theorem jp_24_19 : (0 ≤ ((24 : Nat) : Int) + 19) = True := by decide +kernel
theorem jt_24_35 : mm_jmp 24 35 = 59 := by decide +kernel
theorem jp_24_35 : (0 ≤ ((24 : Nat) : Int) + 35) = True := by decide +kernel
theorem jt_24_460 : mm_jmp 24 460 = 484 := by decide +kernel
theorem jp_24_460 : (0 ≤ ((24 : Nat) : Int) + 460) = True := by decide +kernel
theorem jt_25_m21 : mm_jmp 25 (-21) = 4 := by decide +kernel
theorem jp_25_m21 : (0 ≤ ((25 : Nat) : Int) + (-21)) = True := by decide +kernel
theorem jt_25_4 : mm_jmp 25 4 = 29 := by decide +kernel
theorem jp_25_4 : (0 ≤ ((25 : Nat) : Int) + 4) = True := by decide +kernel
theorem jt_25_5 : mm_jmp 25 5 = 30 := by decide +kernel
theorem jp_25_5 : (0 ≤ ((25 : Nat) : Int) + 5) = True := by decide +kernel
theorem jt_25_7 : mm_jmp 25 7 = 32 := by decide +kernel
theorem jp_25_7 : (0 ≤ ((25 : Nat) : Int) + 7) = True := by decide +kernel
theorem jt_26_4 : mm_jmp 26 4 = 30 := by decide +kernel
theorem jp_26_4 : (0 ≤ ((26 : Nat) : Int) + 4) = True := by decide +kernel
theorem jt_26_6 : mm_jmp 26 6 = 32 := by decide +kernel
theorem jp_26_6 : (0 ≤ ((26 : Nat) : Int) + 6) = True := by decide +kernel
theorem jt_26_8 : mm_jmp 26 8 = 34 := by decide +kernel
theorem jp_26_8 : (0 ≤ ((26 : Nat) : Int) + 8) = True := by decide +kernel
theorem jt_26_17 : mm_jmp 26 17 = 43 := by decide +kernel
theorem jp_26_17 : (0 ≤ ((26 : Nat) : Int) + 17) = True := by decide +kernel
theorem jt_27_4 : mm_jmp 27 4 = 31 := by decide +kernel
theorem jp_27_4 : (0 ≤ ((27 : Nat) : Int) + 4) = True := by decide +kernel
theorem jt_27_15 : mm_jmp 27 15 = 42 := by decide +kernel
theorem jp_27_15 : (0 ≤ ((27 : Nat) : Int) + 15) = True := by decide +kernel
theorem jt_27_16 : mm_jmp 27 16 = 43 := by decide +kernel
theorem jp_27_16 : (0 ≤ ((27 : Nat) : Int) + 16) = True := by decide +kernel
theorem jt_27_17 : mm_jmp 27 17 = 44 := by decide +kernel
theorem jp_27_17 : (0 ≤ ((27 : Nat) : Int) + 17) = True := by decide +kernel
theorem jt_27_27 : mm_jmp 27 27 = 54 := by decide +kernel
theorem jp_27_27 : (0 ≤ ((27 : Nat) : Int) + 27) = True := by decide +kernel
theorem jt_27_28 : mm_jmp 27 28 = 55 := by decide +kernel
theorem jp_27_28 : (0 ≤ ((27 : Nat) : Int) + 28) = True := by decide +kernel
theorem jt_28_4 : mm_jmp 28 4 = 32 := by decide +kernel
theorem jp_28_4 : (0 ≤ ((28 : Nat) : Int) + 4) = True := by decide +kernel
theorem jt_28_9 : mm_jmp 28 9 = 37 := by decide +kernel
theorem jp_28_9 : (0 ≤ ((28 : Nat) : Int) + 9) = True := by decide +kernel
theorem jt_28_11 : mm_jmp 28 11 = 39 := by decide +kernel
theorem jp_28_11 : (0 ≤ ((28 : Nat) : Int) + 11) = True := by decide +kernel
theorem jt_28_15 : mm_jmp 28 15 = 43 := by decide +kernel
theorem jp_28_15 : (0 ≤ ((28 : Nat) : Int) + 15) = True := by decide +kernel
theorem jt_29_4 : mm_jmp 29 4 = 33 := by decide +kernel
theorem jp_29_4 : (0 ≤ ((29 : Nat) : Int) + 4) = True := by decide +kernel
theorem jt_29_6 : mm_jmp 29 6 = 35 := by decide +kernel
theorem jp_29_6 : (0 ≤ ((29 : Nat) : Int) + 6) = True := by decide +kernel
theorem jt_29_7 : mm_jmp 29 7 = 36 := by decide +kernel
theorem jp_29_7 : (0 ≤ ((29 : Nat) : Int) + 7) = True := by decide +kernel
theorem jt_29_10 : mm_jmp 29 10 = 39 := by decide +kernel
theorem jp_29_10 : (0 ≤ ((29 : Nat) : Int) + 10) = True := by decide +kernel
theorem jt_29_15 : mm_jmp 29 15 = 44 := by decide +kernel
theorem jp_29_15 : (0 ≤ ((29 : Nat) : Int) + 15) = True := by decide +kernel
theorem jt_29_23 : mm_jmp 29 23 = 52 := by decide +kernel
theorem jp_29_23 : (0 ≤ ((29 : Nat) : Int) + 23) = True := by decide +kernel
theorem jt_29_25 : mm_jmp 29 25 = 54 := by decide +kernel
theorem jp_29_25 : (0 ≤ ((29 : Nat) : Int) + 25) = True := by decide +kernel
theorem jt_30_9 : mm_jmp 30 9 = 39 := by decide +kernel
theorem jp_30_9 : (0 ≤ ((30 : Nat) : Int) + 9) = True := by decide +kernel
theorem jt_30_10 : mm_jmp 30 10 = 40 := by decide +kernel
theorem jp_30_10 : (0 ≤ ((30 : Nat) : Int) + 10) = True := by decide +kernel
theorem jt_30_15 : mm_jmp 30 15 = 45 := by decide +kernel
theorem jp_30_15 : (0 ≤ ((30 : Nat) : Int) + 15) = True := by decide +kernel
theorem jt_31_6 : mm_jmp 31 6 = 37 := by decide +kernel
theorem jp_31_6 : (0 ≤ ((31 : Nat) : Int) + 6) = True := by decide +kernel
theorem jt_31_7 : mm_jmp 31 7 = 38 := by decide +kernel
theorem jp_31_7 : (0 ≤ ((31 : Nat) : Int) + 7) = True := by decide +kernel
theorem jt_31_12 : mm_jmp 31 12 = 43 := by decide +kernel
theorem jp_31_12 : (0 ≤ ((31 : Nat) : Int) + 12) = True := by decide +kernel
theorem jt_31_14 : mm_jmp 31 14 = 45 := by decide +kernel
theorem jp_31_14 : (0 ≤ ((31 : Nat) : Int) + 14) = True := by decide +kernel
theorem jt_31_15 : mm_jmp 31 15 = 46 := by decide +kernel
theorem jp_31_15 : (0 ≤ ((31 : Nat) : Int) + 15) = True := by decide +kernel
theorem jt_31_17 : mm_jmp 31 17 = 48 := by decide +kernel
theorem jp_31_17 : (0 ≤ ((31 : Nat) : Int) + 17) = True := by decide +kernel
theorem jt_31_63 : mm_jmp 31 63 = 94 := by decide +kernel
theorem jp_31_63 : (0 ≤ ((31 : Nat) : Int) + 63) = True := by decide +kernel
theorem jt_32_5 : mm_jmp 32 5 = 37 := by decide +kernel
theorem jp_32_5 : (0 ≤ ((32 : Nat) : Int) + 5) = True := by decide +kernel
theorem jt_32_13 : mm_jmp 32 13 = 45 := by decide +kernel
theorem jp_32_13 : (0 ≤ ((32 : Nat) : Int) + 13) = True := by decide +kernel
theorem jt_32_16 : mm_jmp 32 16 = 48 := by decide +kernel
theorem jp_32_16 : (0 ≤ ((32 : Nat) : Int) + 16) = True := by decide +kernel
theorem jt_33_4 : mm_jmp 33 4 = 37 := by decide +kernel
theorem jp_33_4 : (0 ≤ ((33 : Nat) : Int) + 4) = True := by decide +kernel
theorem jt_33_10 : mm_jmp 33 10 = 43 := by decide +kernel
theorem jp_33_10 : (0 ≤ ((33 : Nat) : Int) + 10) = True := by decide +kernel
theorem jt_33_41 : mm_jmp 33 41 = 74 := by decide +kernel
theorem jp_33_41 : (0 ≤ ((33 : Nat) : Int) + 41) = True := by decide +kernel
theorem jt_33_59 : mm_jmp 33 59 = 92 := by decide +kernel
theorem jp_33_59 : (0 ≤ ((33 : Nat) : Int) + 59) = True := by decide +kernel
theorem jt_33_112 : mm_jmp 33 112 = 145 := by decide +kernel
theorem jp_33_112 : (0 ≤ ((33 : Nat) : Int) + 112) = True := by decide +kernel
theorem jt_33_175 : mm_jmp 33 175 = 208 := by decide +kernel
theorem jp_33_175 : (0 ≤ ((33 : Nat) : Int) + 175) = True := by decide +kernel
theorem jt_33_218 : mm_jmp 33 218 = 251 := by decide +kernel
theorem jp_33_218 : (0 ≤ ((33 : Nat) : Int) + 218) = True := by decide +kernel
theorem jt_33_231 : mm_jmp 33 231 = 264 := by decide +kernel
theorem jp_33_231 : (0 ≤ ((33 : Nat) : Int) + 231) = True := by decide +kernel
theorem jt_33_254 : mm_jmp 33 254 = 287 := by decide +kernel
theorem jp_33_254 : (0 ≤ ((33 : Nat) : Int) + 254) = True := by decide +kernel
theorem jt_33_288 : mm_jmp 33 288 = 321 := by decide +kernel
theorem jp_33_288 : (0 ≤ ((33 : Nat) : Int) + 288) = True := by decide +kernel
theorem jt_33_321 : mm_jmp 33 321 = 354 := by decide +kernel
theorem jp_33_321 : (0 ≤ ((33 : Nat) : Int) + 321) = True := by decide +kernel
theorem jt_33_355 : mm_jmp 33 355 = 388 := by decide +kernel
theorem jp_33_355 : (0 ≤ ((33 : Nat) : Int) + 355) = True := by decide +kernel
theorem jt_33_378 : mm_jmp 33 378 = 411 := by decide +kernel
theorem jp_33_378 : (0 ≤ ((33 : Nat) : Int) + 378) = True := by decide +kernel
theorem jt_33_422 : mm_jmp 33 422 = 455 := by decide +kernel
theorem jp_33_422 : (0 ≤ ((33 : Nat) : Int) + 422) = True := by decide +kernel
theorem jt_33_445 : mm_jmp 33 445 = 478 := by decide +kernel
theorem jp_33_445 : (0 ≤ ((33 : Nat) : Int) + 445) = True := by decide +kernel
theorem jt_34_14 : mm_jmp 34 14 = 48 := by decide +kernel
theorem jp_34_14 : (0 ≤ ((34 : Nat) : Int) + 14) = True := by decide +kernel
theorem jt_34_18 : mm_jmp 34 18 = 52 := by decide +kernel
theorem jp_34_18 : (0 ≤ ((34 : Nat) : Int) + 18) = True := by decide +kernel
theorem jt_34_20 : mm_jmp 34 20 = 54 := by decide +kernel
theorem jp_34_20 : (0 ≤ ((34 : Nat) : Int) + 20) = True := by decide +kernel
theorem jt_35_m32 : mm_jmp 35 (-32) = 3 := by decide +kernel
theorem jp_35_m32 : (0 ≤ ((35 : Nat) : Int) + (-32)) = True := by decide +kernel
theorem jt_35_14 : mm_jmp 35 14 = 49 := by decide +kernel
theorem jp_35_14 : (0 ≤ ((35 : Nat) : Int) + 14) = True := by decide +kernel
theorem jt_36_4 : mm_jmp 36 4 = 40 := by decide +kernel
theorem jp_36_4 : (0 ≤ ((36 : Nat) : Int) + 4) = True := by decide +kernel
theorem jt_36_8 : mm_jmp 36 8 = 44 := by decide +kernel
theorem jp_36_8 : (0 ≤ ((36 : Nat) : Int) + 8) = True := by decide +kernel
theorem jt_36_12 : mm_jmp 36 12 = 48 := by decide +kernel
theorem jp_36_12 : (0 ≤ ((36 : Nat) : Int) + 12) = True := by decide +kernel
theorem jt_36_18 : mm_jmp 36 18 = 54 := by decide +kernel
theorem jp_36_18 : (0 ≤ ((36 : Nat) : Int) + 18) = True := by decide +kernel
theorem jt_36_37 : mm_jmp 36 37 = 73 := by decide +kernel
theorem jp_36_37 : (0 ≤ ((36 : Nat) : Int) + 37) = True := by decide +kernel
theorem jt_37_19 : mm_jmp 37 19 = 56 := by decide +kernel
theorem jp_37_19 : (0 ≤ ((37 : Nat) : Int) + 19) = True := by decide +kernel
theorem jt_38_5 : mm_jmp 38 5 = 43 := by decide +kernel
theorem jp_38_5 : (0 ≤ ((38 : Nat) : Int) + 5) = True := by decide +kernel
theorem jt_38_6 : mm_jmp 38 6 = 44 := by decide +kernel
theorem jp_38_6 : (0 ≤ ((38 : Nat) : Int) + 6) = True := by decide +kernel
theorem jt_38_7 : mm_jmp 38 7 = 45 := by decide +kernel
theorem jp_38_7 : (0 ≤ ((38 : Nat) : Int) + 7) = True := by decide +kernel
theorem jt_38_56 : mm_jmp 38 56 = 94 := by decide +kernel
theorem jp_38_56 : (0 ≤ ((38 : Nat) : Int) + 56) = True := by decide +kernel
theorem jt_39_7 : mm_jmp 39 7 = 46 := by decide +kernel
theorem jp_39_7 : (0 ≤ ((39 : Nat) : Int) + 7) = True := by decide +kernel
theorem jt_39_12 : mm_jmp 39 12 = 51 := by decide +kernel
theorem jp_39_12 : (0 ≤ ((39 : Nat) : Int) + 12) = True := by decide +kernel
theorem jt_39_26 : mm_jmp 39 26 = 65 := by decide +kernel
theorem jp_39_26 : (0 ≤ ((39 : Nat) : Int) + 26) = True := by decide +kernel
theorem jt_40_7 : mm_jmp 40 7 = 47 := by decide +kernel
theorem jp_40_7 : (0 ≤ ((40 : Nat) : Int) + 7) = True := by decide +kernel
theorem jt_40_19 : mm_jmp 40 19 = 59 := by decide +kernel
theorem jp_40_19 : (0 ≤ ((40 : Nat) : Int) + 19) = True := by decide +kernel
theorem jt_40_39 : mm_jmp 40 39 = 79 := by decide +kernel
theorem jp_40_39 : (0 ≤ ((40 : Nat) : Int) + 39) = True := by decide +kernel
theorem jt_40_51 : mm_jmp 40 51 = 91 := by decide +kernel
theorem jp_40_51 : (0 ≤ ((40 : Nat) : Int) + 51) = True := by decide +kernel
theorem jt_40_246 : mm_jmp 40 246 = 286 := by decide +kernel
theorem jp_40_246 : (0 ≤ ((40 : Nat) : Int) + 246) = True := by decide +kernel
theorem jt_41_7 : mm_jmp 41 7 = 48 := by decide +kernel
theorem jp_41_7 : (0 ≤ ((41 : Nat) : Int) + 7) = True := by decide +kernel
theorem jt_41_8 : mm_jmp 41 8 = 49 := by decide +kernel
theorem jp_41_8 : (0 ≤ ((41 : Nat) : Int) + 8) = True := by decide +kernel
theorem jt_41_9 : mm_jmp 41 9 = 50 := by decide +kernel
theorem jp_41_9 : (0 ≤ ((41 : Nat) : Int) + 9) = True := by decide +kernel
theorem jt_41_11 : mm_jmp 41 11 = 52 := by decide +kernel
theorem jp_41_11 : (0 ≤ ((41 : Nat) : Int) + 11) = True := by decide +kernel
theorem jt_42_m22 : mm_jmp 42 (-22) = 20 := by decide +kernel
theorem jp_42_m22 : (0 ≤ ((42 : Nat) : Int) + (-22)) = True := by decide +kernel
theorem jt_42_4 : mm_jmp 42 4 = 46 := by decide +kernel
theorem jp_42_4 : (0 ≤ ((42 : Nat) : Int) + 4) = True := by decide +kernel
theorem jt_42_8 : mm_jmp 42 8 = 50 := by decide +kernel
theorem jp_42_8 : (0 ≤ ((42 : Nat) : Int) + 8) = True := by decide +kernel
theorem jt_42_12 : mm_jmp 42 12 = 54 := by decide +kernel
theorem jp_42_12 : (0 ≤ ((42 : Nat) : Int) + 12) = True := by decide +kernel
theorem jt_42_102 : mm_jmp 42 102 = 144 := by decide +kernel
theorem jp_42_102 : (0 ≤ ((42 : Nat) : Int) + 102) = True := by decide +kernel
theorem jt_43_4 : mm_jmp 43 4 = 47 := by decide +kernel
theorem jp_43_4 : (0 ≤ ((43 : Nat) : Int) + 4) = True := by decide +kernel
theorem jt_43_12 : mm_jmp 43 12 = 55 := by decide +kernel
theorem jp_43_12 : (0 ≤ ((43 : Nat) : Int) + 12) = True := by decide +kernel
theorem jt_43_19 : mm_jmp 43 19 = 62 := by decide +kernel
theorem jp_43_19 : (0 ≤ ((43 : Nat) : Int) + 19) = True := by decide +kernel
theorem jt_43_20 : mm_jmp 43 20 = 63 := by decide +kernel
theorem jp_43_20 : (0 ≤ ((43 : Nat) : Int) + 20) = True := by decide +kernel
theorem jt_43_79 : mm_jmp 43 79 = 122 := by decide +kernel
theorem jp_43_79 : (0 ≤ ((43 : Nat) : Int) + 79) = True := by decide +kernel
theorem jt_44_4 : mm_jmp 44 4 = 48 := by decide +kernel
theorem jp_44_4 : (0 ≤ ((44 : Nat) : Int) + 4) = True := by decide +kernel
theorem jt_44_6 : mm_jmp 44 6 = 50 := by decide +kernel
theorem jp_44_6 : (0 ≤ ((44 : Nat) : Int) + 6) = True := by decide +kernel
theorem jt_44_16 : mm_jmp 44 16 = 60 := by decide +kernel
theorem jp_44_16 : (0 ≤ ((44 : Nat) : Int) + 16) = True := by decide +kernel
theorem jt_44_52 : mm_jmp 44 52 = 96 := by decide +kernel
theorem jp_44_52 : (0 ≤ ((44 : Nat) : Int) + 52) = True := by decide +kernel
theorem jt_45_4 : mm_jmp 45 4 = 49 := by decide +kernel
theorem jp_45_4 : (0 ≤ ((45 : Nat) : Int) + 4) = True := by decide +kernel
theorem jt_45_5 : mm_jmp 45 5 = 50 := by decide +kernel
theorem jp_45_5 : (0 ≤ ((45 : Nat) : Int) + 5) = True := by decide +kernel
theorem jt_45_6 : mm_jmp 45 6 = 51 := by decide +kernel
theorem jp_45_6 : (0 ≤ ((45 : Nat) : Int) + 6) = True := by decide +kernel
theorem jt_45_7 : mm_jmp 45 7 = 52 := by decide +kernel
theorem jp_45_7 : (0 ≤ ((45 : Nat) : Int) + 7) = True := by decide +kernel
theorem jt_45_9 : mm_jmp 45 9 = 54 := by decide +kernel
theorem jp_45_9 : (0 ≤ ((45 : Nat) : Int) + 9) = True := by decide +kernel
theorem jt_45_28 : mm_jmp 45 28 = 73 := by decide +kernel
theorem jp_45_28 : (0 ≤ ((45 : Nat) : Int) + 28) = True := by decide +kernel
theorem jt_45_29 : mm_jmp 45 29 = 74 := by decide +kernel
theorem jp_45_29 : (0 ≤ ((45 : Nat) : Int) + 29) = True := by decide +kernel
theorem jt_46_7 : mm_jmp 46 7 = 53 := by decide +kernel
theorem jp_46_7 : (0 ≤ ((46 : Nat) : Int) + 7) = True := by decide +kernel
theorem jt_46_13 : mm_jmp 46 13 = 59 := by decide +kernel
theorem jp_46_13 : (0 ≤ ((46 : Nat) : Int) + 13) = True := by decide +kernel
theorem jt_46_27 : mm_jmp 46 27 = 73 := by decide +kernel
theorem jp_46_27 : (0 ≤ ((46 : Nat) : Int) + 27) = True := by decide +kernel
theorem jt_47_m43 : mm_jmp 47 (-43) = 4 := by decide +kernel
theorem jp_47_m43 : (0 ≤ ((47 : Nat) : Int) + (-43)) = True := by decide +kernel
theorem jt_47_4 : mm_jmp 47 4 = 51 := by decide +kernel
theorem jp_47_4 : (0 ≤ ((47 : Nat) : Int) + 4) = True := by decide +kernel
theorem jt_47_7 : mm_jmp 47 7 = 54 := by decide +kernel
theorem jp_47_7 : (0 ≤ ((47 : Nat) : Int) + 7) = True := by decide +kernel
theorem jt_47_12 : mm_jmp 47 12 = 59 := by decide +kernel
theorem jp_47_12 : (0 ≤ ((47 : Nat) : Int) + 12) = True := by decide +kernel
theorem jt_47_14 : mm_jmp 47 14 = 61 := by decide +kernel
theorem jp_47_14 : (0 ≤ ((47 : Nat) : Int) + 14) = True := by decide +kernel
theorem jt_47_27 : mm_jmp 47 27 = 74 := by decide +kernel
theorem jp_47_27 : (0 ≤ ((47 : Nat) : Int) + 27) = True := by decide +kernel
theorem jt_47_37 : mm_jmp 47 37 = 84 := by decide +kernel
theorem jp_47_37 : (0 ≤ ((47 : Nat) : Int) + 37) = True := by decide +kernel
theorem jt_48_9 : mm_jmp 48 9 = 57 := by decide +kernel
theorem jp_48_9 : (0 ≤ ((48 : Nat) : Int) + 9) = True := by decide +kernel
theorem jt_49_5 : mm_jmp 49 5 = 54 := by decide +kernel
theorem jp_49_5 : (0 ≤ ((49 : Nat) : Int) + 5) = True := by decide +kernel
theorem jt_49_7 : mm_jmp 49 7 = 56 := by decide +kernel
theorem jp_49_7 : (0 ≤ ((49 : Nat) : Int) + 7) = True := by decide +kernel
theorem jt_49_8 : mm_jmp 49 8 = 57 := by decide +kernel
theorem jp_49_8 : (0 ≤ ((49 : Nat) : Int) + 8) = True := by decide +kernel
theorem jt_49_15 : mm_jmp 49 15 = 64 := by decide +kernel
theorem jp_49_15 : (0 ≤ ((49 : Nat) : Int) + 15) = True := by decide +kernel
theorem jt_49_16 : mm_jmp 49 16 = 65 := by decide +kernel
theorem jp_49_16 : (0 ≤ ((49 : Nat) : Int) + 16) = True := by decide +kernel
theorem jt_49_27 : mm_jmp 49 27 = 76 := by decide +kernel
theorem jp_49_27 : (0 ≤ ((49 : Nat) : Int) + 27) = True := by decide +kernel
theorem jt_49_43 : mm_jmp 49 43 = 92 := by decide +kernel
theorem jp_49_43 : (0 ≤ ((49 : Nat) : Int) + 43) = True := by decide +kernel
theorem jt_49_62 : mm_jmp 49 62 = 111 := by decide +kernel
theorem jp_49_62 : (0 ≤ ((49 : Nat) : Int) + 62) = True := by decide +kernel
theorem jt_49_74 : mm_jmp 49 74 = 123 := by decide +kernel
theorem jp_49_74 : (0 ≤ ((49 : Nat) : Int) + 74) = True := by decide +kernel
theorem jt_49_86 : mm_jmp 49 86 = 135 := by decide +kernel
theorem jp_49_86 : (0 ≤ ((49 : Nat) : Int) + 86) = True := by decide +kernel
theorem jt_49_98 : mm_jmp 49 98 = 147 := by decide +kernel
theorem jp_49_98 : (0 ≤ ((49 : Nat) : Int) + 98) = True := by decide +kernel
theorem jt_50_4 : mm_jmp 50 4 = 54 := by decide +kernel
theorem jp_50_4 : (0 ≤ ((50 : Nat) : Int) + 4) = True := by decide +kernel
theorem jt_50_6 : mm_jmp 50 6 = 56 := by decide +kernel
theorem jp_50_6 : (0 ≤ ((50 : Nat) : Int) + 6) = True := by decide +kernel
theorem jt_50_10 : mm_jmp 50 10 = 60 := by decide +kernel
theorem jp_50_10 : (0 ≤ ((50 : Nat) : Int) + 10) = True := by decide +kernel
theorem jt_51_m28 : mm_jmp 51 (-28) = 23 := by decide +kernel
theorem jp_51_m28 : (0 ≤ ((51 : Nat) : Int) + (-28)) = True := by decide +kernel
theorem jt_51_4 : mm_jmp 51 4 = 55 := by decide +kernel
theorem jp_51_4 : (0 ≤ ((51 : Nat) : Int) + 4) = True := by decide +kernel
theorem jt_51_6 : mm_jmp 51 6 = 57 := by decide +kernel
theorem jp_51_6 : (0 ≤ ((51 : Nat) : Int) + 6) = True := by decide +kernel
theorem jt_51_12 : mm_jmp 51 12 = 63 := by decide +kernel
theorem jp_51_12 : (0 ≤ ((51 : Nat) : Int) + 12) = True := by decide +kernel
theorem jt_51_14 : mm_jmp 51 14 = 65 := by decide +kernel
theorem jp_51_14 : (0 ≤ ((51 : Nat) : Int) + 14) = True := by decide +kernel
theorem jt_51_15 : mm_jmp 51 15 = 66 := by decide +kernel
theorem jp_51_15 : (0 ≤ ((51 : Nat) : Int) + 15) = True := by decide +kernel
theorem jt_51_16 : mm_jmp 51 16 = 67 := by decide +kernel
theorem jp_51_16 : (0 ≤ ((51 : Nat) : Int) + 16) = True := by decide +kernel
theorem jt_51_20 : mm_jmp 51 20 = 71 := by decide +kernel
theorem jp_51_20 : (0 ≤ ((51 : Nat) : Int) + 20) = True := by decide +kernel
theorem jt_51_61 : mm_jmp 51 61 = 112 := by decide +kernel
theorem jp_51_61 : (0 ≤ ((51 : Nat) : Int) + 61) = True := by decide +kernel
theorem jt_52_6 : mm_jmp 52 6 = 58 := by decide +kernel
theorem jp_52_6 : (0 ≤ ((52 : Nat) : Int) + 6) = True := by decide +kernel
theorem jt_52_7 : mm_jmp 52 7 = 59 := by decide +kernel
theorem jp_52_7 : (0 ≤ ((52 : Nat) : Int) + 7) = True := by decide +kernel
theorem jt_53_21 : mm_jmp 53 21 = 74 := by decide +kernel
theorem jp_53_21 : (0 ≤ ((53 : Nat) : Int) + 21) = True := by decide +kernel
theorem jt_53_43 : mm_jmp 53 43 = 96 := by decide +kernel
theorem jp_53_43 : (0 ≤ ((53 : Nat) : Int) + 43) = True := by decide +kernel
theorem jt_54_4 : mm_jmp 54 4 = 58 := by decide +kernel
theorem jp_54_4 : (0 ≤ ((54 : Nat) : Int) + 4) = True := by decide +kernel
theorem jt_54_85 : mm_jmp 54 85 = 139 := by decide +kernel
theorem jp_54_85 : (0 ≤ ((54 : Nat) : Int) + 85) = True := by decide +kernel
theorem jt_55_19 : mm_jmp 55 19 = 74 := by decide +kernel
theorem jp_55_19 : (0 ≤ ((55 : Nat) : Int) + 19) = True := by decide +kernel
theorem jt_56_4 : mm_jmp 56 4 = 60 := by decide +kernel
theorem jp_56_4 : (0 ≤ ((56 : Nat) : Int) + 4) = True := by decide +kernel
theorem jt_56_7 : mm_jmp 56 7 = 63 := by decide +kernel
theorem jp_56_7 : (0 ≤ ((56 : Nat) : Int) + 7) = True := by decide +kernel
theorem jt_56_17 : mm_jmp 56 17 = 73 := by decide +kernel
theorem jp_56_17 : (0 ≤ ((56 : Nat) : Int) + 17) = True := by decide +kernel
theorem jt_57_4 : mm_jmp 57 4 = 61 := by decide +kernel
theorem jp_57_4 : (0 ≤ ((57 : Nat) : Int) + 4) = True := by decide +kernel
theorem jt_57_7 : mm_jmp 57 7 = 64 := by decide +kernel
theorem jp_57_7 : (0 ≤ ((57 : Nat) : Int) + 7) = True := by decide +kernel
theorem jt_57_16 : mm_jmp 57 16 = 73 := by decide +kernel
theorem jp_57_16 : (0 ≤ ((57 : Nat) : Int) + 16) = True := by decide +kernel
theorem jt_57_17 : mm_jmp 57 17 = 74 := by decide +kernel
theorem jp_57_17 : (0 ≤ ((57 : Nat) : Int) + 17) = True := by decide +kernel
theorem jt_57_69 : mm_jmp 57 69 = 126 := by decide +kernel
theorem jp_57_69 : (0 ≤ ((57 : Nat) : Int) + 69) = True := by decide +kernel
theorem jt_58_6 : mm_jmp 58 6 = 64 := by decide +kernel
theorem jp_58_6 : (0 ≤ ((58 : Nat) : Int) + 6) = True := by decide +kernel
theorem jt_58_21 : mm_jmp 58 21 = 79 := by decide +kernel
theorem jp_58_21 : (0 ≤ ((58 : Nat) : Int) + 21) = True := by decide +kernel
theorem jt_58_22 : mm_jmp 58 22 = 80 := by decide +kernel
theorem jp_58_22 : (0 ≤ ((58 : Nat) : Int) + 22) = True := by decide +kernel
theorem jt_58_26 : mm_jmp 58 26 = 84 := by decide +kernel
theorem jp_58_26 : (0 ≤ ((58 : Nat) : Int) + 26) = True := by decide +kernel
theorem jt_59_10 : mm_jmp 59 10 = 69 := by decide +kernel
theorem jp_59_10 : (0 ≤ ((59 : Nat) : Int) + 10) = True := by decide +kernel
theorem jt_59_15 : mm_jmp 59 15 = 74 := by decide +kernel
theorem jp_59_15 : (0 ≤ ((59 : Nat) : Int) + 15) = True := by decide +kernel
theorem jt_59_16 : mm_jmp 59 16 = 75 := by decide +kernel
theorem jp_59_16 : (0 ≤ ((59 : Nat) : Int) + 16) = True := by decide +kernel
theorem jt_60_4 : mm_jmp 60 4 = 64 := by decide +kernel
theorem jp_60_4 : (0 ≤ ((60 : Nat) : Int) + 4) = True := by decide +kernel
theorem jt_60_5 : mm_jmp 60 5 = 65 := by decide +kernel
theorem jp_60_5 : (0 ≤ ((60 : Nat) : Int) + 5) = True := by decide +kernel
theorem jt_60_12 : mm_jmp 60 12 = 72 := by decide +kernel
theorem jp_60_12 : (0 ≤ ((60 : Nat) : Int) + 12) = True := by decide +kernel
theorem jt_60_15 : mm_jmp 60 15 = 75 := by decide +kernel
theorem jp_60_15 : (0 ≤ ((60 : Nat) : Int) + 15) = True := by decide +kernel
theorem jt_61_4 : mm_jmp 61 4 = 65 := by decide +kernel
theorem jp_61_4 : (0 ≤ ((61 : Nat) : Int) + 4) = True := by decide +kernel
theorem jt_62_5 : mm_jmp 62 5 = 67 := by decide +kernel
theorem jp_62_5 : (0 ≤ ((62 : Nat) : Int) + 5) = True := by decide +kernel
theorem jt_62_6 : mm_jmp 62 6 = 68 := by decide +kernel
theorem jp_62_6 : (0 ≤ ((62 : Nat) : Int) + 6) = True := by decide +kernel
theorem jt_62_7 : mm_jmp 62 7 = 69 := by decide +kernel
theorem jp_62_7 : (0 ≤ ((62 : Nat) : Int) + 7) = True := by decide +kernel
theorem jt_62_10 : mm_jmp 62 10 = 72 := by decide +kernel
theorem jp_62_10 : (0 ≤ ((62 : Nat) : Int) + 10) = True := by decide +kernel
theorem jt_62_15 : mm_jmp 62 15 = 77 := by decide +kernel
theorem jp_62_15 : (0 ≤ ((62 : Nat) : Int) + 15) = True := by decide +kernel
theorem jt_62_44 : mm_jmp 62 44 = 106 := by decide +kernel
theorem jp_62_44 : (0 ≤ ((62 : Nat) : Int) + 44) = True := by decide +kernel
theorem jt_63_9 : mm_jmp 63 9 = 72 := by decide +kernel
theorem jp_63_9 : (0 ≤ ((63 : Nat) : Int) + 9) = True := by decide +kernel
theorem jt_63_59 : mm_jmp 63 59 = 122 := by decide +kernel
theorem jp_63_59 : (0 ≤ ((63 : Nat) : Int) + 59) = True := by decide +kernel
theorem jt_63_76 : mm_jmp 63 76 = 139 := by decide +kernel
theorem jp_63_76 : (0 ≤ ((63 : Nat) : Int) + 76) = True := by decide +kernel
theorem jt_64_80 : mm_jmp 64 80 = 144 := by decide +kernel
theorem jp_64_80 : (0 ≤ ((64 : Nat) : Int) + 80) = True := by decide +kernel
theorem jt_65_15 : mm_jmp 65 15 = 80 := by decide +kernel
theorem jp_65_15 : (0 ≤ ((65 : Nat) : Int) + 15) = True := by decide +kernel
theorem jt_66_10 : mm_jmp 66 10 = 76 := by decide +kernel
theorem jp_66_10 : (0 ≤ ((66 : Nat) : Int) + 10) = True := by decide +kernel
theorem jt_66_13 : mm_jmp 66 13 = 79 := by decide +kernel
theorem jp_66_13 : (0 ≤ ((66 : Nat) : Int) + 13) = True := by decide +kernel
theorem jt_66_15 : mm_jmp 66 15 = 81 := by decide +kernel
theorem jp_66_15 : (0 ≤ ((66 : Nat) : Int) + 15) = True := by decide +kernel
theorem jt_66_19 : mm_jmp 66 19 = 85 := by decide +kernel
theorem jp_66_19 : (0 ≤ ((66 : Nat) : Int) + 19) = True := by decide +kernel
theorem jt_67_16 : mm_jmp 67 16 = 83 := by decide +kernel
theorem jp_67_16 : (0 ≤ ((67 : Nat) : Int) + 16) = True := by decide +kernel
theorem jt_68_6 : mm_jmp 68 6 = 74 := by decide +kernel
theorem jp_68_6 : (0 ≤ ((68 : Nat) : Int) + 6) = True := by decide +kernel
theorem jt_68_7 : mm_jmp 68 7 = 75 := by decide +kernel
theorem jp_68_7 : (0 ≤ ((68 : Nat) : Int) + 7) = True := by decide +kernel
theorem jt_69_4 : mm_jmp 69 4 = 73 := by decide +kernel
theorem jp_69_4 : (0 ≤ ((69 : Nat) : Int) + 4) = True := by decide +kernel
theorem jt_69_5 : mm_jmp 69 5 = 74 := by decide +kernel
theorem jp_69_5 : (0 ≤ ((69 : Nat) : Int) + 5) = True := by decide +kernel
theorem jt_69_9 : mm_jmp 69 9 = 78 := by decide +kernel
theorem jp_69_9 : (0 ≤ ((69 : Nat) : Int) + 9) = True := by decide +kernel
theorem jt_69_19 : mm_jmp 69 19 = 88 := by decide +kernel
theorem jp_69_19 : (0 ≤ ((69 : Nat) : Int) + 19) = True := by decide +kernel
theorem jt_69_22 : mm_jmp 69 22 = 91 := by decide +kernel
theorem jp_69_22 : (0 ≤ ((69 : Nat) : Int) + 22) = True := by decide +kernel
theorem jt_70_6 : mm_jmp 70 6 = 76 := by decide +kernel
theorem jp_70_6 : (0 ≤ ((70 : Nat) : Int) + 6) = True := by decide +kernel
theorem jt_70_7 : mm_jmp 70 7 = 77 := by decide +kernel
theorem jp_70_7 : (0 ≤ ((70 : Nat) : Int) + 7) = True := by decide +kernel
theorem jt_70_14 : mm_jmp 70 14 = 84 := by decide +kernel
theorem jp_70_14 : (0 ≤ ((70 : Nat) : Int) + 14) = True := by decide +kernel
theorem jt_70_49 : mm_jmp 70 49 = 119 := by decide +kernel
theorem jp_70_49 : (0 ≤ ((70 : Nat) : Int) + 49) = True := by decide +kernel
theorem jt_70_69 : mm_jmp 70 69 = 139 := by decide +kernel
theorem jp_70_69 : (0 ≤ ((70 : Nat) : Int) + 69) = True := by decide +kernel
theorem jt_71_m18 : mm_jmp 71 (-18) = 53 := by decide +kernel
theorem jp_71_m18 : (0 ≤ ((71 : Nat) : Int) + (-18)) = True := by decide +kernel
theorem jt_71_215 : mm_jmp 71 215 = 286 := by decide +kernel
theorem jp_71_215 : (0 ≤ ((71 : Nat) : Int) + 215) = True := by decide +kernel
theorem jt_72_4 : mm_jmp 72 4 = 76 := by decide +kernel
theorem jp_72_4 : (0 ≤ ((72 : Nat) : Int) + 4) = True := by decide +kernel
theorem jt_72_9 : mm_jmp 72 9 = 81 := by decide +kernel
theorem jp_72_9 : (0 ≤ ((72 : Nat) : Int) + 9) = True := by decide +kernel
theorem jt_72_12 : mm_jmp 72 12 = 84 := by decide +kernel
theorem jp_72_12 : (0 ≤ ((72 : Nat) : Int) + 12) = True := by decide +kernel
theorem jt_72_30 : mm_jmp 72 30 = 102 := by decide +kernel
theorem jp_72_30 : (0 ≤ ((72 : Nat) : Int) + 30) = True := by decide +kernel
theorem jt_73_7 : mm_jmp 73 7 = 80 := by decide +kernel
theorem jp_73_7 : (0 ≤ ((73 : Nat) : Int) + 7) = True := by decide +kernel
theorem jt_74_4 : mm_jmp 74 4 = 78 := by decide +kernel
theorem jp_74_4 : (0 ≤ ((74 : Nat) : Int) + 4) = True := by decide +kernel
theorem jt_74_7 : mm_jmp 74 7 = 81 := by decide +kernel
theorem jp_74_7 : (0 ≤ ((74 : Nat) : Int) + 7) = True := by decide +kernel
theorem jt_74_25 : mm_jmp 74 25 = 99 := by decide +kernel
theorem jp_74_25 : (0 ≤ ((74 : Nat) : Int) + 25) = True := by decide +kernel
theorem jt_74_32 : mm_jmp 74 32 = 106 := by decide +kernel
theorem jp_74_32 : (0 ≤ ((74 : Nat) : Int) + 32) = True := by decide +kernel
theorem jt_74_40 : mm_jmp 74 40 = 114 := by decide +kernel
theorem jp_74_40 : (0 ≤ ((74 : Nat) : Int) + 40) = True := by decide +kernel
theorem jt_76_15 : mm_jmp 76 15 = 91 := by decide +kernel
theorem jp_76_15 : (0 ≤ ((76 : Nat) : Int) + 15) = True := by decide +kernel
theorem jt_76_64 : mm_jmp 76 64 = 140 := by decide +kernel
theorem jp_76_64 : (0 ≤ ((76 : Nat) : Int) + 64) = True := by decide +kernel
theorem jt_77_m63 : mm_jmp 77 (-63) = 14 := by decide +kernel
theorem jp_77_m63 : (0 ≤ ((77 : Nat) : Int) + (-63)) = True := by decide +kernel
theorem jt_77_m25 : mm_jmp 77 (-25) = 52 := by decide +kernel
theorem jp_77_m25 : (0 ≤ ((77 : Nat) : Int) + (-25)) = True := by decide +kernel
theorem jt_77_4 : mm_jmp 77 4 = 81 := by decide +kernel
theorem jp_77_4 : (0 ≤ ((77 : Nat) : Int) + 4) = True := by decide +kernel
theorem jt_77_8 : mm_jmp 77 8 = 85 := by decide +kernel
theorem jp_77_8 : (0 ≤ ((77 : Nat) : Int) + 8) = True := by decide +kernel
theorem jt_77_24 : mm_jmp 77 24 = 101 := by decide +kernel
theorem jp_77_24 : (0 ≤ ((77 : Nat) : Int) + 24) = True := by decide +kernel
theorem jt_78_4 : mm_jmp 78 4 = 82 := by decide +kernel
theorem jp_78_4 : (0 ≤ ((78 : Nat) : Int) + 4) = True := by decide +kernel
theorem jt_78_7 : mm_jmp 78 7 = 85 := by decide +kernel
theorem jp_78_7 : (0 ≤ ((78 : Nat) : Int) + 7) = True := by decide +kernel
theorem jt_78_10 : mm_jmp 78 10 = 88 := by decide +kernel
theorem jp_78_10 : (0 ≤ ((78 : Nat) : Int) + 10) = True := by decide +kernel
theorem jt_78_13 : mm_jmp 78 13 = 91 := by decide +kernel
theorem jp_78_13 : (0 ≤ ((78 : Nat) : Int) + 13) = True := by decide +kernel
theorem jt_80_9 : mm_jmp 80 9 = 89 := by decide +kernel
theorem jp_80_9 : (0 ≤ ((80 : Nat) : Int) + 9) = True := by decide +kernel
theorem jt_80_15 : mm_jmp 80 15 = 95 := by decide +kernel
theorem jp_80_15 : (0 ≤ ((80 : Nat) : Int) + 15) = True := by decide +kernel
theorem jt_80_46 : mm_jmp 80 46 = 126 := by decide +kernel
theorem jp_80_46 : (0 ≤ ((80 : Nat) : Int) + 46) = True := by decide +kernel
theorem jt_81_7 : mm_jmp 81 7 = 88 := by decide +kernel
theorem jp_81_7 : (0 ≤ ((81 : Nat) : Int) + 7) = True := by decide +kernel
theorem jt_81_8 : mm_jmp 81 8 = 89 := by decide +kernel
theorem jp_81_8 : (0 ≤ ((81 : Nat) : Int) + 8) = True := by decide +kernel
theorem jt_81_9 : mm_jmp 81 9 = 90 := by decide +kernel
theorem jp_81_9 : (0 ≤ ((81 : Nat) : Int) + 9) = True := by decide +kernel
theorem jt_81_10 : mm_jmp 81 10 = 91 := by decide +kernel
theorem jp_81_10 : (0 ≤ ((81 : Nat) : Int) + 10) = True := by decide +kernel
theorem jt_82_5 : mm_jmp 82 5 = 87 := by decide +kernel
theorem jp_82_5 : (0 ≤ ((82 : Nat) : Int) + 5) = True := by decide +kernel
theorem jt_82_19 : mm_jmp 82 19 = 101 := by decide +kernel
theorem jp_82_19 : (0 ≤ ((82 : Nat) : Int) + 19) = True := by decide +kernel
theorem jt_82_29 : mm_jmp 82 29 = 111 := by decide +kernel
theorem jp_82_29 : (0 ≤ ((82 : Nat) : Int) + 29) = True := by decide +kernel
theorem jt_83_11 : mm_jmp 83 11 = 94 := by decide +kernel
theorem jp_83_11 : (0 ≤ ((83 : Nat) : Int) + 11) = True := by decide +kernel
theorem jt_84_8 : mm_jmp 84 8 = 92 := by decide +kernel
theorem jp_84_8 : (0 ≤ ((84 : Nat) : Int) + 8) = True := by decide +kernel
theorem jt_84_15 : mm_jmp 84 15 = 99 := by decide +kernel
theorem jp_84_15 : (0 ≤ ((84 : Nat) : Int) + 15) = True := by decide +kernel
theorem jt_85_4 : mm_jmp 85 4 = 89 := by decide +kernel
theorem jp_85_4 : (0 ≤ ((85 : Nat) : Int) + 4) = True := by decide +kernel
theorem jt_85_24 : mm_jmp 85 24 = 109 := by decide +kernel
theorem jp_85_24 : (0 ≤ ((85 : Nat) : Int) + 24) = True := by decide +kernel
theorem jt_86_5 : mm_jmp 86 5 = 91 := by decide +kernel
theorem jp_86_5 : (0 ≤ ((86 : Nat) : Int) + 5) = True := by decide +kernel
theorem jt_86_10 : mm_jmp 86 10 = 96 := by decide +kernel
theorem jp_86_10 : (0 ≤ ((86 : Nat) : Int) + 10) = True := by decide +kernel
theorem jt_86_18 : mm_jmp 86 18 = 104 := by decide +kernel
theorem jp_86_18 : (0 ≤ ((86 : Nat) : Int) + 18) = True := by decide +kernel
theorem jt_86_20 : mm_jmp 86 20 = 106 := by decide +kernel
theorem jp_86_20 : (0 ≤ ((86 : Nat) : Int) + 20) = True := by decide +kernel
theorem jt_87_8 : mm_jmp 87 8 = 95 := by decide +kernel
theorem jp_87_8 : (0 ≤ ((87 : Nat) : Int) + 8) = True := by decide +kernel
theorem jt_87_9 : mm_jmp 87 9 = 96 := by decide +kernel
theorem jp_87_9 : (0 ≤ ((87 : Nat) : Int) + 9) = True := by decide +kernel
theorem jt_87_15 : mm_jmp 87 15 = 102 := by decide +kernel
theorem jp_87_15 : (0 ≤ ((87 : Nat) : Int) + 15) = True := by decide +kernel
theorem jt_87_35 : mm_jmp 87 35 = 122 := by decide +kernel
theorem jp_87_35 : (0 ≤ ((87 : Nat) : Int) + 35) = True := by decide +kernel
theorem jt_88_11 : mm_jmp 88 11 = 99 := by decide +kernel
theorem jp_88_11 : (0 ≤ ((88 : Nat) : Int) + 11) = True := by decide +kernel
theorem jt_88_13 : mm_jmp 88 13 = 101 := by decide +kernel
theorem jp_88_13 : (0 ≤ ((88 : Nat) : Int) + 13) = True := by decide +kernel
theorem jt_90_10 : mm_jmp 90 10 = 100 := by decide +kernel
theorem jp_90_10 : (0 ≤ ((90 : Nat) : Int) + 10) = True := by decide +kernel
theorem jt_90_29 : mm_jmp 90 29 = 119 := by decide +kernel
theorem jp_90_29 : (0 ≤ ((90 : Nat) : Int) + 29) = True := by decide +kernel
theorem jt_91_m77 : mm_jmp 91 (-77) = 14 := by decide +kernel
theorem jp_91_m77 : (0 ≤ ((91 : Nat) : Int) + (-77)) = True := by decide +kernel
theorem jt_92_7 : mm_jmp 92 7 = 99 := by decide +kernel
theorem jp_92_7 : (0 ≤ ((92 : Nat) : Int) + 7) = True := by decide +kernel
theorem jt_92_58 : mm_jmp 92 58 = 150 := by decide +kernel
theorem jp_92_58 : (0 ≤ ((92 : Nat) : Int) + 58) = True := by decide +kernel
theorem jt_93_7 : mm_jmp 93 7 = 100 := by decide +kernel
theorem jp_93_7 : (0 ≤ ((93 : Nat) : Int) + 7) = True := by decide +kernel
theorem jt_93_11 : mm_jmp 93 11 = 104 := by decide +kernel
theorem jp_93_11 : (0 ≤ ((93 : Nat) : Int) + 11) = True := by decide +kernel
theorem jt_93_75 : mm_jmp 93 75 = 168 := by decide +kernel
theorem jp_93_75 : (0 ≤ ((93 : Nat) : Int) + 75) = True := by decide +kernel
theorem jt_94_13 : mm_jmp 94 13 = 107 := by decide +kernel
theorem jp_94_13 : (0 ≤ ((94 : Nat) : Int) + 13) = True := by decide +kernel
theorem jt_94_22 : mm_jmp 94 22 = 116 := by decide +kernel
theorem jp_94_22 : (0 ≤ ((94 : Nat) : Int) + 22) = True := by decide +kernel
theorem jt_95_24 : mm_jmp 95 24 = 119 := by decide +kernel
theorem jp_95_24 : (0 ≤ ((95 : Nat) : Int) + 24) = True := by decide +kernel
theorem jt_96_4 : mm_jmp 96 4 = 100 := by decide +kernel
theorem jp_96_4 : (0 ≤ ((96 : Nat) : Int) + 4) = True := by decide +kernel
theorem jt_96_12 : mm_jmp 96 12 = 108 := by decide +kernel
theorem jp_96_12 : (0 ≤ ((96 : Nat) : Int) + 12) = True := by decide +kernel
theorem jt_96_37 : mm_jmp 96 37 = 133 := by decide +kernel
theorem jp_96_37 : (0 ≤ ((96 : Nat) : Int) + 37) = True := by decide +kernel
theorem jt_97_6 : mm_jmp 97 6 = 103 := by decide +kernel
theorem jp_97_6 : (0 ≤ ((97 : Nat) : Int) + 6) = True := by decide +kernel
theorem jt_97_44 : mm_jmp 97 44 = 141 := by decide +kernel
theorem jp_97_44 : (0 ≤ ((97 : Nat) : Int) + 44) = True := by decide +kernel
theorem jt_98_4 : mm_jmp 98 4 = 102 := by decide +kernel
theorem jp_98_4 : (0 ≤ ((98 : Nat) : Int) + 4) = True := by decide +kernel
theorem jt_99_12 : mm_jmp 99 12 = 111 := by decide +kernel
theorem jp_99_12 : (0 ≤ ((99 : Nat) : Int) + 12) = True := by decide +kernel
theorem jt_99_23 : mm_jmp 99 23 = 122 := by decide +kernel
theorem jp_99_23 : (0 ≤ ((99 : Nat) : Int) + 23) = True := by decide +kernel
theorem jt_100_6 : mm_jmp 100 6 = 106 := by decide +kernel
theorem jp_100_6 : (0 ≤ ((100 : Nat) : Int) + 6) = True := by decide +kernel
theorem jt_100_17 : mm_jmp 100 17 = 117 := by decide +kernel
theorem jp_100_17 : (0 ≤ ((100 : Nat) : Int) + 17) = True := by decide +kernel
theorem jt_101_7 : mm_jmp 101 7 = 108 := by decide +kernel
theorem jp_101_7 : (0 ≤ ((101 : Nat) : Int) + 7) = True := by decide +kernel
theorem jt_101_8 : mm_jmp 101 8 = 109 := by decide +kernel
theorem jp_101_8 : (0 ≤ ((101 : Nat) : Int) + 8) = True := by decide +kernel
theorem jt_101_15 : mm_jmp 101 15 = 116 := by decide +kernel
theorem jp_101_15 : (0 ≤ ((101 : Nat) : Int) + 15) = True := by decide +kernel
theorem jt_103_10 : mm_jmp 103 10 = 113 := by decide +kernel
theorem jp_103_10 : (0 ≤ ((103 : Nat) : Int) + 10) = True := by decide +kernel
theorem jt_103_16 : mm_jmp 103 16 = 119 := by decide +kernel
theorem jp_103_16 : (0 ≤ ((103 : Nat) : Int) + 16) = True := by decide +kernel
theorem jt_104_19 : mm_jmp 104 19 = 123 := by decide +kernel
theorem jp_104_19 : (0 ≤ ((104 : Nat) : Int) + 19) = True := by decide +kernel
theorem jt_105_5 : mm_jmp 105 5 = 110 := by decide +kernel
theorem jp_105_5 : (0 ≤ ((105 : Nat) : Int) + 5) = True := by decide +kernel
theorem jt_105_19 : mm_jmp 105 19 = 124 := by decide +kernel
theorem jp_105_19 : (0 ≤ ((105 : Nat) : Int) + 19) = True := by decide +kernel
theorem jt_105_25 : mm_jmp 105 25 = 130 := by decide +kernel
theorem jp_105_25 : (0 ≤ ((105 : Nat) : Int) + 25) = True := by decide +kernel
theorem jt_105_195 : mm_jmp 105 195 = 300 := by decide +kernel
theorem jp_105_195 : (0 ≤ ((105 : Nat) : Int) + 195) = True := by decide +kernel
theorem jt_106_5 : mm_jmp 106 5 = 111 := by decide +kernel
theorem jp_106_5 : (0 ≤ ((106 : Nat) : Int) + 5) = True := by decide +kernel
theorem jt_106_7 : mm_jmp 106 7 = 113 := by decide +kernel
theorem jp_106_7 : (0 ≤ ((106 : Nat) : Int) + 7) = True := by decide +kernel
theorem jt_106_13 : mm_jmp 106 13 = 119 := by decide +kernel
theorem jp_106_13 : (0 ≤ ((106 : Nat) : Int) + 13) = True := by decide +kernel
theorem jt_106_24 : mm_jmp 106 24 = 130 := by decide +kernel
theorem jp_106_24 : (0 ≤ ((106 : Nat) : Int) + 24) = True := by decide +kernel
theorem jt_107_6 : mm_jmp 107 6 = 113 := by decide +kernel
theorem jp_107_6 : (0 ≤ ((107 : Nat) : Int) + 6) = True := by decide +kernel
theorem jt_108_4 : mm_jmp 108 4 = 112 := by decide +kernel
theorem jp_108_4 : (0 ≤ ((108 : Nat) : Int) + 4) = True := by decide +kernel
theorem jt_108_17 : mm_jmp 108 17 = 125 := by decide +kernel
theorem jp_108_17 : (0 ≤ ((108 : Nat) : Int) + 17) = True := by decide +kernel
theorem jt_109_m64 : mm_jmp 109 (-64) = 45 := by decide +kernel
theorem jp_109_m64 : (0 ≤ ((109 : Nat) : Int) + (-64)) = True := by decide +kernel
theorem jt_110_4 : mm_jmp 110 4 = 114 := by decide +kernel
theorem jp_110_4 : (0 ≤ ((110 : Nat) : Int) + 4) = True := by decide +kernel
theorem jt_110_7 : mm_jmp 110 7 = 117 := by decide +kernel
theorem jp_110_7 : (0 ≤ ((110 : Nat) : Int) + 7) = True := by decide +kernel
theorem jt_110_15 : mm_jmp 110 15 = 125 := by decide +kernel
theorem jp_110_15 : (0 ≤ ((110 : Nat) : Int) + 15) = True := by decide +kernel
theorem jt_110_31 : mm_jmp 110 31 = 141 := by decide +kernel
theorem jp_110_31 : (0 ≤ ((110 : Nat) : Int) + 31) = True := by decide +kernel
theorem jt_111_7 : mm_jmp 111 7 = 118 := by decide +kernel
theorem jp_111_7 : (0 ≤ ((111 : Nat) : Int) + 7) = True := by decide +kernel
theorem jt_111_33 : mm_jmp 111 33 = 144 := by decide +kernel
theorem jp_111_33 : (0 ≤ ((111 : Nat) : Int) + 33) = True := by decide +kernel
theorem jt_112_7 : mm_jmp 112 7 = 119 := by decide +kernel
theorem jp_112_7 : (0 ≤ ((112 : Nat) : Int) + 7) = True := by decide +kernel
theorem jt_114_4 : mm_jmp 114 4 = 118 := by decide +kernel
theorem jp_114_4 : (0 ≤ ((114 : Nat) : Int) + 4) = True := by decide +kernel
theorem jt_114_16 : mm_jmp 114 16 = 130 := by decide +kernel
theorem jp_114_16 : (0 ≤ ((114 : Nat) : Int) + 16) = True := by decide +kernel
theorem jt_116_4 : mm_jmp 116 4 = 120 := by decide +kernel
theorem jp_116_4 : (0 ≤ ((116 : Nat) : Int) + 4) = True := by decide +kernel
theorem jt_116_10 : mm_jmp 116 10 = 126 := by decide +kernel
theorem jp_116_10 : (0 ≤ ((116 : Nat) : Int) + 10) = True := by decide +kernel
theorem jt_116_12 : mm_jmp 116 12 = 128 := by decide +kernel
theorem jp_116_12 : (0 ≤ ((116 : Nat) : Int) + 12) = True := by decide +kernel
theorem jt_116_52 : mm_jmp 116 52 = 168 := by decide +kernel
theorem jp_116_52 : (0 ≤ ((116 : Nat) : Int) + 52) = True := by decide +kernel
theorem jt_117_183 : mm_jmp 117 183 = 300 := by decide +kernel
theorem jp_117_183 : (0 ≤ ((117 : Nat) : Int) + 183) = True := by decide +kernel
theorem jt_118_7 : mm_jmp 118 7 = 125 := by decide +kernel
theorem jp_118_7 : (0 ≤ ((118 : Nat) : Int) + 7) = True := by decide +kernel
theorem jt_118_12 : mm_jmp 118 12 = 130 := by decide +kernel
theorem jp_118_12 : (0 ≤ ((118 : Nat) : Int) + 12) = True := by decide +kernel
theorem jt_120_5 : mm_jmp 120 5 = 125 := by decide +kernel
theorem jp_120_5 : (0 ≤ ((120 : Nat) : Int) + 5) = True := by decide +kernel
theorem jt_120_7 : mm_jmp 120 7 = 127 := by decide +kernel
theorem jp_120_7 : (0 ≤ ((120 : Nat) : Int) + 7) = True := by decide +kernel
theorem jt_121_14 : mm_jmp 121 14 = 135 := by decide +kernel
theorem jp_121_14 : (0 ≤ ((121 : Nat) : Int) + 14) = True := by decide +kernel
theorem jt_122_4 : mm_jmp 122 4 = 126 := by decide +kernel
theorem jp_122_4 : (0 ≤ ((122 : Nat) : Int) + 4) = True := by decide +kernel
theorem jt_122_8 : mm_jmp 122 8 = 130 := by decide +kernel
theorem jp_122_8 : (0 ≤ ((122 : Nat) : Int) + 8) = True := by decide +kernel
theorem jt_123_7 : mm_jmp 123 7 = 130 := by decide +kernel
theorem jp_123_7 : (0 ≤ ((123 : Nat) : Int) + 7) = True := by decide +kernel
theorem jt_123_15 : mm_jmp 123 15 = 138 := by decide +kernel
theorem jp_123_15 : (0 ≤ ((123 : Nat) : Int) + 15) = True := by decide +kernel
theorem jt_123_18 : mm_jmp 123 18 = 141 := by decide +kernel
theorem jp_123_18 : (0 ≤ ((123 : Nat) : Int) + 18) = True := by decide +kernel
theorem jt_124_5 : mm_jmp 124 5 = 129 := by decide +kernel
theorem jp_124_5 : (0 ≤ ((124 : Nat) : Int) + 5) = True := by decide +kernel
theorem jt_124_7 : mm_jmp 124 7 = 131 := by decide +kernel
theorem jp_124_7 : (0 ≤ ((124 : Nat) : Int) + 7) = True := by decide +kernel
theorem jt_125_9 : mm_jmp 125 9 = 134 := by decide +kernel
theorem jp_125_9 : (0 ≤ ((125 : Nat) : Int) + 9) = True := by decide +kernel
theorem jt_125_16 : mm_jmp 125 16 = 141 := by decide +kernel
theorem jp_125_16 : (0 ≤ ((125 : Nat) : Int) + 16) = True := by decide +kernel
theorem jt_125_26 : mm_jmp 125 26 = 151 := by decide +kernel
theorem jp_125_26 : (0 ≤ ((125 : Nat) : Int) + 26) = True := by decide +kernel
theorem jt_126_26 : mm_jmp 126 26 = 152 := by decide +kernel
theorem jp_126_26 : (0 ≤ ((126 : Nat) : Int) + 26) = True := by decide +kernel
theorem jt_126_34 : mm_jmp 126 34 = 160 := by decide +kernel
theorem jp_126_34 : (0 ≤ ((126 : Nat) : Int) + 34) = True := by decide +kernel
theorem jt_127_4 : mm_jmp 127 4 = 131 := by decide +kernel
theorem jp_127_4 : (0 ≤ ((127 : Nat) : Int) + 4) = True := by decide +kernel
theorem jt_127_6 : mm_jmp 127 6 = 133 := by decide +kernel
theorem jp_127_6 : (0 ≤ ((127 : Nat) : Int) + 6) = True := by decide +kernel
theorem jt_127_10 : mm_jmp 127 10 = 137 := by decide +kernel
theorem jp_127_10 : (0 ≤ ((127 : Nat) : Int) + 10) = True := by decide +kernel
theorem jt_127_101 : mm_jmp 127 101 = 228 := by decide +kernel
theorem jp_127_101 : (0 ≤ ((127 : Nat) : Int) + 101) = True := by decide +kernel
theorem jt_128_5 : mm_jmp 128 5 = 133 := by decide +kernel
theorem jp_128_5 : (0 ≤ ((128 : Nat) : Int) + 5) = True := by decide +kernel
theorem jt_130_7 : mm_jmp 130 7 = 137 := by decide +kernel
theorem jp_130_7 : (0 ≤ ((130 : Nat) : Int) + 7) = True := by decide +kernel
theorem jt_130_170 : mm_jmp 130 170 = 300 := by decide +kernel
theorem jp_130_170 : (0 ≤ ((130 : Nat) : Int) + 170) = True := by decide +kernel
theorem jt_133_15 : mm_jmp 133 15 = 148 := by decide +kernel
theorem jp_133_15 : (0 ≤ ((133 : Nat) : Int) + 15) = True := by decide +kernel
theorem jt_133_29 : mm_jmp 133 29 = 162 := by decide +kernel
theorem jp_133_29 : (0 ≤ ((133 : Nat) : Int) + 29) = True := by decide +kernel
theorem jt_134_7 : mm_jmp 134 7 = 141 := by decide +kernel
theorem jp_134_7 : (0 ≤ ((134 : Nat) : Int) + 7) = True := by decide +kernel
theorem jt_134_94 : mm_jmp 134 94 = 228 := by decide +kernel
theorem jp_134_94 : (0 ≤ ((134 : Nat) : Int) + 94) = True := by decide +kernel
theorem jt_135_13 : mm_jmp 135 13 = 148 := by decide +kernel
theorem jp_135_13 : (0 ≤ ((135 : Nat) : Int) + 13) = True := by decide +kernel
theorem jt_135_27 : mm_jmp 135 27 = 162 := by decide +kernel
theorem jp_135_27 : (0 ≤ ((135 : Nat) : Int) + 27) = True := by decide +kernel
theorem jt_136_m84 : mm_jmp 136 (-84) = 52 := by decide +kernel
theorem jp_136_m84 : (0 ≤ ((136 : Nat) : Int) + (-84)) = True := by decide +kernel
theorem jt_136_12 : mm_jmp 136 12 = 148 := by decide +kernel
theorem jp_136_12 : (0 ≤ ((136 : Nat) : Int) + 12) = True := by decide +kernel
theorem jt_136_16 : mm_jmp 136 16 = 152 := by decide +kernel
theorem jp_136_16 : (0 ≤ ((136 : Nat) : Int) + 16) = True := by decide +kernel
theorem jt_137_14 : mm_jmp 137 14 = 151 := by decide +kernel
theorem jp_137_14 : (0 ≤ ((137 : Nat) : Int) + 14) = True := by decide +kernel
theorem jt_137_149 : mm_jmp 137 149 = 286 := by decide +kernel
theorem jp_137_149 : (0 ≤ ((137 : Nat) : Int) + 149) = True := by decide +kernel
theorem jt_138_4 : mm_jmp 138 4 = 142 := by decide +kernel
theorem jp_138_4 : (0 ≤ ((138 : Nat) : Int) + 4) = True := by decide +kernel
theorem jt_138_12 : mm_jmp 138 12 = 150 := by decide +kernel
theorem jp_138_12 : (0 ≤ ((138 : Nat) : Int) + 12) = True := by decide +kernel
theorem jt_138_13 : mm_jmp 138 13 = 151 := by decide +kernel
theorem jp_138_13 : (0 ≤ ((138 : Nat) : Int) + 13) = True := by decide +kernel
theorem jt_140_9 : mm_jmp 140 9 = 149 := by decide +kernel
theorem jp_140_9 : (0 ≤ ((140 : Nat) : Int) + 9) = True := by decide +kernel
theorem jt_140_37 : mm_jmp 140 37 = 177 := by decide +kernel
theorem jp_140_37 : (0 ≤ ((140 : Nat) : Int) + 37) = True := by decide +kernel
theorem jt_140_338 : mm_jmp 140 338 = 478 := by decide +kernel
theorem jp_140_338 : (0 ≤ ((140 : Nat) : Int) + 338) = True := by decide +kernel
theorem jt_141_7 : mm_jmp 141 7 = 148 := by decide +kernel
theorem jp_141_7 : (0 ≤ ((141 : Nat) : Int) + 7) = True := by decide +kernel
theorem jt_141_13 : mm_jmp 141 13 = 154 := by decide +kernel
theorem jp_141_13 : (0 ≤ ((141 : Nat) : Int) + 13) = True := by decide +kernel
theorem jt_141_22 : mm_jmp 141 22 = 163 := by decide +kernel
theorem jp_141_22 : (0 ≤ ((141 : Nat) : Int) + 22) = True := by decide +kernel
theorem jt_143_12 : mm_jmp 143 12 = 155 := by decide +kernel
theorem jp_143_12 : (0 ≤ ((143 : Nat) : Int) + 12) = True := by decide +kernel
theorem jt_143_85 : mm_jmp 143 85 = 228 := by decide +kernel
theorem jp_143_85 : (0 ≤ ((143 : Nat) : Int) + 85) = True := by decide +kernel
theorem jt_144_7 : mm_jmp 144 7 = 151 := by decide +kernel
theorem jp_144_7 : (0 ≤ ((144 : Nat) : Int) + 7) = True := by decide +kernel
theorem jt_144_16 : mm_jmp 144 16 = 160 := by decide +kernel
theorem jp_144_16 : (0 ≤ ((144 : Nat) : Int) + 16) = True := by decide +kernel
theorem jt_145_4 : mm_jmp 145 4 = 149 := by decide +kernel
theorem jp_145_4 : (0 ≤ ((145 : Nat) : Int) + 4) = True := by decide +kernel
theorem jt_145_9 : mm_jmp 145 9 = 154 := by decide +kernel
theorem jp_145_9 : (0 ≤ ((145 : Nat) : Int) + 9) = True := by decide +kernel
theorem jt_145_17 : mm_jmp 145 17 = 162 := by decide +kernel
theorem jp_145_17 : (0 ≤ ((145 : Nat) : Int) + 17) = True := by decide +kernel
theorem jt_146_5 : mm_jmp 146 5 = 151 := by decide +kernel
theorem jp_146_5 : (0 ≤ ((146 : Nat) : Int) + 5) = True := by decide +kernel
theorem jt_148_4 : mm_jmp 148 4 = 152 := by decide +kernel
theorem jp_148_4 : (0 ≤ ((148 : Nat) : Int) + 4) = True := by decide +kernel
theorem jt_148_11 : mm_jmp 148 11 = 159 := by decide +kernel
theorem jp_148_11 : (0 ≤ ((148 : Nat) : Int) + 11) = True := by decide +kernel
theorem jt_149_5 : mm_jmp 149 5 = 154 := by decide +kernel
theorem jp_149_5 : (0 ≤ ((149 : Nat) : Int) + 5) = True := by decide +kernel
theorem jt_149_151 : mm_jmp 149 151 = 300 := by decide +kernel
theorem jp_149_151 : (0 ≤ ((149 : Nat) : Int) + 151) = True := by decide +kernel
theorem jt_150_6 : mm_jmp 150 6 = 156 := by decide +kernel
theorem jp_150_6 : (0 ≤ ((150 : Nat) : Int) + 6) = True := by decide +kernel
theorem jt_152_134 : mm_jmp 152 134 = 286 := by decide +kernel
theorem jp_152_134 : (0 ≤ ((152 : Nat) : Int) + 134) = True := by decide +kernel
theorem jt_154_7 : mm_jmp 154 7 = 161 := by decide +kernel
theorem jp_154_7 : (0 ≤ ((154 : Nat) : Int) + 7) = True := by decide +kernel
theorem jt_154_9 : mm_jmp 154 9 = 163 := by decide +kernel
theorem jp_154_9 : (0 ≤ ((154 : Nat) : Int) + 9) = True := by decide +kernel
theorem jt_154_29 : mm_jmp 154 29 = 183 := by decide +kernel
theorem jp_154_29 : (0 ≤ ((154 : Nat) : Int) + 29) = True := by decide +kernel
theorem jt_154_30 : mm_jmp 154 30 = 184 := by decide +kernel
theorem jp_154_30 : (0 ≤ ((154 : Nat) : Int) + 30) = True := by decide +kernel
theorem jt_154_48 : mm_jmp 154 48 = 202 := by decide +kernel
theorem jp_154_48 : (0 ≤ ((154 : Nat) : Int) + 48) = True := by decide +kernel
theorem jt_155_7 : mm_jmp 155 7 = 162 := by decide +kernel
theorem jp_155_7 : (0 ≤ ((155 : Nat) : Int) + 7) = True := by decide +kernel
theorem jt_157_4 : mm_jmp 157 4 = 161 := by decide +kernel
theorem jp_157_4 : (0 ≤ ((157 : Nat) : Int) + 4) = True := by decide +kernel
theorem jt_157_11 : mm_jmp 157 11 = 168 := by decide +kernel
theorem jp_157_11 : (0 ≤ ((157 : Nat) : Int) + 11) = True := by decide +kernel
theorem jt_158_4 : mm_jmp 158 4 = 162 := by decide +kernel
theorem jp_158_4 : (0 ≤ ((158 : Nat) : Int) + 4) = True := by decide +kernel
theorem jt_158_12 : mm_jmp 158 12 = 170 := by decide +kernel
theorem jp_158_12 : (0 ≤ ((158 : Nat) : Int) + 12) = True := by decide +kernel
theorem jt_158_41 : mm_jmp 158 41 = 199 := by decide +kernel
theorem jp_158_41 : (0 ≤ ((158 : Nat) : Int) + 41) = True := by decide +kernel
theorem jt_159_4 : mm_jmp 159 4 = 163 := by decide +kernel
theorem jp_159_4 : (0 ≤ ((159 : Nat) : Int) + 4) = True := by decide +kernel
theorem jt_159_10 : mm_jmp 159 10 = 169 := by decide +kernel
theorem jp_159_10 : (0 ≤ ((159 : Nat) : Int) + 10) = True := by decide +kernel
theorem jt_160_15 : mm_jmp 160 15 = 175 := by decide +kernel
theorem jp_160_15 : (0 ≤ ((160 : Nat) : Int) + 15) = True := by decide +kernel
theorem jt_160_18 : mm_jmp 160 18 = 178 := by decide +kernel
theorem jp_160_18 : (0 ≤ ((160 : Nat) : Int) + 18) = True := by decide +kernel
theorem jt_160_24 : mm_jmp 160 24 = 184 := by decide +kernel
theorem jp_160_24 : (0 ≤ ((160 : Nat) : Int) + 24) = True := by decide +kernel
theorem jt_161_139 : mm_jmp 161 139 = 300 := by decide +kernel
theorem jp_161_139 : (0 ≤ ((161 : Nat) : Int) + 139) = True := by decide +kernel
theorem jt_164_35 : mm_jmp 164 35 = 199 := by decide +kernel
theorem jp_164_35 : (0 ≤ ((164 : Nat) : Int) + 35) = True := by decide +kernel
theorem jt_167_7 : mm_jmp 167 7 = 174 := by decide +kernel
theorem jp_167_7 : (0 ≤ ((167 : Nat) : Int) + 7) = True := by decide +kernel
theorem jt_167_119 : mm_jmp 167 119 = 286 := by decide +kernel
theorem jp_167_119 : (0 ≤ ((167 : Nat) : Int) + 119) = True := by decide +kernel
theorem jt_168_4 : mm_jmp 168 4 = 172 := by decide +kernel
theorem jp_168_4 : (0 ≤ ((168 : Nat) : Int) + 4) = True := by decide +kernel
theorem jt_168_8 : mm_jmp 168 8 = 176 := by decide +kernel
theorem jp_168_8 : (0 ≤ ((168 : Nat) : Int) + 8) = True := by decide +kernel
theorem jt_168_16 : mm_jmp 168 16 = 184 := by decide +kernel
theorem jp_168_16 : (0 ≤ ((168 : Nat) : Int) + 16) = True := by decide +kernel
theorem jt_169_11 : mm_jmp 169 11 = 180 := by decide +kernel
theorem jp_169_11 : (0 ≤ ((169 : Nat) : Int) + 11) = True := by decide +kernel
theorem jt_170_17 : mm_jmp 170 17 = 187 := by decide +kernel
theorem jp_170_17 : (0 ≤ ((170 : Nat) : Int) + 17) = True := by decide +kernel
theorem jt_171_4 : mm_jmp 171 4 = 175 := by decide +kernel
theorem jp_171_4 : (0 ≤ ((171 : Nat) : Int) + 4) = True := by decide +kernel
theorem jt_171_12 : mm_jmp 171 12 = 183 := by decide +kernel
theorem jp_171_12 : (0 ≤ ((171 : Nat) : Int) + 12) = True := by decide +kernel
theorem jt_171_31 : mm_jmp 171 31 = 202 := by decide +kernel
theorem jp_171_31 : (0 ≤ ((171 : Nat) : Int) + 31) = True := by decide +kernel
theorem jt_172_12 : mm_jmp 172 12 = 184 := by decide +kernel
theorem jp_172_12 : (0 ≤ ((172 : Nat) : Int) + 12) = True := by decide +kernel
theorem jt_172_28 : mm_jmp 172 28 = 200 := by decide +kernel
theorem jp_172_28 : (0 ≤ ((172 : Nat) : Int) + 28) = True := by decide +kernel
theorem jt_173_5 : mm_jmp 173 5 = 178 := by decide +kernel
theorem jp_173_5 : (0 ≤ ((173 : Nat) : Int) + 5) = True := by decide +kernel
theorem jt_173_12 : mm_jmp 173 12 = 185 := by decide +kernel
theorem jp_173_12 : (0 ≤ ((173 : Nat) : Int) + 12) = True := by decide +kernel
theorem jt_174_32 : mm_jmp 174 32 = 206 := by decide +kernel
theorem jp_174_32 : (0 ≤ ((174 : Nat) : Int) + 32) = True := by decide +kernel
theorem jt_174_126 : mm_jmp 174 126 = 300 := by decide +kernel
theorem jp_174_126 : (0 ≤ ((174 : Nat) : Int) + 126) = True := by decide +kernel
theorem jt_177_7 : mm_jmp 177 7 = 184 := by decide +kernel
theorem jp_177_7 : (0 ≤ ((177 : Nat) : Int) + 7) = True := by decide +kernel
theorem jt_177_22 : mm_jmp 177 22 = 199 := by decide +kernel
theorem jp_177_22 : (0 ≤ ((177 : Nat) : Int) + 22) = True := by decide +kernel
theorem jt_179_8 : mm_jmp 179 8 = 187 := by decide +kernel
theorem jp_179_8 : (0 ≤ ((179 : Nat) : Int) + 8) = True := by decide +kernel
theorem jt_179_27 : mm_jmp 179 27 = 206 := by decide +kernel
theorem jp_179_27 : (0 ≤ ((179 : Nat) : Int) + 27) = True := by decide +kernel
theorem jt_181_4 : mm_jmp 181 4 = 185 := by decide +kernel
theorem jp_181_4 : (0 ≤ ((181 : Nat) : Int) + 4) = True := by decide +kernel
theorem jt_181_41 : mm_jmp 181 41 = 222 := by decide +kernel
theorem jp_181_41 : (0 ≤ ((181 : Nat) : Int) + 41) = True := by decide +kernel
theorem jt_182_104 : mm_jmp 182 104 = 286 := by decide +kernel
theorem jp_182_104 : (0 ≤ ((182 : Nat) : Int) + 104) = True := by decide +kernel
theorem jt_183_8 : mm_jmp 183 8 = 191 := by decide +kernel
theorem jp_183_8 : (0 ≤ ((183 : Nat) : Int) + 8) = True := by decide +kernel
theorem jt_183_11 : mm_jmp 183 11 = 194 := by decide +kernel
theorem jp_183_11 : (0 ≤ ((183 : Nat) : Int) + 11) = True := by decide +kernel
theorem jt_183_12 : mm_jmp 183 12 = 195 := by decide +kernel
theorem jp_183_12 : (0 ≤ ((183 : Nat) : Int) + 12) = True := by decide +kernel
theorem jt_184_4 : mm_jmp 184 4 = 188 := by decide +kernel
theorem jp_184_4 : (0 ≤ ((184 : Nat) : Int) + 4) = True := by decide +kernel
theorem jt_184_10 : mm_jmp 184 10 = 194 := by decide +kernel
theorem jp_184_10 : (0 ≤ ((184 : Nat) : Int) + 10) = True := by decide +kernel
theorem jt_184_98 : mm_jmp 184 98 = 282 := by decide +kernel
theorem jp_184_98 : (0 ≤ ((184 : Nat) : Int) + 98) = True := by decide +kernel
theorem jt_186_24 : mm_jmp 186 24 = 210 := by decide +kernel
theorem jp_186_24 : (0 ≤ ((186 : Nat) : Int) + 24) = True := by decide +kernel
theorem jt_186_29 : mm_jmp 186 29 = 215 := by decide +kernel
theorem jp_186_29 : (0 ≤ ((186 : Nat) : Int) + 29) = True := by decide +kernel
theorem jt_188_5 : mm_jmp 188 5 = 193 := by decide +kernel
theorem jp_188_5 : (0 ≤ ((188 : Nat) : Int) + 5) = True := by decide +kernel
theorem jt_188_12 : mm_jmp 188 12 = 200 := by decide +kernel
theorem jp_188_12 : (0 ≤ ((188 : Nat) : Int) + 12) = True := by decide +kernel
theorem jt_191_8 : mm_jmp 191 8 = 199 := by decide +kernel
theorem jp_191_8 : (0 ≤ ((191 : Nat) : Int) + 8) = True := by decide +kernel
theorem jt_192_7 : mm_jmp 192 7 = 199 := by decide +kernel
theorem jp_192_7 : (0 ≤ ((192 : Nat) : Int) + 7) = True := by decide +kernel
theorem jt_196_4 : mm_jmp 196 4 = 200 := by decide +kernel
theorem jp_196_4 : (0 ≤ ((196 : Nat) : Int) + 4) = True := by decide +kernel
theorem jt_197_15 : mm_jmp 197 15 = 212 := by decide +kernel
theorem jp_197_15 : (0 ≤ ((197 : Nat) : Int) + 15) = True := by decide +kernel
theorem jt_197_25 : mm_jmp 197 25 = 222 := by decide +kernel
theorem jp_197_25 : (0 ≤ ((197 : Nat) : Int) + 25) = True := by decide +kernel
theorem jt_197_89 : mm_jmp 197 89 = 286 := by decide +kernel
theorem jp_197_89 : (0 ≤ ((197 : Nat) : Int) + 89) = True := by decide +kernel
theorem jt_198_15 : mm_jmp 198 15 = 213 := by decide +kernel
theorem jp_198_15 : (0 ≤ ((198 : Nat) : Int) + 15) = True := by decide +kernel
theorem jt_199_25 : mm_jmp 199 25 = 224 := by decide +kernel
theorem jp_199_25 : (0 ≤ ((199 : Nat) : Int) + 25) = True := by decide +kernel
theorem jt_201_8 : mm_jmp 201 8 = 209 := by decide +kernel
theorem jp_201_8 : (0 ≤ ((201 : Nat) : Int) + 8) = True := by decide +kernel
theorem jt_202_4 : mm_jmp 202 4 = 206 := by decide +kernel
theorem jp_202_4 : (0 ≤ ((202 : Nat) : Int) + 4) = True := by decide +kernel
theorem jt_203_7 : mm_jmp 203 7 = 210 := by decide +kernel
theorem jp_203_7 : (0 ≤ ((203 : Nat) : Int) + 7) = True := by decide +kernel
theorem jt_203_275 : mm_jmp 203 275 = 478 := by decide +kernel
theorem jp_203_275 : (0 ≤ ((203 : Nat) : Int) + 275) = True := by decide +kernel
theorem jt_204_12 : mm_jmp 204 12 = 216 := by decide +kernel
theorem jp_204_12 : (0 ≤ ((204 : Nat) : Int) + 12) = True := by decide +kernel
theorem jt_205_7 : mm_jmp 205 7 = 212 := by decide +kernel
theorem jp_205_7 : (0 ≤ ((205 : Nat) : Int) + 7) = True := by decide +kernel
theorem jt_205_10 : mm_jmp 205 10 = 215 := by decide +kernel
theorem jp_205_10 : (0 ≤ ((205 : Nat) : Int) + 10) = True := by decide +kernel
theorem jt_206_5 : mm_jmp 206 5 = 211 := by decide +kernel
theorem jp_206_5 : (0 ≤ ((206 : Nat) : Int) + 5) = True := by decide +kernel
theorem jt_206_8 : mm_jmp 206 8 = 214 := by decide +kernel
theorem jp_206_8 : (0 ≤ ((206 : Nat) : Int) + 8) = True := by decide +kernel
theorem jt_207_4 : mm_jmp 207 4 = 211 := by decide +kernel
theorem jp_207_4 : (0 ≤ ((207 : Nat) : Int) + 4) = True := by decide +kernel
theorem jt_208_7 : mm_jmp 208 7 = 215 := by decide +kernel
theorem jp_208_7 : (0 ≤ ((208 : Nat) : Int) + 7) = True := by decide +kernel
theorem jt_208_32 : mm_jmp 208 32 = 240 := by decide +kernel
theorem jp_208_32 : (0 ≤ ((208 : Nat) : Int) + 32) = True := by decide +kernel
theorem jt_209_4 : mm_jmp 209 4 = 213 := by decide +kernel
theorem jp_209_4 : (0 ≤ ((209 : Nat) : Int) + 4) = True := by decide +kernel
theorem jt_211_4 : mm_jmp 211 4 = 215 := by decide +kernel
theorem jp_211_4 : (0 ≤ ((211 : Nat) : Int) + 4) = True := by decide +kernel
theorem jt_212_5 : mm_jmp 212 5 = 217 := by decide +kernel
theorem jp_212_5 : (0 ≤ ((212 : Nat) : Int) + 5) = True := by decide +kernel
theorem jt_213_9 : mm_jmp 213 9 = 222 := by decide +kernel
theorem jp_213_9 : (0 ≤ ((213 : Nat) : Int) + 9) = True := by decide +kernel
theorem jt_213_27 : mm_jmp 213 27 = 240 := by decide +kernel
theorem jp_213_27 : (0 ≤ ((213 : Nat) : Int) + 27) = True := by decide +kernel
theorem jt_215_26 : mm_jmp 215 26 = 241 := by decide +kernel
theorem jp_215_26 : (0 ≤ ((215 : Nat) : Int) + 26) = True := by decide +kernel
theorem jt_216_15 : mm_jmp 216 15 = 231 := by decide +kernel
theorem jp_216_15 : (0 ≤ ((216 : Nat) : Int) + 15) = True := by decide +kernel
theorem jt_217_12 : mm_jmp 217 12 = 229 := by decide +kernel
theorem jp_217_12 : (0 ≤ ((217 : Nat) : Int) + 12) = True := by decide +kernel
theorem jt_225_m103 : mm_jmp 225 (-103) = 122 := by decide +kernel
theorem jp_225_m103 : (0 ≤ ((225 : Nat) : Int) + (-103)) = True := by decide +kernel
theorem jt_226_5 : mm_jmp 226 5 = 231 := by decide +kernel
theorem jp_226_5 : (0 ≤ ((226 : Nat) : Int) + 5) = True := by decide +kernel
theorem jt_228_58 : mm_jmp 228 58 = 286 := by decide +kernel
theorem jp_228_58 : (0 ≤ ((228 : Nat) : Int) + 58) = True := by decide +kernel
theorem jt_233_7 : mm_jmp 233 7 = 240 := by decide +kernel
theorem jp_233_7 : (0 ≤ ((233 : Nat) : Int) + 7) = True := by decide +kernel
theorem jt_233_43 : mm_jmp 233 43 = 276 := by decide +kernel
theorem jp_233_43 : (0 ≤ ((233 : Nat) : Int) + 43) = True := by decide +kernel
theorem jt_234_7 : mm_jmp 234 7 = 241 := by decide +kernel
theorem jp_234_7 : (0 ≤ ((234 : Nat) : Int) + 7) = True := by decide +kernel
theorem jt_234_10 : mm_jmp 234 10 = 244 := by decide +kernel
theorem jp_234_10 : (0 ≤ ((234 : Nat) : Int) + 10) = True := by decide +kernel
theorem jt_236_4 : mm_jmp 236 4 = 240 := by decide +kernel
theorem jp_236_4 : (0 ≤ ((236 : Nat) : Int) + 4) = True := by decide +kernel
theorem jt_237_11 : mm_jmp 237 11 = 248 := by decide +kernel
theorem jp_237_11 : (0 ≤ ((237 : Nat) : Int) + 11) = True := by decide +kernel
theorem jt_237_21 : mm_jmp 237 21 = 258 := by decide +kernel
theorem jp_237_21 : (0 ≤ ((237 : Nat) : Int) + 21) = True := by decide +kernel
theorem jt_237_59 : mm_jmp 237 59 = 296 := by decide +kernel
theorem jp_237_59 : (0 ≤ ((237 : Nat) : Int) + 59) = True := by decide +kernel
theorem jt_238_4 : mm_jmp 238 4 = 242 := by decide +kernel
theorem jp_238_4 : (0 ≤ ((238 : Nat) : Int) + 4) = True := by decide +kernel
theorem jt_241_7 : mm_jmp 241 7 = 248 := by decide +kernel
theorem jp_241_7 : (0 ≤ ((241 : Nat) : Int) + 7) = True := by decide +kernel
theorem jt_242_13 : mm_jmp 242 13 = 255 := by decide +kernel
theorem jp_242_13 : (0 ≤ ((242 : Nat) : Int) + 13) = True := by decide +kernel
theorem jt_245_5 : mm_jmp 245 5 = 250 := by decide +kernel
theorem jp_245_5 : (0 ≤ ((245 : Nat) : Int) + 5) = True := by decide +kernel
theorem jt_246_8 : mm_jmp 246 8 = 254 := by decide +kernel
theorem jp_246_8 : (0 ≤ ((246 : Nat) : Int) + 8) = True := by decide +kernel
theorem jt_246_232 : mm_jmp 246 232 = 478 := by decide +kernel
theorem jp_246_232 : (0 ≤ ((246 : Nat) : Int) + 232) = True := by decide +kernel
theorem jt_250_20 : mm_jmp 250 20 = 270 := by decide +kernel
theorem jp_250_20 : (0 ≤ ((250 : Nat) : Int) + 20) = True := by decide +kernel
theorem jt_251_27 : mm_jmp 251 27 = 278 := by decide +kernel
theorem jp_251_27 : (0 ≤ ((251 : Nat) : Int) + 27) = True := by decide +kernel
theorem jt_252_44 : mm_jmp 252 44 = 296 := by decide +kernel
theorem jp_252_44 : (0 ≤ ((252 : Nat) : Int) + 44) = True := by decide +kernel
theorem jt_253_23 : mm_jmp 253 23 = 276 := by decide +kernel
theorem jp_253_23 : (0 ≤ ((253 : Nat) : Int) + 23) = True := by decide +kernel
theorem jt_255_5 : mm_jmp 255 5 = 260 := by decide +kernel
theorem jp_255_5 : (0 ≤ ((255 : Nat) : Int) + 5) = True := by decide +kernel
theorem jt_258_14 : mm_jmp 258 14 = 272 := by decide +kernel
theorem jp_258_14 : (0 ≤ ((258 : Nat) : Int) + 14) = True := by decide +kernel
theorem jt_259_219 : mm_jmp 259 219 = 478 := by decide +kernel
theorem jp_259_219 : (0 ≤ ((259 : Nat) : Int) + 219) = True := by decide +kernel
theorem jt_267_16 : mm_jmp 267 16 = 283 := by decide +kernel
theorem jp_267_16 : (0 ≤ ((267 : Nat) : Int) + 16) = True := by decide +kernel
theorem jt_268_10 : mm_jmp 268 10 = 278 := by decide +kernel
theorem jp_268_10 : (0 ≤ ((268 : Nat) : Int) + 10) = True := by decide +kernel
theorem jt_269_27 : mm_jmp 269 27 = 296 := by decide +kernel
theorem jp_269_27 : (0 ≤ ((269 : Nat) : Int) + 27) = True := by decide +kernel
theorem jt_273_7 : mm_jmp 273 7 = 280 := by decide +kernel
theorem jp_273_7 : (0 ≤ ((273 : Nat) : Int) + 7) = True := by decide +kernel
theorem jt_275_14 : mm_jmp 275 14 = 289 := by decide +kernel
theorem jp_275_14 : (0 ≤ ((275 : Nat) : Int) + 14) = True := by decide +kernel
theorem jt_277_4 : mm_jmp 277 4 = 281 := by decide +kernel
theorem jp_277_4 : (0 ≤ ((277 : Nat) : Int) + 4) = True := by decide +kernel
theorem jt_279_21 : mm_jmp 279 21 = 300 := by decide +kernel
theorem jp_279_21 : (0 ≤ ((279 : Nat) : Int) + 21) = True := by decide +kernel
theorem jt_281_39 : mm_jmp 281 39 = 320 := by decide +kernel
theorem jp_281_39 : (0 ≤ ((281 : Nat) : Int) + 39) = True := by decide +kernel
theorem jt_282_196 : mm_jmp 282 196 = 478 := by decide +kernel
theorem jp_282_196 : (0 ≤ ((282 : Nat) : Int) + 196) = True := by decide +kernel
theorem jt_285_25 : mm_jmp 285 25 = 310 := by decide +kernel
theorem jp_285_25 : (0 ≤ ((285 : Nat) : Int) + 25) = True := by decide +kernel
theorem jt_286_8 : mm_jmp 286 8 = 294 := by decide +kernel
theorem jp_286_8 : (0 ≤ ((286 : Nat) : Int) + 8) = True := by decide +kernel
theorem jt_286_10 : mm_jmp 286 10 = 296 := by decide +kernel
theorem jp_286_10 : (0 ≤ ((286 : Nat) : Int) + 10) = True := by decide +kernel
theorem jt_291_29 : mm_jmp 291 29 = 320 := by decide +kernel
theorem jp_291_29 : (0 ≤ ((291 : Nat) : Int) + 29) = True := by decide +kernel
theorem jt_294_10 : mm_jmp 294 10 = 304 := by decide +kernel
theorem jp_294_10 : (0 ≤ ((294 : Nat) : Int) + 10) = True := by decide +kernel
theorem jt_301_4 : mm_jmp 301 4 = 305 := by decide +kernel
theorem jp_301_4 : (0 ≤ ((301 : Nat) : Int) + 4) = True := by decide +kernel
theorem jt_302_5 : mm_jmp 302 5 = 307 := by decide +kernel
theorem jp_302_5 : (0 ≤ ((302 : Nat) : Int) + 5) = True := by decide +kernel
theorem jt_308_12 : mm_jmp 308 12 = 320 := by decide +kernel
theorem jp_308_12 : (0 ≤ ((308 : Nat) : Int) + 12) = True := by decide +kernel
theorem jt_316_162 : mm_jmp 316 162 = 478 := by decide +kernel
theorem jp_316_162 : (0 ≤ ((316 : Nat) : Int) + 162) = True := by decide +kernel
theorem jt_317_4 : mm_jmp 317 4 = 321 := by decide +kernel
theorem jp_317_4 : (0 ≤ ((317 : Nat) : Int) + 4) = True := by decide +kernel
theorem jt_317_25 : mm_jmp 317 25 = 342 := by decide +kernel
theorem jp_317_25 : (0 ≤ ((317 : Nat) : Int) + 25) = True := by decide +kernel
theorem jt_339_m26 : mm_jmp 339 (-26) = 313 := by decide +kernel
theorem jp_339_m26 : (0 ≤ ((339 : Nat) : Int) + (-26)) = True := by decide +kernel
theorem jt_349_129 : mm_jmp 349 129 = 478 := by decide +kernel
theorem jp_349_129 : (0 ≤ ((349 : Nat) : Int) + 129) = True := by decide +kernel
theorem jt_383_95 : mm_jmp 383 95 = 478 := by decide +kernel
theorem jp_383_95 : (0 ≤ ((383 : Nat) : Int) + 95) = True := by decide +kernel
theorem jt_406_72 : mm_jmp 406 72 = 478 := by decide +kernel
theorem jp_406_72 : (0 ≤ ((406 : Nat) : Int) + 72) = True := by decide +kernel
theorem jt_450_28 : mm_jmp 450 28 = 478 := by decide +kernel
theorem jp_450_28 : (0 ≤ ((450 : Nat) : Int) + 28) = True := by decide +kernel
theorem jt_473_5 : mm_jmp 473 5 = 478 := by decide +kernel
theorem jp_473_5 : (0 ≤ ((473 : Nat) : Int) + 5) = True := by decide +kernel
theorem jt_481_m463 : mm_jmp 481 (-463) = 18 := by decide +kernel
theorem jp_481_m463 : (0 ≤ ((481 : Nat) : Int) + (-463)) = True := by decide +kernel
