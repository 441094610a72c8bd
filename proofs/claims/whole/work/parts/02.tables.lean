/-! tables: names, fields, pools, methods. Printed by a program of mine out of the listing. -/
def mm_own (o : Nat) : String := match o with
  | 0 => "StagedCompiler"
  | 1 => "StagedCompiler$Program"
  | 2 => "StagedCompiler$Compilation"
  | 3 => "StagedCompiler$Instance"
  | 4 => "StagedCompiler$Machine"
  | 5 => "StagedCompilerModel"
  | 6 => "StagedCompiler$Kind"
  | 7 => "StagedCompiler$Types"
  | 8 => "StagedCompiler$Arithmetic"
  | _ => "StagedCompilerLaw"
def mm_nm (ci : Nat) : String := mm_own ci
def mm_tb0 : u_T := fun k => match k with
  | 0 => ("StagedCompiler", "program", "LStagedCompiler$Program;", true)
  | 1 => ("StagedCompiler", "compilation", "LStagedCompiler$Compilation;", true)
  | _ => ("StagedCompiler", "machine", "LStagedCompiler$Machine;", true)
def mm_ty0 : Nat → FieldType := fun k => match k with
  | 0 => .object "StagedCompiler$Program"
  | 1 => .object "StagedCompiler$Compilation"
  | _ => .object "StagedCompiler$Machine"
def mm_tb1 : u_T := fun k => match k with
  | 0 => ("StagedCompiler$Program", "kinds", "[I", true)
  | 1 => ("StagedCompiler$Program", "as", "[I", true)
  | 2 => ("StagedCompiler$Program", "bs", "[I", true)
  | 3 => ("StagedCompiler$Program", "cs", "[I", true)
  | 4 => ("StagedCompiler$Program", "levels", "[I", true)
  | 5 => ("StagedCompiler$Program", "isDefined", "[Z", true)
  | 6 => ("StagedCompiler$Program", "firsts", "[I", true)
  | 7 => ("StagedCompiler$Program", "seconds", "[I", true)
  | 8 => ("StagedCompiler$Program", "results", "[I", true)
  | 9 => ("StagedCompiler$Program", "bodies", "[I", true)
  | 10 => ("StagedCompiler$Program", "nodeCount", "I", false)
  | _ => ("StagedCompiler$Program", "functionCount", "I", false)
def mm_ty1 : Nat → FieldType := fun k => match k with
  | 0 => .array .int
  | 1 => .array .int
  | 2 => .array .int
  | 3 => .array .int
  | 4 => .array .int
  | 5 => .array .boolean
  | 6 => .array .int
  | 7 => .array .int
  | 8 => .array .int
  | 9 => .array .int
  | 10 => .int
  | _ => .int
def mm_tb2 : u_T := fun k => match k with
  | 0 => ("StagedCompiler$Compilation", "program", "LStagedCompiler$Program;", true)
  | 1 => ("StagedCompiler$Compilation", "instances", "[LStagedCompiler$Instance;", true)
  | 2 => ("StagedCompiler$Compilation", "instanceCount", "I", false)
  | 3 => ("StagedCompiler$Compilation", "error", "I", false)
  | _ => ("StagedCompiler$Compilation", "errorPlace", "I", false)
def mm_ty2 : Nat → FieldType := fun k => match k with
  | 0 => .object "StagedCompiler$Program"
  | 1 => .array (.object "StagedCompiler$Instance")
  | 2 => .int
  | 3 => .int
  | _ => .int
def mm_tb3 : u_T := fun k => match k with
  | 0 => ("StagedCompiler$Instance", "function", "I", false)
  | 1 => ("StagedCompiler$Instance", "resultType", "I", false)
  | 2 => ("StagedCompiler$Instance", "parameterTypes", "[I", true)
  | 3 => ("StagedCompiler$Instance", "counts", "[J", true)
  | 4 => ("StagedCompiler$Instance", "types", "[I", true)
  | 5 => ("StagedCompiler$Instance", "isKnown", "[Z", true)
  | 6 => ("StagedCompiler$Instance", "values", "[J", true)
  | _ => ("StagedCompiler$Instance", "callees", "[I", true)
def mm_ty3 : Nat → FieldType := fun k => match k with
  | 0 => .int
  | 1 => .int
  | 2 => .array .int
  | 3 => .array .long
  | 4 => .array .int
  | 5 => .array .boolean
  | 6 => .array .long
  | _ => .array .int
def mm_tb4 : u_T := fun k => match k with
  | 0 => ("StagedCompiler$Machine", "program", "LStagedCompiler$Program;", true)
  | 1 => ("StagedCompiler$Machine", "instances", "[LStagedCompiler$Instance;", true)
  | 2 => ("StagedCompiler$Machine", "nodesRun", "I", false)
  | _ => ("StagedCompiler$Machine", "callsMade", "I", false)
def mm_ty4 : Nat → FieldType := fun k => match k with
  | 0 => .object "StagedCompiler$Program"
  | 1 => .array (.object "StagedCompiler$Instance")
  | 2 => .int
  | _ => .int
def mm_tb5 : u_T := fun k => match k with
  | 0 => ("StagedCompilerModel", "nodes", "I", false)
  | 1 => ("StagedCompilerModel", "error", "I", false)
  | 2 => ("StagedCompilerModel", "errorPlace", "I", false)
  | 3 => ("StagedCompilerModel", "instances", "I", false)
  | 4 => ("StagedCompilerModel", "calls", "I", false)
  | 5 => ("StagedCompilerModel", "kind", "[I", true)
  | 6 => ("StagedCompilerModel", "opA", "[I", true)
  | 7 => ("StagedCompilerModel", "opB", "[I", true)
  | 8 => ("StagedCompilerModel", "opC", "[I", true)
  | 9 => ("StagedCompilerModel", "level", "[I", true)
  | 10 => ("StagedCompilerModel", "defined", "[Z", true)
  | 11 => ("StagedCompilerModel", "first", "[I", true)
  | 12 => ("StagedCompilerModel", "second", "[I", true)
  | 13 => ("StagedCompilerModel", "result", "[I", true)
  | 14 => ("StagedCompilerModel", "body", "[I", true)
  | 15 => ("StagedCompilerModel", "of", "[I", true)
  | 16 => ("StagedCompilerModel", "value0", "[I", true)
  | 17 => ("StagedCompilerModel", "value1", "[I", true)
  | 18 => ("StagedCompilerModel", "looked", "[Z", true)
  | 19 => ("StagedCompilerModel", "known", "[Z", true)
  | 20 => ("StagedCompilerModel", "type", "[I", true)
  | 21 => ("StagedCompilerModel", "target", "[I", true)
  | 22 => ("StagedCompilerModel", "value", "[J", true)
  | 23 => ("StagedCompilerModel", "inst", "[I", true)
  | 24 => ("StagedCompilerModel", "under", "[I", true)
  | 25 => ("StagedCompilerModel", "phase", "[I", true)
  | 26 => ("StagedCompilerModel", "argA", "[J", true)
  | 27 => ("StagedCompilerModel", "argB", "[J", true)
  | 28 => ("StagedCompilerModel", "partA", "[J", true)
  | 29 => ("StagedCompilerModel", "partB", "[J", true)
  | 30 => ("StagedCompilerModel", "deep", "I", false)
  | 31 => ("StagedCompilerModel", "frame", "I", false)
  | 32 => ("StagedCompilerModel", "ran", "I", false)
  | 33 => ("StagedCompilerModel", "ret", "J", false)
  | 34 => ("StagedCompilerModel", "trap", "J", false)
  | 35 => ("StagedCompilerModel", "large0", "[J", true)
  | _ => ("StagedCompilerModel", "large1", "[J", true)
def mm_ty5 : Nat → FieldType := fun k => match k with
  | 0 => .int
  | 1 => .int
  | 2 => .int
  | 3 => .int
  | 4 => .int
  | 5 => .array .int
  | 6 => .array .int
  | 7 => .array .int
  | 8 => .array .int
  | 9 => .array .int
  | 10 => .array .boolean
  | 11 => .array .int
  | 12 => .array .int
  | 13 => .array .int
  | 14 => .array .int
  | 15 => .array .int
  | 16 => .array .int
  | 17 => .array .int
  | 18 => .array .boolean
  | 19 => .array .boolean
  | 20 => .array .int
  | 21 => .array .int
  | 22 => .array .long
  | 23 => .array .int
  | 24 => .array .int
  | 25 => .array .int
  | 26 => .array .long
  | 27 => .array .long
  | 28 => .array .long
  | 29 => .array .long
  | 30 => .int
  | 31 => .int
  | 32 => .int
  | 33 => .long
  | 34 => .long
  | 35 => .array .long
  | _ => .array .long
def mm_cl : List vw_C := [(mm_own 0, mm_tb0, 3), (mm_own 1, mm_tb1, 12), (mm_own 2, mm_tb2, 5), (mm_own 3, mm_tb3, 8), (mm_own 4, mm_tb4, 4), (mm_own 5, mm_tb5, 37)]
def mm_N (ci : Nat) : Nat := match ci with
  | 0 => 3
  | 1 => 12
  | 2 => 5
  | 3 => 8
  | 4 => 4
  | _ => 37
def mm_ft (ci k : Nat) : FieldType := match ci with
  | 0 => mm_ty0 k
  | 1 => mm_ty1 k
  | 2 => mm_ty2 k
  | 3 => mm_ty3 k
  | 4 => mm_ty4 k
  | _ => mm_ty5 k
def mm_fin (ci k : Nat) : Bool := match ci with
  | 0 => (mm_tb0 k).2.2.2
  | 1 => (mm_tb1 k).2.2.2
  | 2 => (mm_tb2 k).2.2.2
  | 3 => (mm_tb3 k).2.2.2
  | 4 => (mm_tb4 k).2.2.2
  | _ => (mm_tb5 k).2.2.2
def mm_Y (f : Nat) : Nat ⊕ (FieldType × Nat) := match f with
  | 0 => .inl 0
  | 1 => .inl 1
  | 2 => .inr (.int, 60)
  | 3 => .inr (.int, 60)
  | 4 => .inr (.int, 60)
  | 5 => .inr (.int, 60)
  | 6 => .inr (.int, 60)
  | 7 => .inr (.boolean, 8)
  | 8 => .inr (.int, 8)
  | 9 => .inr (.int, 8)
  | 10 => .inr (.int, 8)
  | 11 => .inr (.int, 8)
  | 12 => .inl 2
  | 13 => .inr (.object "StagedCompiler$Instance", 20)
  | 14 => .inl 3
  | 15 => .inr (.int, 2)
  | 16 => .inr (.long, 2)
  | 17 => .inr (.int, 60)
  | 18 => .inr (.boolean, 60)
  | 19 => .inr (.long, 60)
  | 20 => .inr (.int, 60)
  | 21 => .inl 4
  | 30 => .inl 5
  | 31 => .inr (.int, 60)
  | 32 => .inr (.int, 60)
  | 33 => .inr (.int, 60)
  | 34 => .inr (.int, 60)
  | 35 => .inr (.int, 60)
  | 36 => .inr (.boolean, 8)
  | 37 => .inr (.int, 8)
  | 38 => .inr (.int, 8)
  | 39 => .inr (.int, 8)
  | 40 => .inr (.int, 8)
  | 41 => .inr (.int, 20)
  | 42 => .inr (.int, 20)
  | 43 => .inr (.int, 20)
  | 44 => .inr (.boolean, 1200)
  | 45 => .inr (.boolean, 1200)
  | 46 => .inr (.int, 1200)
  | 47 => .inr (.int, 1200)
  | 48 => .inr (.long, 1200)
  | 49 => .inr (.int, 7)
  | 50 => .inr (.int, 64)
  | 51 => .inr (.int, 64)
  | 52 => .inr (.long, 7)
  | 53 => .inr (.long, 7)
  | 54 => .inr (.long, 64)
  | 55 => .inr (.long, 64)
  | 56 => .inr (.long, 20)
  | 57 => .inr (.long, 20)
  | _ => .inr (.int, 0)
def mm_tyl : List FieldType := [.int, .boolean, .long, .object "StagedCompiler$Instance"]
def mm_tys (dA : FieldType → ClassId) : List (ClassId × FieldType) := mm_tyl.map fun ty => (dA ty, ty)
def mm_prt : List FieldType := [.int, .boolean, .long]
def mm_ao : List String := ["StagedCompiler$Instance"]
def mm_T : List Cond := lw_tbl.filter goodWord
theorem mm_Tgood : ∀ w ∈ mm_T, goodWord w = true := fun w h => (List.mem_filter.mp h).2
theorem mm_mem {w : Cond} (i : Nat) (h : tables_1[i]? = some w) (hg : goodWord w = true) : w ∈ mm_T := List.mem_filter.mpr ⟨List.mem_append_right _ (List.mem_of_getElem? h), hg⟩
theorem mm_memS {w : Cond} (h : w ∈ k2_sels lw_privs) (hg : goodWord w = true) : w ∈ mm_T := List.mem_filter.mpr ⟨List.mem_append_left _ h, hg⟩
def mm_nF : List (String × Nat × String × String × String × String) := [("StagedCompiler", 27, "StagedCompiler$Compilation", "instances", "[LStagedCompiler$Instance;", "StagedCompiler"), ("StagedCompiler", 54, "StagedCompiler$Compilation", "errorPlace", "I", "StagedCompiler"), ("StagedCompiler", 61, "StagedCompiler$Instance", "function", "I", "StagedCompiler"), ("StagedCompiler", 68, "StagedCompiler$Instance", "parameterTypes", "[I", "StagedCompiler"), ("StagedCompiler", 74, "StagedCompiler$Instance", "counts", "[J", "StagedCompiler"), ("StagedCompiler", 81, "StagedCompiler$Instance", "types", "[I", "StagedCompiler"), ("StagedCompiler", 84, "StagedCompiler$Instance", "isKnown", "[Z", "StagedCompiler"), ("StagedCompiler", 88, "StagedCompiler$Instance", "values", "[J", "StagedCompiler"), ("StagedCompiler", 103, "StagedCompiler$Program", "nodeCount", "I", "StagedCompiler"), ("StagedCompiler", 106, "StagedCompiler$Program", "functionCount", "I", "StagedCompiler"), ("StagedCompiler", 109, "StagedCompiler$Compilation", "instanceCount", "I", "StagedCompiler"), ("StagedCompiler", 112, "StagedCompiler$Machine", "callsMade", "I", "StagedCompiler"), ("StagedCompiler$Program", 99, "StagedCompiler$Instance", "isKnown", "[Z", "StagedCompiler"), ("StagedCompiler$Compilation", 40, "StagedCompiler$Program", "bodies", "[I", "StagedCompiler"), ("StagedCompiler$Compilation", 46, "StagedCompiler$Instance", "function", "I", "StagedCompiler"), ("StagedCompiler$Compilation", 53, "StagedCompiler$Instance", "resultType", "I", "StagedCompiler"), ("StagedCompiler$Compilation", 68, "StagedCompiler$Instance", "types", "[I", "StagedCompiler"), ("StagedCompiler$Compilation", 77, "StagedCompiler$Instance", "values", "[J", "StagedCompiler"), ("StagedCompiler$Compilation", 88, "StagedCompiler$Program", "kinds", "[I", "StagedCompiler"), ("StagedCompiler$Compilation", 91, "StagedCompiler$Program", "as", "[I", "StagedCompiler"), ("StagedCompiler$Compilation", 116, "StagedCompiler$Instance", "parameterTypes", "[I", "StagedCompiler"), ("StagedCompiler$Compilation", 119, "StagedCompiler$Instance", "counts", "[J", "StagedCompiler"), ("StagedCompiler$Compilation", 126, "StagedCompiler$Program", "bs", "[I", "StagedCompiler"), ("StagedCompiler$Compilation", 144, "StagedCompiler$Instance", "isKnown", "[Z", "StagedCompiler"), ("StagedCompiler$Compilation", 160, "StagedCompiler$Program", "cs", "[I", "StagedCompiler"), ("StagedCompiler$Compilation", 173, "StagedCompiler$Program", "firsts", "[I", "StagedCompiler"), ("StagedCompiler$Compilation", 179, "StagedCompiler$Program", "seconds", "[I", "StagedCompiler"), ("StagedCompiler$Compilation", 193, "StagedCompiler$Instance", "callees", "[I", "StagedCompiler"), ("StagedCompiler$Instance", 41, "StagedCompiler$Program", "firsts", "[I", "StagedCompiler"), ("StagedCompiler$Instance", 46, "StagedCompiler$Program", "seconds", "[I", "StagedCompiler"), ("StagedCompiler$Instance", 53, "StagedCompiler$Program", "results", "[I", "StagedCompiler"), ("StagedCompiler$Machine", 26, "StagedCompiler$Program", "bodies", "[I", "StagedCompiler"), ("StagedCompiler$Machine", 32, "StagedCompiler$Instance", "function", "I", "StagedCompiler"), ("StagedCompiler$Machine", 43, "StagedCompiler$Instance", "isKnown", "[Z", "StagedCompiler"), ("StagedCompiler$Machine", 47, "StagedCompiler$Instance", "values", "[J", "StagedCompiler"), ("StagedCompiler$Machine", 51, "StagedCompiler$Program", "kinds", "[I", "StagedCompiler"), ("StagedCompiler$Machine", 54, "StagedCompiler$Program", "as", "[I", "StagedCompiler"), ("StagedCompiler$Machine", 75, "StagedCompiler$Program", "bs", "[I", "StagedCompiler"), ("StagedCompiler$Machine", 78, "StagedCompiler$Instance", "types", "[I", "StagedCompiler"), ("StagedCompiler$Machine", 85, "StagedCompiler$Program", "cs", "[I", "StagedCompiler"), ("StagedCompiler$Machine", 94, "StagedCompiler$Instance", "callees", "[I", "StagedCompiler")]
def mm_nM : List (String × Nat × MethodName × String) := [("StagedCompiler", 9, ⟨"StagedCompiler$Program", "<init>", "()V"⟩, "StagedCompiler"), ("StagedCompiler", 12, ⟨"StagedCompiler$Compilation", "<init>", "(LStagedCompiler$Program;)V"⟩, "StagedCompiler"), ("StagedCompiler", 31, ⟨"StagedCompiler$Machine", "<init>", "(LStagedCompiler$Program;[LStagedCompiler$Instance;)V"⟩, "StagedCompiler"), ("StagedCompiler$Compilation", 21, ⟨"StagedCompiler$Instance", "<init>", "()V"⟩, "StagedCompiler"), ("StagedCompiler", 38, ⟨"StagedCompiler$Program", "addNode", "(IIII)I"⟩, "StagedCompiler"), ("StagedCompiler", 42, ⟨"StagedCompiler$Program", "addFunction", "(IIIII)I"⟩, "StagedCompiler"), ("StagedCompiler", 46, ⟨"StagedCompiler$Program", "hasFunction", "(I)Z"⟩, "StagedCompiler"), ("StagedCompiler", 50, ⟨"StagedCompiler$Compilation", "compileAll", "(IJJ)I"⟩, "StagedCompiler"), ("StagedCompiler", 58, ⟨"StagedCompiler$Compilation", "hasInstance", "(I)Z"⟩, "StagedCompiler"), ("StagedCompiler", 78, ⟨"StagedCompiler$Program", "hasNode", "(I)Z"⟩, "StagedCompiler"), ("StagedCompiler", 91, ⟨"StagedCompiler$Program", "nodesLeftToRun", "(LStagedCompiler$Instance;)I"⟩, "StagedCompiler"), ("StagedCompiler", 95, ⟨"StagedCompiler$Instance", "takes", "(IJ)Z"⟩, "StagedCompiler"), ("StagedCompiler", 99, ⟨"StagedCompiler$Machine", "runBody", "(LStagedCompiler$Instance;JJ)J"⟩, "StagedCompiler"), ("StagedCompiler$Program", 50, ⟨"StagedCompiler$Kind", "isOne", "(I)Z"⟩, "StagedCompiler"), ("StagedCompiler$Program", 67, ⟨"StagedCompiler$Types", "isCastCode", "(I)Z"⟩, "StagedCompiler"), ("StagedCompiler$Program", 85, ⟨"StagedCompiler$Types", "isParameterCode", "(I)Z"⟩, "StagedCompiler"), ("StagedCompiler$Program", 88, ⟨"StagedCompiler$Types", "isResultCode", "(I)Z"⟩, "StagedCompiler"), ("StagedCompiler$Program", 91, ⟨"StagedCompiler$Kind", "countsForSize", "(I)Z"⟩, "StagedCompiler"), ("StagedCompiler$Program", 94, ⟨"StagedCompiler$Instance", "wasLookedAt", "(I)Z"⟩, "StagedCompiler"), ("StagedCompiler$Compilation", 60, ⟨"StagedCompiler$Instance", "isOf", "(IJJ)Z"⟩, "StagedCompiler"), ("StagedCompiler$Compilation", 64, ⟨"StagedCompiler$Instance", "begin", "(LStagedCompiler$Program;IJJ)Z"⟩, "StagedCompiler"), ("StagedCompiler$Compilation", 73, ⟨"StagedCompiler$Types", "isInt", "(I)Z"⟩, "StagedCompiler"), ("StagedCompiler$Compilation", 81, ⟨"StagedCompiler$Types", "holds", "(IJ)Z"⟩, "StagedCompiler"), ("StagedCompiler$Compilation", 85, ⟨"StagedCompiler$Instance", "wasLookedAt", "(I)Z"⟩, "StagedCompiler"), ("StagedCompiler$Compilation", 94, ⟨"StagedCompiler$Instance", "findKnown", "(IIJ)Z"⟩, "StagedCompiler"), ("StagedCompiler$Compilation", 122, ⟨"StagedCompiler$Instance", "find", "(II)Z"⟩, "StagedCompiler"), ("StagedCompiler$Compilation", 138, ⟨"StagedCompiler$Kind", "isWrapOrClamp", "(I)Z"⟩, "StagedCompiler"), ("StagedCompiler$Compilation", 141, ⟨"StagedCompiler$Kind", "isComparison", "(I)Z"⟩, "StagedCompiler"), ("StagedCompiler$Compilation", 148, ⟨"StagedCompiler$Arithmetic", "work", "(IIJJ)J"⟩, "StagedCompiler"), ("StagedCompiler$Compilation", 154, ⟨"StagedCompiler$Arithmetic", "isTrap", "(J)Z"⟩, "StagedCompiler"), ("StagedCompiler$Compilation", 163, ⟨"StagedCompiler$Instance", "findSameAs", "(II)Z"⟩, "StagedCompiler"), ("StagedCompiler$Compilation", 166, ⟨"StagedCompiler$Instance", "typeByCode", "(I)I"⟩, "StagedCompiler"), ("StagedCompiler$Compilation", 170, ⟨"StagedCompiler$Program", "hasFunction", "(I)Z"⟩, "StagedCompiler"), ("StagedCompiler$Instance", 56, ⟨"StagedCompiler$Types", "isByParameter", "(I)Z"⟩, "StagedCompiler"), ("StagedCompiler$Instance", 69, ⟨"StagedCompiler$Types", "holds", "(IJ)Z"⟩, "StagedCompiler"), ("StagedCompiler$Machine", 69, ⟨"StagedCompiler$Arithmetic", "isTrap", "(J)Z"⟩, "StagedCompiler"), ("StagedCompiler$Machine", 81, ⟨"StagedCompiler$Arithmetic", "work", "(IIJJ)J"⟩, "StagedCompiler"), ("StagedCompiler$Machine", 88, ⟨"StagedCompiler$Arithmetic", "checked", "(IJ)J"⟩, "StagedCompiler"), ("StagedCompiler$Machine", 97, ⟨"StagedCompiler$Instance", "isRunParameter", "(I)Z"⟩, "StagedCompiler"), ("StagedCompiler$Arithmetic", 25, ⟨"StagedCompiler$Types", "holds", "(IJ)Z"⟩, "StagedCompiler"), ("StagedCompiler$Arithmetic", 39, ⟨"StagedCompiler$Types", "lowest", "(I)J"⟩, "StagedCompiler"), ("StagedCompiler$Arithmetic", 43, ⟨"StagedCompiler$Types", "highest", "(I)J"⟩, "StagedCompiler")]
theorem mm_nFne : ∀ q ∈ mm_nF, q.1 ≠ q.2.2.1 := by decide +kernel
def mm_FLs : List (Nat × Nat × Nat × Nat) := [(0, 15, 0, 0), (0, 21, 0, 1), (0, 27, 2, 1), (0, 34, 0, 2), (1, 9, 1, 0), (1, 15, 1, 1), (1, 18, 1, 2), (1, 21, 1, 3), (1, 24, 1, 4), (1, 27, 1, 5), (1, 31, 1, 6), (1, 34, 1, 7), (1, 37, 1, 8), (1, 40, 1, 9), (1, 43, 1, 10), (1, 47, 1, 11), (2, 9, 2, 0), (2, 17, 2, 1), (2, 22, 2, 2), (2, 26, 2, 3), (2, 29, 2, 4), (3, 9, 3, 2), (3, 15, 3, 3), (3, 19, 3, 4), (3, 22, 3, 5), (3, 26, 3, 6), (3, 29, 3, 7), (3, 32, 3, 0), (3, 38, 3, 1), (4, 9, 4, 0), (4, 15, 4, 1), (4, 19, 4, 2), (4, 23, 4, 3), (5, 7, 5, 0), (5, 13, 5, 1), (5, 16, 5, 2), (5, 19, 5, 3), (5, 22, 5, 4), (5, 25, 5, 5), (5, 29, 5, 6), (5, 32, 5, 7), (5, 35, 5, 8), (5, 38, 5, 9), (5, 41, 5, 10), (5, 45, 5, 11), (5, 48, 5, 12), (5, 51, 5, 13), (5, 54, 5, 14), (5, 57, 5, 15), (5, 60, 5, 16), (5, 63, 5, 17), (5, 66, 5, 18), (5, 69, 5, 19), (5, 72, 5, 20), (5, 75, 5, 21), (5, 78, 5, 22), (5, 82, 5, 23), (5, 85, 5, 24), (5, 88, 5, 25), (5, 91, 5, 26), (5, 94, 5, 27), (5, 97, 5, 28), (5, 100, 5, 29), (5, 103, 5, 30), (5, 106, 5, 31), (5, 109, 5, 32), (5, 112, 5, 33), (5, 116, 5, 34), (5, 119, 5, 35), (5, 122, 5, 36), (0, 54, 2, 4), (0, 61, 3, 0), (0, 68, 3, 2), (0, 74, 3, 3), (0, 81, 3, 4), (0, 84, 3, 5), (0, 88, 3, 6), (0, 103, 1, 10), (0, 106, 1, 11), (0, 109, 2, 2), (0, 112, 4, 3), (1, 99, 3, 5), (2, 40, 1, 9), (2, 46, 3, 0), (2, 53, 3, 1), (2, 68, 3, 4), (2, 77, 3, 6), (2, 88, 1, 0), (2, 91, 1, 1), (2, 116, 3, 2), (2, 119, 3, 3), (2, 126, 1, 2), (2, 144, 3, 5), (2, 160, 1, 3), (2, 173, 1, 6), (2, 179, 1, 7), (2, 193, 3, 7), (3, 41, 1, 6), (3, 46, 1, 7), (3, 53, 1, 8), (4, 26, 1, 9), (4, 32, 3, 0), (4, 43, 3, 5), (4, 47, 3, 6), (4, 51, 1, 0), (4, 54, 1, 1), (4, 75, 1, 2), (4, 78, 3, 4), (4, 85, 1, 3), (4, 94, 3, 7)]
def mm_FL (o ix : Nat) : Option (Nat × Nat) := (mm_FLs.find? fun q => q.1 == o && q.2.1 == ix).map fun q => q.2.2
def mm_CIs : List (Nat × Nat × Int32) := []
def mm_CI (o ix : Nat) : Option (Int32) := (mm_CIs.find? fun q => q.1 == o && q.2.1 == ix).map fun q => q.2.2
def mm_CLs : List (Nat × Nat × Int64) := [(0, 66, 1000000000000000), (2, 158, 1000000000000002), (3, 60, 31), (4, 41, 1000000000000004), (4, 92, 1000000000000003), (5, 146, 31), (5, 148, -2147483648), (5, 150, 2147483648), (5, 172, 1000000000000002), (5, 174, 1000000000000001), (5, 230, 1000000000000004), (5, 239, 1000000000000003), (5, 245, 1000000000000000), (7, 22, -2147483648), (7, 24, 2147483648), (8, 9, 1000000000000000), (8, 17, 1000000000000002), (8, 31, 1000000000000001)]
def mm_CL (o ix : Nat) : Option (Int64) := (mm_CLs.find? fun q => q.1 == o && q.2.1 == ix).map fun q => q.2.2
def mm_CCs : List (Nat × Nat × Nat) := [(0, 7, 1), (0, 10, 2), (0, 25, 4), (2, 15, 3), (9, 7, 0), (9, 10, 5)]
def mm_CC (o ix : Nat) : Option (Nat) := (mm_CCs.find? fun q => q.1 == o && q.2.1 == ix).map fun q => q.2.2
def mm_COs : List (Nat × Nat × String) := [(2, 15, "StagedCompiler$Instance")]
def mm_CO (o ix : Nat) : Option (String) := (mm_COs.find? fun q => q.1 == o && q.2.1 == ix).map fun q => q.2.2
def mm_JMs : List (Nat × Nat × Nat) := [(1, 75, 0), (2, 196, 1), (8, 33, 1), (8, 46, 3), (8, 50, 2)]
def mm_JM (o ix : Nat) : Option (Nat) := (mm_JMs.find? fun q => q.1 == o && q.2.1 == ix).map fun q => q.2.2
def mm_MTs : List (Nat × Nat × Nat × Nat × Nat) := [(0, 1, 7, 0, 3), (0, 9, 1, 0, 2), (0, 12, 2, 1, 2), (0, 31, 4, 2, 2), (1, 3, 7, 0, 3), (2, 3, 7, 0, 3), (2, 21, 3, 0, 2), (3, 3, 7, 0, 3), (4, 3, 7, 0, 3), (5, 1, 7, 0, 3), (0, 38, 21, 4, 1), (0, 42, 26, 5, 1), (0, 46, 20, 1, 1), (0, 50, 29, 3, 1), (0, 58, 28, 1, 1), (0, 78, 19, 1, 1), (0, 91, 27, 1, 1), (0, 95, 51, 2, 1), (0, 99, 56, 3, 1), (1, 50, 108, 1, 0), (1, 56, 22, 4, 1), (1, 60, 24, 4, 1), (1, 64, 19, 1, 1), (1, 67, 114, 1, 0), (1, 72, 23, 1, 1), (1, 81, 25, 1, 1), (1, 85, 116, 1, 0), (1, 88, 115, 1, 0), (1, 91, 111, 1, 0), (1, 94, 52, 1, 1), (2, 32, 31, 3, 1), (2, 36, 30, 3, 1), (2, 49, 33, 2, 1), (2, 56, 32, 4, 1), (2, 60, 48, 3, 1), (2, 64, 46, 4, 1), (2, 73, 112, 1, 0), (2, 81, 119, 2, 0), (2, 85, 52, 1, 1), (2, 94, 54, 3, 1), (2, 98, 34, 2, 1), (2, 101, 38, 2, 1), (2, 104, 39, 2, 1), (2, 107, 40, 2, 1), (2, 110, 45, 2, 1), (2, 113, 35, 2, 1), (2, 122, 53, 2, 1), (2, 129, 36, 4, 1), (2, 132, 37, 3, 1), (2, 138, 109, 1, 0), (2, 141, 110, 1, 0), (2, 148, 121, 4, 0), (2, 154, 120, 1, 0), (2, 163, 55, 2, 1), (2, 166, 47, 1, 1), (2, 170, 20, 1, 1), (2, 176, 41, 2, 1), (2, 182, 42, 3, 1), (2, 186, 43, 2, 1), (2, 190, 44, 4, 1), (3, 49, 47, 1, 1), (3, 56, 113, 1, 0), (3, 62, 49, 2, 1), (3, 66, 50, 1, 1), (3, 69, 119, 2, 0), (4, 37, 57, 5, 1), (4, 57, 59, 5, 1), (4, 60, 60, 5, 1), (4, 63, 61, 5, 1), (4, 66, 58, 5, 1), (4, 69, 120, 1, 0), (4, 81, 121, 4, 0), (4, 88, 122, 2, 0), (4, 97, 50, 1, 1), (5, 125, 62, 1, 1), (5, 129, 63, 1, 1), (5, 132, 66, 1, 1), (5, 136, 65, 1, 1), (5, 139, 67, 3, 1), (5, 143, 64, 1, 1), (5, 152, 72, 1, 1), (5, 156, 73, 1, 1), (5, 159, 77, 1, 1), (5, 162, 75, 3, 1), (5, 165, 71, 1, 1), (5, 168, 74, 2, 1), (5, 176, 80, 4, 1), (5, 180, 81, 4, 1), (5, 184, 79, 5, 1), (5, 188, 70, 2, 1), (5, 192, 86, 4, 1), (5, 196, 85, 5, 1), (5, 200, 87, 4, 1), (5, 204, 76, 2, 1), (5, 207, 82, 2, 1), (5, 211, 83, 2, 1), (5, 214, 84, 2, 1), (5, 217, 88, 2, 1), (5, 220, 78, 2, 1), (5, 223, 89, 2, 1), (5, 226, 90, 1, 1), (5, 232, 93, 1, 1), (5, 235, 94, 1, 1), (5, 241, 99, 3, 1), (5, 247, 95, 1, 1), (5, 250, 96, 1, 1), (5, 253, 97, 1, 1), (5, 256, 98, 1, 1), (5, 259, 101, 1, 1), (7, 9, 112, 1, 0), (7, 13, 113, 1, 0), (7, 16, 114, 1, 0), (7, 19, 115, 1, 0), (7, 26, 117, 1, 0), (7, 30, 118, 1, 0), (8, 11, 122, 2, 0), (8, 19, 123, 2, 0), (8, 22, 124, 2, 0), (8, 25, 119, 2, 0), (8, 39, 117, 1, 0), (8, 43, 118, 1, 0), (9, 9, 0, 0, 2), (9, 12, 5, 0, 2), (9, 13, 8, 4, 1), (9, 17, 68, 4, 1), (9, 18, 9, 5, 1), (9, 22, 69, 5, 1), (9, 23, 10, 3, 1), (9, 27, 91, 3, 1), (9, 28, 11, 0, 1), (9, 32, 92, 0, 1), (9, 33, 12, 1, 1), (9, 37, 102, 1, 1), (9, 38, 13, 2, 1), (9, 42, 103, 2, 1), (9, 43, 14, 2, 1), (9, 47, 104, 2, 1), (9, 48, 15, 2, 1), (9, 51, 105, 2, 1), (9, 52, 16, 1, 1), (9, 55, 106, 1, 1), (9, 56, 17, 3, 1), (9, 60, 100, 3, 1), (9, 61, 18, 1, 1), (9, 64, 107, 1, 1)]
def mm_MT (o ix : Nat) : Option (Nat × Nat × Nat) := (mm_MTs.find? fun q => q.1 == o && q.2.1 == ix).map fun q => q.2.2
theorem mm_findI {α : Type} {L : List (Nat × Nat × α)} {o ix : Nat} {x : α} (h : (L.find? fun q => q.1 == o && q.2.1 == ix).map (fun q => q.2.2) = some x) : (o, ix, x) ∈ L := by
  cases hf : L.find? (fun q => q.1 == o && q.2.1 == ix) with
  | none => rw [hf] at h; cases h
  | some q =>
    rw [hf] at h
    obtain ⟨a, b, y⟩ := q
    have h1 := List.find?_some hf
    have h2 := List.mem_of_find?_eq_some hf
    simp at h1
    obtain ⟨rfl, rfl⟩ := h1
    have h3 : y = x := Option.some.inj h
    rw [← h3]
    exact h2
theorem fl_0_15 : mm_FL 0 15 = some (0, 0) := by decide +kernel
theorem fl_0_21 : mm_FL 0 21 = some (0, 1) := by decide +kernel
theorem fl_0_27 : mm_FL 0 27 = some (2, 1) := by decide +kernel
theorem fl_0_34 : mm_FL 0 34 = some (0, 2) := by decide +kernel
theorem fl_1_9 : mm_FL 1 9 = some (1, 0) := by decide +kernel
theorem fl_1_15 : mm_FL 1 15 = some (1, 1) := by decide +kernel
theorem fl_1_18 : mm_FL 1 18 = some (1, 2) := by decide +kernel
theorem fl_1_21 : mm_FL 1 21 = some (1, 3) := by decide +kernel
theorem fl_1_24 : mm_FL 1 24 = some (1, 4) := by decide +kernel
theorem fl_1_27 : mm_FL 1 27 = some (1, 5) := by decide +kernel
theorem fl_1_31 : mm_FL 1 31 = some (1, 6) := by decide +kernel
theorem fl_1_34 : mm_FL 1 34 = some (1, 7) := by decide +kernel
theorem fl_1_37 : mm_FL 1 37 = some (1, 8) := by decide +kernel
theorem fl_1_40 : mm_FL 1 40 = some (1, 9) := by decide +kernel
theorem fl_1_43 : mm_FL 1 43 = some (1, 10) := by decide +kernel
theorem fl_1_47 : mm_FL 1 47 = some (1, 11) := by decide +kernel
theorem fl_2_9 : mm_FL 2 9 = some (2, 0) := by decide +kernel
theorem fl_2_17 : mm_FL 2 17 = some (2, 1) := by decide +kernel
theorem fl_2_22 : mm_FL 2 22 = some (2, 2) := by decide +kernel
theorem fl_2_26 : mm_FL 2 26 = some (2, 3) := by decide +kernel
theorem fl_2_29 : mm_FL 2 29 = some (2, 4) := by decide +kernel
theorem fl_3_9 : mm_FL 3 9 = some (3, 2) := by decide +kernel
theorem fl_3_15 : mm_FL 3 15 = some (3, 3) := by decide +kernel
theorem fl_3_19 : mm_FL 3 19 = some (3, 4) := by decide +kernel
theorem fl_3_22 : mm_FL 3 22 = some (3, 5) := by decide +kernel
theorem fl_3_26 : mm_FL 3 26 = some (3, 6) := by decide +kernel
theorem fl_3_29 : mm_FL 3 29 = some (3, 7) := by decide +kernel
theorem fl_3_32 : mm_FL 3 32 = some (3, 0) := by decide +kernel
theorem fl_3_38 : mm_FL 3 38 = some (3, 1) := by decide +kernel
theorem fl_4_9 : mm_FL 4 9 = some (4, 0) := by decide +kernel
theorem fl_4_15 : mm_FL 4 15 = some (4, 1) := by decide +kernel
theorem fl_4_19 : mm_FL 4 19 = some (4, 2) := by decide +kernel
theorem fl_4_23 : mm_FL 4 23 = some (4, 3) := by decide +kernel
theorem fl_5_7 : mm_FL 5 7 = some (5, 0) := by decide +kernel
theorem fl_5_13 : mm_FL 5 13 = some (5, 1) := by decide +kernel
theorem fl_5_16 : mm_FL 5 16 = some (5, 2) := by decide +kernel
theorem fl_5_19 : mm_FL 5 19 = some (5, 3) := by decide +kernel
theorem fl_5_22 : mm_FL 5 22 = some (5, 4) := by decide +kernel
theorem fl_5_25 : mm_FL 5 25 = some (5, 5) := by decide +kernel
theorem fl_5_29 : mm_FL 5 29 = some (5, 6) := by decide +kernel
theorem fl_5_32 : mm_FL 5 32 = some (5, 7) := by decide +kernel
theorem fl_5_35 : mm_FL 5 35 = some (5, 8) := by decide +kernel
theorem fl_5_38 : mm_FL 5 38 = some (5, 9) := by decide +kernel
theorem fl_5_41 : mm_FL 5 41 = some (5, 10) := by decide +kernel
theorem fl_5_45 : mm_FL 5 45 = some (5, 11) := by decide +kernel
theorem fl_5_48 : mm_FL 5 48 = some (5, 12) := by decide +kernel
theorem fl_5_51 : mm_FL 5 51 = some (5, 13) := by decide +kernel
theorem fl_5_54 : mm_FL 5 54 = some (5, 14) := by decide +kernel
theorem fl_5_57 : mm_FL 5 57 = some (5, 15) := by decide +kernel
theorem fl_5_60 : mm_FL 5 60 = some (5, 16) := by decide +kernel
theorem fl_5_63 : mm_FL 5 63 = some (5, 17) := by decide +kernel
theorem fl_5_66 : mm_FL 5 66 = some (5, 18) := by decide +kernel
theorem fl_5_69 : mm_FL 5 69 = some (5, 19) := by decide +kernel
theorem fl_5_72 : mm_FL 5 72 = some (5, 20) := by decide +kernel
theorem fl_5_75 : mm_FL 5 75 = some (5, 21) := by decide +kernel
theorem fl_5_78 : mm_FL 5 78 = some (5, 22) := by decide +kernel
theorem fl_5_82 : mm_FL 5 82 = some (5, 23) := by decide +kernel
theorem fl_5_85 : mm_FL 5 85 = some (5, 24) := by decide +kernel
theorem fl_5_88 : mm_FL 5 88 = some (5, 25) := by decide +kernel
theorem fl_5_91 : mm_FL 5 91 = some (5, 26) := by decide +kernel
theorem fl_5_94 : mm_FL 5 94 = some (5, 27) := by decide +kernel
theorem fl_5_97 : mm_FL 5 97 = some (5, 28) := by decide +kernel
theorem fl_5_100 : mm_FL 5 100 = some (5, 29) := by decide +kernel
theorem fl_5_103 : mm_FL 5 103 = some (5, 30) := by decide +kernel
theorem fl_5_106 : mm_FL 5 106 = some (5, 31) := by decide +kernel
theorem fl_5_109 : mm_FL 5 109 = some (5, 32) := by decide +kernel
theorem fl_5_112 : mm_FL 5 112 = some (5, 33) := by decide +kernel
theorem fl_5_116 : mm_FL 5 116 = some (5, 34) := by decide +kernel
theorem fl_5_119 : mm_FL 5 119 = some (5, 35) := by decide +kernel
theorem fl_5_122 : mm_FL 5 122 = some (5, 36) := by decide +kernel
theorem fl_0_54 : mm_FL 0 54 = some (2, 4) := by decide +kernel
theorem fl_0_61 : mm_FL 0 61 = some (3, 0) := by decide +kernel
theorem fl_0_68 : mm_FL 0 68 = some (3, 2) := by decide +kernel
theorem fl_0_74 : mm_FL 0 74 = some (3, 3) := by decide +kernel
theorem fl_0_81 : mm_FL 0 81 = some (3, 4) := by decide +kernel
theorem fl_0_84 : mm_FL 0 84 = some (3, 5) := by decide +kernel
theorem fl_0_88 : mm_FL 0 88 = some (3, 6) := by decide +kernel
theorem fl_0_103 : mm_FL 0 103 = some (1, 10) := by decide +kernel
theorem fl_0_106 : mm_FL 0 106 = some (1, 11) := by decide +kernel
theorem fl_0_109 : mm_FL 0 109 = some (2, 2) := by decide +kernel
theorem fl_0_112 : mm_FL 0 112 = some (4, 3) := by decide +kernel
theorem fl_1_99 : mm_FL 1 99 = some (3, 5) := by decide +kernel
theorem fl_2_40 : mm_FL 2 40 = some (1, 9) := by decide +kernel
theorem fl_2_46 : mm_FL 2 46 = some (3, 0) := by decide +kernel
theorem fl_2_53 : mm_FL 2 53 = some (3, 1) := by decide +kernel
theorem fl_2_68 : mm_FL 2 68 = some (3, 4) := by decide +kernel
theorem fl_2_77 : mm_FL 2 77 = some (3, 6) := by decide +kernel
theorem fl_2_88 : mm_FL 2 88 = some (1, 0) := by decide +kernel
theorem fl_2_91 : mm_FL 2 91 = some (1, 1) := by decide +kernel
theorem fl_2_116 : mm_FL 2 116 = some (3, 2) := by decide +kernel
theorem fl_2_119 : mm_FL 2 119 = some (3, 3) := by decide +kernel
theorem fl_2_126 : mm_FL 2 126 = some (1, 2) := by decide +kernel
theorem fl_2_144 : mm_FL 2 144 = some (3, 5) := by decide +kernel
theorem fl_2_160 : mm_FL 2 160 = some (1, 3) := by decide +kernel
theorem fl_2_173 : mm_FL 2 173 = some (1, 6) := by decide +kernel
theorem fl_2_179 : mm_FL 2 179 = some (1, 7) := by decide +kernel
theorem fl_2_193 : mm_FL 2 193 = some (3, 7) := by decide +kernel
theorem fl_3_41 : mm_FL 3 41 = some (1, 6) := by decide +kernel
theorem fl_3_46 : mm_FL 3 46 = some (1, 7) := by decide +kernel
theorem fl_3_53 : mm_FL 3 53 = some (1, 8) := by decide +kernel
theorem fl_4_26 : mm_FL 4 26 = some (1, 9) := by decide +kernel
theorem fl_4_32 : mm_FL 4 32 = some (3, 0) := by decide +kernel
theorem fl_4_43 : mm_FL 4 43 = some (3, 5) := by decide +kernel
theorem fl_4_47 : mm_FL 4 47 = some (3, 6) := by decide +kernel
theorem fl_4_51 : mm_FL 4 51 = some (1, 0) := by decide +kernel
theorem fl_4_54 : mm_FL 4 54 = some (1, 1) := by decide +kernel
theorem fl_4_75 : mm_FL 4 75 = some (1, 2) := by decide +kernel
theorem fl_4_78 : mm_FL 4 78 = some (3, 4) := by decide +kernel
theorem fl_4_85 : mm_FL 4 85 = some (1, 3) := by decide +kernel
theorem fl_4_94 : mm_FL 4 94 = some (3, 7) := by decide +kernel
theorem cn_0_66 : mm_CL 0 66 = some (1000000000000000) := by decide +kernel
theorem cn_2_158 : mm_CL 2 158 = some (1000000000000002) := by decide +kernel
theorem cn_3_60 : mm_CL 3 60 = some (31) := by decide +kernel
theorem cn_4_41 : mm_CL 4 41 = some (1000000000000004) := by decide +kernel
theorem cn_4_92 : mm_CL 4 92 = some (1000000000000003) := by decide +kernel
theorem cn_5_146 : mm_CL 5 146 = some (31) := by decide +kernel
theorem cn_5_148 : mm_CL 5 148 = some (-2147483648) := by decide +kernel
theorem cn_5_150 : mm_CL 5 150 = some (2147483648) := by decide +kernel
theorem cn_5_172 : mm_CL 5 172 = some (1000000000000002) := by decide +kernel
theorem cn_5_174 : mm_CL 5 174 = some (1000000000000001) := by decide +kernel
theorem cn_5_230 : mm_CL 5 230 = some (1000000000000004) := by decide +kernel
theorem cn_5_239 : mm_CL 5 239 = some (1000000000000003) := by decide +kernel
theorem cn_5_245 : mm_CL 5 245 = some (1000000000000000) := by decide +kernel
theorem cn_7_22 : mm_CL 7 22 = some (-2147483648) := by decide +kernel
theorem cn_7_24 : mm_CL 7 24 = some (2147483648) := by decide +kernel
theorem cn_8_9 : mm_CL 8 9 = some (1000000000000000) := by decide +kernel
theorem cn_8_17 : mm_CL 8 17 = some (1000000000000002) := by decide +kernel
theorem cn_8_31 : mm_CL 8 31 = some (1000000000000001) := by decide +kernel
theorem cc_0_7 : mm_CC 0 7 = some 1 := by decide +kernel
theorem cc_0_10 : mm_CC 0 10 = some 2 := by decide +kernel
theorem cc_0_25 : mm_CC 0 25 = some 4 := by decide +kernel
theorem cc_2_15 : mm_CC 2 15 = some 3 := by decide +kernel
theorem cc_9_7 : mm_CC 9 7 = some 0 := by decide +kernel
theorem cc_9_10 : mm_CC 9 10 = some 5 := by decide +kernel
theorem co_2_15 : mm_CO 2 15 = some "StagedCompiler$Instance" := by decide +kernel
theorem jm_1_75 : mm_JM 1 75 = some 0 := by decide +kernel
theorem jm_2_196 : mm_JM 2 196 = some 1 := by decide +kernel
theorem jm_8_33 : mm_JM 8 33 = some 1 := by decide +kernel
theorem jm_8_46 : mm_JM 8 46 = some 3 := by decide +kernel
theorem jm_8_50 : mm_JM 8 50 = some 2 := by decide +kernel
theorem mt_0_1 : mm_MT 0 1 = some (7, 0, 3) := by decide +kernel
theorem mt_0_9 : mm_MT 0 9 = some (1, 0, 2) := by decide +kernel
theorem mt_0_12 : mm_MT 0 12 = some (2, 1, 2) := by decide +kernel
theorem mt_0_31 : mm_MT 0 31 = some (4, 2, 2) := by decide +kernel
theorem mt_1_3 : mm_MT 1 3 = some (7, 0, 3) := by decide +kernel
theorem mt_2_3 : mm_MT 2 3 = some (7, 0, 3) := by decide +kernel
theorem mt_2_21 : mm_MT 2 21 = some (3, 0, 2) := by decide +kernel
theorem mt_3_3 : mm_MT 3 3 = some (7, 0, 3) := by decide +kernel
theorem mt_4_3 : mm_MT 4 3 = some (7, 0, 3) := by decide +kernel
theorem mt_5_1 : mm_MT 5 1 = some (7, 0, 3) := by decide +kernel
theorem mt_0_38 : mm_MT 0 38 = some (21, 4, 1) := by decide +kernel
theorem mt_0_42 : mm_MT 0 42 = some (26, 5, 1) := by decide +kernel
theorem mt_0_46 : mm_MT 0 46 = some (20, 1, 1) := by decide +kernel
theorem mt_0_50 : mm_MT 0 50 = some (29, 3, 1) := by decide +kernel
theorem mt_0_58 : mm_MT 0 58 = some (28, 1, 1) := by decide +kernel
theorem mt_0_78 : mm_MT 0 78 = some (19, 1, 1) := by decide +kernel
theorem mt_0_91 : mm_MT 0 91 = some (27, 1, 1) := by decide +kernel
theorem mt_0_95 : mm_MT 0 95 = some (51, 2, 1) := by decide +kernel
theorem mt_0_99 : mm_MT 0 99 = some (56, 3, 1) := by decide +kernel
theorem mt_1_50 : mm_MT 1 50 = some (108, 1, 0) := by decide +kernel
theorem jn_1_50 : mm_JM 1 50 = none := by decide +kernel
theorem mt_1_56 : mm_MT 1 56 = some (22, 4, 1) := by decide +kernel
theorem mt_1_60 : mm_MT 1 60 = some (24, 4, 1) := by decide +kernel
theorem mt_1_64 : mm_MT 1 64 = some (19, 1, 1) := by decide +kernel
theorem mt_1_67 : mm_MT 1 67 = some (114, 1, 0) := by decide +kernel
theorem jn_1_67 : mm_JM 1 67 = none := by decide +kernel
theorem mt_1_72 : mm_MT 1 72 = some (23, 1, 1) := by decide +kernel
theorem mt_1_81 : mm_MT 1 81 = some (25, 1, 1) := by decide +kernel
theorem mt_1_85 : mm_MT 1 85 = some (116, 1, 0) := by decide +kernel
theorem jn_1_85 : mm_JM 1 85 = none := by decide +kernel
theorem mt_1_88 : mm_MT 1 88 = some (115, 1, 0) := by decide +kernel
theorem jn_1_88 : mm_JM 1 88 = none := by decide +kernel
theorem mt_1_91 : mm_MT 1 91 = some (111, 1, 0) := by decide +kernel
theorem jn_1_91 : mm_JM 1 91 = none := by decide +kernel
theorem mt_1_94 : mm_MT 1 94 = some (52, 1, 1) := by decide +kernel
theorem mt_2_32 : mm_MT 2 32 = some (31, 3, 1) := by decide +kernel
theorem mt_2_36 : mm_MT 2 36 = some (30, 3, 1) := by decide +kernel
theorem mt_2_49 : mm_MT 2 49 = some (33, 2, 1) := by decide +kernel
theorem mt_2_56 : mm_MT 2 56 = some (32, 4, 1) := by decide +kernel
theorem mt_2_60 : mm_MT 2 60 = some (48, 3, 1) := by decide +kernel
theorem mt_2_64 : mm_MT 2 64 = some (46, 4, 1) := by decide +kernel
theorem mt_2_73 : mm_MT 2 73 = some (112, 1, 0) := by decide +kernel
theorem jn_2_73 : mm_JM 2 73 = none := by decide +kernel
theorem mt_2_81 : mm_MT 2 81 = some (119, 2, 0) := by decide +kernel
theorem jn_2_81 : mm_JM 2 81 = none := by decide +kernel
theorem mt_2_85 : mm_MT 2 85 = some (52, 1, 1) := by decide +kernel
theorem mt_2_94 : mm_MT 2 94 = some (54, 3, 1) := by decide +kernel
theorem mt_2_98 : mm_MT 2 98 = some (34, 2, 1) := by decide +kernel
theorem mt_2_101 : mm_MT 2 101 = some (38, 2, 1) := by decide +kernel
theorem mt_2_104 : mm_MT 2 104 = some (39, 2, 1) := by decide +kernel
theorem mt_2_107 : mm_MT 2 107 = some (40, 2, 1) := by decide +kernel
theorem mt_2_110 : mm_MT 2 110 = some (45, 2, 1) := by decide +kernel
theorem mt_2_113 : mm_MT 2 113 = some (35, 2, 1) := by decide +kernel
theorem mt_2_122 : mm_MT 2 122 = some (53, 2, 1) := by decide +kernel
theorem mt_2_129 : mm_MT 2 129 = some (36, 4, 1) := by decide +kernel
theorem mt_2_132 : mm_MT 2 132 = some (37, 3, 1) := by decide +kernel
theorem mt_2_138 : mm_MT 2 138 = some (109, 1, 0) := by decide +kernel
theorem jn_2_138 : mm_JM 2 138 = none := by decide +kernel
theorem mt_2_141 : mm_MT 2 141 = some (110, 1, 0) := by decide +kernel
theorem jn_2_141 : mm_JM 2 141 = none := by decide +kernel
theorem mt_2_148 : mm_MT 2 148 = some (121, 4, 0) := by decide +kernel
theorem jn_2_148 : mm_JM 2 148 = none := by decide +kernel
theorem mt_2_154 : mm_MT 2 154 = some (120, 1, 0) := by decide +kernel
theorem jn_2_154 : mm_JM 2 154 = none := by decide +kernel
theorem mt_2_163 : mm_MT 2 163 = some (55, 2, 1) := by decide +kernel
theorem mt_2_166 : mm_MT 2 166 = some (47, 1, 1) := by decide +kernel
theorem mt_2_170 : mm_MT 2 170 = some (20, 1, 1) := by decide +kernel
theorem mt_2_176 : mm_MT 2 176 = some (41, 2, 1) := by decide +kernel
theorem mt_2_182 : mm_MT 2 182 = some (42, 3, 1) := by decide +kernel
theorem mt_2_186 : mm_MT 2 186 = some (43, 2, 1) := by decide +kernel
theorem mt_2_190 : mm_MT 2 190 = some (44, 4, 1) := by decide +kernel
theorem mt_3_49 : mm_MT 3 49 = some (47, 1, 1) := by decide +kernel
theorem mt_3_56 : mm_MT 3 56 = some (113, 1, 0) := by decide +kernel
theorem jn_3_56 : mm_JM 3 56 = none := by decide +kernel
theorem mt_3_62 : mm_MT 3 62 = some (49, 2, 1) := by decide +kernel
theorem mt_3_66 : mm_MT 3 66 = some (50, 1, 1) := by decide +kernel
theorem mt_3_69 : mm_MT 3 69 = some (119, 2, 0) := by decide +kernel
theorem jn_3_69 : mm_JM 3 69 = none := by decide +kernel
theorem mt_4_37 : mm_MT 4 37 = some (57, 5, 1) := by decide +kernel
theorem mt_4_57 : mm_MT 4 57 = some (59, 5, 1) := by decide +kernel
theorem mt_4_60 : mm_MT 4 60 = some (60, 5, 1) := by decide +kernel
theorem mt_4_63 : mm_MT 4 63 = some (61, 5, 1) := by decide +kernel
theorem mt_4_66 : mm_MT 4 66 = some (58, 5, 1) := by decide +kernel
theorem mt_4_69 : mm_MT 4 69 = some (120, 1, 0) := by decide +kernel
theorem jn_4_69 : mm_JM 4 69 = none := by decide +kernel
theorem mt_4_81 : mm_MT 4 81 = some (121, 4, 0) := by decide +kernel
theorem jn_4_81 : mm_JM 4 81 = none := by decide +kernel
theorem mt_4_88 : mm_MT 4 88 = some (122, 2, 0) := by decide +kernel
theorem jn_4_88 : mm_JM 4 88 = none := by decide +kernel
theorem mt_4_97 : mm_MT 4 97 = some (50, 1, 1) := by decide +kernel
theorem mt_5_125 : mm_MT 5 125 = some (62, 1, 1) := by decide +kernel
theorem mt_5_129 : mm_MT 5 129 = some (63, 1, 1) := by decide +kernel
theorem mt_5_132 : mm_MT 5 132 = some (66, 1, 1) := by decide +kernel
theorem mt_5_136 : mm_MT 5 136 = some (65, 1, 1) := by decide +kernel
theorem mt_5_139 : mm_MT 5 139 = some (67, 3, 1) := by decide +kernel
theorem mt_5_143 : mm_MT 5 143 = some (64, 1, 1) := by decide +kernel
theorem mt_5_152 : mm_MT 5 152 = some (72, 1, 1) := by decide +kernel
theorem mt_5_156 : mm_MT 5 156 = some (73, 1, 1) := by decide +kernel
theorem mt_5_159 : mm_MT 5 159 = some (77, 1, 1) := by decide +kernel
theorem mt_5_162 : mm_MT 5 162 = some (75, 3, 1) := by decide +kernel
theorem mt_5_165 : mm_MT 5 165 = some (71, 1, 1) := by decide +kernel
theorem mt_5_168 : mm_MT 5 168 = some (74, 2, 1) := by decide +kernel
theorem mt_5_176 : mm_MT 5 176 = some (80, 4, 1) := by decide +kernel
theorem mt_5_180 : mm_MT 5 180 = some (81, 4, 1) := by decide +kernel
theorem mt_5_184 : mm_MT 5 184 = some (79, 5, 1) := by decide +kernel
theorem mt_5_188 : mm_MT 5 188 = some (70, 2, 1) := by decide +kernel
theorem mt_5_192 : mm_MT 5 192 = some (86, 4, 1) := by decide +kernel
theorem mt_5_196 : mm_MT 5 196 = some (85, 5, 1) := by decide +kernel
theorem mt_5_200 : mm_MT 5 200 = some (87, 4, 1) := by decide +kernel
theorem mt_5_204 : mm_MT 5 204 = some (76, 2, 1) := by decide +kernel
theorem mt_5_207 : mm_MT 5 207 = some (82, 2, 1) := by decide +kernel
theorem mt_5_211 : mm_MT 5 211 = some (83, 2, 1) := by decide +kernel
theorem mt_5_214 : mm_MT 5 214 = some (84, 2, 1) := by decide +kernel
theorem mt_5_217 : mm_MT 5 217 = some (88, 2, 1) := by decide +kernel
theorem mt_5_220 : mm_MT 5 220 = some (78, 2, 1) := by decide +kernel
theorem mt_5_223 : mm_MT 5 223 = some (89, 2, 1) := by decide +kernel
theorem mt_5_226 : mm_MT 5 226 = some (90, 1, 1) := by decide +kernel
theorem mt_5_232 : mm_MT 5 232 = some (93, 1, 1) := by decide +kernel
theorem mt_5_235 : mm_MT 5 235 = some (94, 1, 1) := by decide +kernel
theorem mt_5_241 : mm_MT 5 241 = some (99, 3, 1) := by decide +kernel
theorem mt_5_247 : mm_MT 5 247 = some (95, 1, 1) := by decide +kernel
theorem mt_5_250 : mm_MT 5 250 = some (96, 1, 1) := by decide +kernel
theorem mt_5_253 : mm_MT 5 253 = some (97, 1, 1) := by decide +kernel
theorem mt_5_256 : mm_MT 5 256 = some (98, 1, 1) := by decide +kernel
theorem mt_5_259 : mm_MT 5 259 = some (101, 1, 1) := by decide +kernel
theorem mt_7_9 : mm_MT 7 9 = some (112, 1, 0) := by decide +kernel
theorem jn_7_9 : mm_JM 7 9 = none := by decide +kernel
theorem mt_7_13 : mm_MT 7 13 = some (113, 1, 0) := by decide +kernel
theorem jn_7_13 : mm_JM 7 13 = none := by decide +kernel
theorem mt_7_16 : mm_MT 7 16 = some (114, 1, 0) := by decide +kernel
theorem jn_7_16 : mm_JM 7 16 = none := by decide +kernel
theorem mt_7_19 : mm_MT 7 19 = some (115, 1, 0) := by decide +kernel
theorem jn_7_19 : mm_JM 7 19 = none := by decide +kernel
theorem mt_7_26 : mm_MT 7 26 = some (117, 1, 0) := by decide +kernel
theorem jn_7_26 : mm_JM 7 26 = none := by decide +kernel
theorem mt_7_30 : mm_MT 7 30 = some (118, 1, 0) := by decide +kernel
theorem jn_7_30 : mm_JM 7 30 = none := by decide +kernel
theorem mt_8_11 : mm_MT 8 11 = some (122, 2, 0) := by decide +kernel
theorem jn_8_11 : mm_JM 8 11 = none := by decide +kernel
theorem mt_8_19 : mm_MT 8 19 = some (123, 2, 0) := by decide +kernel
theorem jn_8_19 : mm_JM 8 19 = none := by decide +kernel
theorem mt_8_22 : mm_MT 8 22 = some (124, 2, 0) := by decide +kernel
theorem jn_8_22 : mm_JM 8 22 = none := by decide +kernel
theorem mt_8_25 : mm_MT 8 25 = some (119, 2, 0) := by decide +kernel
theorem jn_8_25 : mm_JM 8 25 = none := by decide +kernel
theorem mt_8_39 : mm_MT 8 39 = some (117, 1, 0) := by decide +kernel
theorem jn_8_39 : mm_JM 8 39 = none := by decide +kernel
theorem mt_8_43 : mm_MT 8 43 = some (118, 1, 0) := by decide +kernel
theorem jn_8_43 : mm_JM 8 43 = none := by decide +kernel
theorem mt_9_9 : mm_MT 9 9 = some (0, 0, 2) := by decide +kernel
theorem mt_9_12 : mm_MT 9 12 = some (5, 0, 2) := by decide +kernel
theorem mt_9_13 : mm_MT 9 13 = some (8, 4, 1) := by decide +kernel
theorem mt_9_17 : mm_MT 9 17 = some (68, 4, 1) := by decide +kernel
theorem mt_9_18 : mm_MT 9 18 = some (9, 5, 1) := by decide +kernel
theorem mt_9_22 : mm_MT 9 22 = some (69, 5, 1) := by decide +kernel
theorem mt_9_23 : mm_MT 9 23 = some (10, 3, 1) := by decide +kernel
theorem mt_9_27 : mm_MT 9 27 = some (91, 3, 1) := by decide +kernel
theorem mt_9_28 : mm_MT 9 28 = some (11, 0, 1) := by decide +kernel
theorem mt_9_32 : mm_MT 9 32 = some (92, 0, 1) := by decide +kernel
theorem mt_9_33 : mm_MT 9 33 = some (12, 1, 1) := by decide +kernel
theorem mt_9_37 : mm_MT 9 37 = some (102, 1, 1) := by decide +kernel
theorem mt_9_38 : mm_MT 9 38 = some (13, 2, 1) := by decide +kernel
theorem mt_9_42 : mm_MT 9 42 = some (103, 2, 1) := by decide +kernel
theorem mt_9_43 : mm_MT 9 43 = some (14, 2, 1) := by decide +kernel
theorem mt_9_47 : mm_MT 9 47 = some (104, 2, 1) := by decide +kernel
theorem mt_9_48 : mm_MT 9 48 = some (15, 2, 1) := by decide +kernel
theorem mt_9_51 : mm_MT 9 51 = some (105, 2, 1) := by decide +kernel
theorem mt_9_52 : mm_MT 9 52 = some (16, 1, 1) := by decide +kernel
theorem mt_9_55 : mm_MT 9 55 = some (106, 1, 1) := by decide +kernel
theorem mt_9_56 : mm_MT 9 56 = some (17, 3, 1) := by decide +kernel
theorem mt_9_60 : mm_MT 9 60 = some (100, 3, 1) := by decide +kernel
theorem mt_9_61 : mm_MT 9 61 = some (18, 1, 1) := by decide +kernel
theorem mt_9_64 : mm_MT 9 64 = some (107, 1, 1) := by decide +kernel
def mm_nid : Nat := 125
def mm_y (id : Nat) : MethodName := match id with
  | 0 => ⟨"StagedCompiler", "<init>", "()V"⟩
  | 1 => ⟨"StagedCompiler$Program", "<init>", "()V"⟩
  | 2 => ⟨"StagedCompiler$Compilation", "<init>", "(LStagedCompiler$Program;)V"⟩
  | 3 => ⟨"StagedCompiler$Instance", "<init>", "()V"⟩
  | 4 => ⟨"StagedCompiler$Machine", "<init>", "(LStagedCompiler$Program;[LStagedCompiler$Instance;)V"⟩
  | 5 => ⟨"StagedCompilerModel", "<init>", "()V"⟩
  | 6 => ⟨"StagedCompiler", "<init>", "()V"⟩
  | 7 => ⟨"StagedCompiler", "<init>", "()V"⟩
  | 8 => ⟨"StagedCompiler", "node", "(IIII)I"⟩
  | 9 => ⟨"StagedCompiler", "define", "(IIIII)I"⟩
  | 10 => ⟨"StagedCompiler", "compile", "(III)I"⟩
  | 11 => ⟨"StagedCompiler", "errorAt", "()I"⟩
  | 12 => ⟨"StagedCompiler", "functionOf", "(I)I"⟩
  | 13 => ⟨"StagedCompiler", "countOf", "(II)J"⟩
  | 14 => ⟨"StagedCompiler", "typeOf", "(II)I"⟩
  | 15 => ⟨"StagedCompiler", "known", "(II)J"⟩
  | 16 => ⟨"StagedCompiler", "size", "(I)I"⟩
  | 17 => ⟨"StagedCompiler", "run", "(III)J"⟩
  | 18 => ⟨"StagedCompiler", "count", "(I)I"⟩
  | 19 => ⟨"StagedCompiler$Program", "hasNode", "(I)Z"⟩
  | 20 => ⟨"StagedCompiler$Program", "hasFunction", "(I)Z"⟩
  | 21 => ⟨"StagedCompiler$Program", "addNode", "(IIII)I"⟩
  | 22 => ⟨"StagedCompiler$Program", "hasOperands", "(IIII)Z"⟩
  | 23 => ⟨"StagedCompiler$Program", "mayBeArgument", "(I)Z"⟩
  | 24 => ⟨"StagedCompiler$Program", "levelAbove", "(IIII)I"⟩
  | 25 => ⟨"StagedCompiler$Program", "levelOfArgument", "(I)I"⟩
  | 26 => ⟨"StagedCompiler$Program", "addFunction", "(IIIII)I"⟩
  | 27 => ⟨"StagedCompiler$Program", "nodesLeftToRun", "(LStagedCompiler$Instance;)I"⟩
  | 28 => ⟨"StagedCompiler$Compilation", "hasInstance", "(I)Z"⟩
  | 29 => ⟨"StagedCompiler$Compilation", "compileAll", "(IJJ)I"⟩
  | 30 => ⟨"StagedCompiler$Compilation", "fail", "(III)Z"⟩
  | 31 => ⟨"StagedCompiler$Compilation", "want", "(IJJ)I"⟩
  | 32 => ⟨"StagedCompiler$Compilation", "passes", "(LStagedCompiler$Instance;III)Z"⟩
  | 33 => ⟨"StagedCompiler$Compilation", "look", "(LStagedCompiler$Instance;I)Z"⟩
  | 34 => ⟨"StagedCompiler$Compilation", "lookAtParameter", "(LStagedCompiler$Instance;I)Z"⟩
  | 35 => ⟨"StagedCompiler$Compilation", "lookAtPair", "(LStagedCompiler$Instance;I)Z"⟩
  | 36 => ⟨"StagedCompiler$Compilation", "fits", "(LStagedCompiler$Instance;III)Z"⟩
  | 37 => ⟨"StagedCompiler$Compilation", "fittedType", "(LStagedCompiler$Instance;II)I"⟩
  | 38 => ⟨"StagedCompiler$Compilation", "lookAtIf", "(LStagedCompiler$Instance;I)Z"⟩
  | 39 => ⟨"StagedCompiler$Compilation", "lookAtCast", "(LStagedCompiler$Instance;I)Z"⟩
  | 40 => ⟨"StagedCompiler$Compilation", "lookAtCall", "(LStagedCompiler$Instance;I)Z"⟩
  | 41 => ⟨"StagedCompiler$Compilation", "isGivenAsDue", "(II)Z"⟩
  | 42 => ⟨"StagedCompiler$Compilation", "isCountIfDue", "(LStagedCompiler$Instance;II)Z"⟩
  | 43 => ⟨"StagedCompiler$Compilation", "valueOfArgument", "(LStagedCompiler$Instance;I)J"⟩
  | 44 => ⟨"StagedCompiler$Compilation", "passesArgument", "(LStagedCompiler$Instance;III)Z"⟩
  | 45 => ⟨"StagedCompiler$Compilation", "lookAtWidth", "(LStagedCompiler$Instance;I)Z"⟩
  | 46 => ⟨"StagedCompiler$Instance", "begin", "(LStagedCompiler$Program;IJJ)Z"⟩
  | 47 => ⟨"StagedCompiler$Instance", "typeByCode", "(I)I"⟩
  | 48 => ⟨"StagedCompiler$Instance", "isOf", "(IJJ)Z"⟩
  | 49 => ⟨"StagedCompiler$Instance", "hasCount", "(IJ)Z"⟩
  | 50 => ⟨"StagedCompiler$Instance", "isRunParameter", "(I)Z"⟩
  | 51 => ⟨"StagedCompiler$Instance", "takes", "(IJ)Z"⟩
  | 52 => ⟨"StagedCompiler$Instance", "wasLookedAt", "(I)Z"⟩
  | 53 => ⟨"StagedCompiler$Instance", "find", "(II)Z"⟩
  | 54 => ⟨"StagedCompiler$Instance", "findKnown", "(IIJ)Z"⟩
  | 55 => ⟨"StagedCompiler$Instance", "findSameAs", "(II)Z"⟩
  | 56 => ⟨"StagedCompiler$Machine", "runBody", "(LStagedCompiler$Instance;JJ)J"⟩
  | 57 => ⟨"StagedCompiler$Machine", "runNode", "(LStagedCompiler$Instance;IJJI)J"⟩
  | 58 => ⟨"StagedCompiler$Machine", "runPair", "(LStagedCompiler$Instance;IJJI)J"⟩
  | 59 => ⟨"StagedCompiler$Machine", "runIf", "(LStagedCompiler$Instance;IJJI)J"⟩
  | 60 => ⟨"StagedCompiler$Machine", "runCast", "(LStagedCompiler$Instance;IJJI)J"⟩
  | 61 => ⟨"StagedCompiler$Machine", "runCall", "(LStagedCompiler$Instance;IJJI)J"⟩
  | 62 => ⟨"StagedCompilerModel", "wide", "(I)Z"⟩
  | 63 => ⟨"StagedCompilerModel", "isIntCode", "(I)Z"⟩
  | 64 => ⟨"StagedCompilerModel", "isCode", "(I)Z"⟩
  | 65 => ⟨"StagedCompilerModel", "isNode", "(I)Z"⟩
  | 66 => ⟨"StagedCompilerModel", "levelOf", "(I)I"⟩
  | 67 => ⟨"StagedCompilerModel", "above", "(III)I"⟩
  | 68 => ⟨"StagedCompilerModel", "node", "(IIII)I"⟩
  | 69 => ⟨"StagedCompilerModel", "define", "(IIIII)I"⟩
  | 70 => ⟨"StagedCompilerModel", "typeIn", "(II)I"⟩
  | 71 => ⟨"StagedCompilerModel", "isInt", "(I)Z"⟩
  | 72 => ⟨"StagedCompilerModel", "low", "(I)J"⟩
  | 73 => ⟨"StagedCompilerModel", "high", "(I)J"⟩
  | 74 => ⟨"StagedCompilerModel", "fitsIn", "(IJ)Z"⟩
  | 75 => ⟨"StagedCompilerModel", "fail", "(III)I"⟩
  | 76 => ⟨"StagedCompilerModel", "codeOf", "(II)I"⟩
  | 77 => ⟨"StagedCompilerModel", "argsWrong", "(I)Z"⟩
  | 78 => ⟨"StagedCompilerModel", "needs", "(II)I"⟩
  | 79 => ⟨"StagedCompilerModel", "found", "(IIIZJ)V"⟩
  | 80 => ⟨"StagedCompilerModel", "fit", "(IIII)I"⟩
  | 81 => ⟨"StagedCompilerModel", "reckon", "(IIJJ)J"⟩
  | 82 => ⟨"StagedCompilerModel", "lookTwo", "(II)V"⟩
  | 83 => ⟨"StagedCompilerModel", "lookIf", "(II)V"⟩
  | 84 => ⟨"StagedCompilerModel", "lookCast", "(II)V"⟩
  | 85 => ⟨"StagedCompilerModel", "want", "(IIIJJ)I"⟩
  | 86 => ⟨"StagedCompilerModel", "same", "(IIJJ)Z"⟩
  | 87 => ⟨"StagedCompilerModel", "goes", "(IIII)Z"⟩
  | 88 => ⟨"StagedCompilerModel", "lookCall", "(II)V"⟩
  | 89 => ⟨"StagedCompilerModel", "look", "(II)V"⟩
  | 90 => ⟨"StagedCompilerModel", "lookAtBody", "(I)V"⟩
  | 91 => ⟨"StagedCompilerModel", "compile", "(III)I"⟩
  | 92 => ⟨"StagedCompilerModel", "errorAt", "()I"⟩
  | 93 => ⟨"StagedCompilerModel", "enter", "(I)V"⟩
  | 94 => ⟨"StagedCompilerModel", "leave", "(J)V"⟩
  | 95 => ⟨"StagedCompilerModel", "stepTwo", "(I)V"⟩
  | 96 => ⟨"StagedCompilerModel", "stepIf", "(I)V"⟩
  | 97 => ⟨"StagedCompilerModel", "stepCast", "(I)V"⟩
  | 98 => ⟨"StagedCompilerModel", "stepCall", "(I)V"⟩
  | 99 => ⟨"StagedCompilerModel", "misfits", "(III)Z"⟩
  | 100 => ⟨"StagedCompilerModel", "run", "(III)J"⟩
  | 101 => ⟨"StagedCompilerModel", "none", "(I)Z"⟩
  | 102 => ⟨"StagedCompilerModel", "functionOf", "(I)I"⟩
  | 103 => ⟨"StagedCompilerModel", "countOf", "(II)J"⟩
  | 104 => ⟨"StagedCompilerModel", "typeOf", "(II)I"⟩
  | 105 => ⟨"StagedCompilerModel", "known", "(II)J"⟩
  | 106 => ⟨"StagedCompilerModel", "size", "(I)I"⟩
  | 107 => ⟨"StagedCompilerModel", "count", "(I)I"⟩
  | 108 => ⟨"StagedCompiler$Kind", "isOne", "(I)Z"⟩
  | 109 => ⟨"StagedCompiler$Kind", "isWrapOrClamp", "(I)Z"⟩
  | 110 => ⟨"StagedCompiler$Kind", "isComparison", "(I)Z"⟩
  | 111 => ⟨"StagedCompiler$Kind", "countsForSize", "(I)Z"⟩
  | 112 => ⟨"StagedCompiler$Types", "isInt", "(I)Z"⟩
  | 113 => ⟨"StagedCompiler$Types", "isByParameter", "(I)Z"⟩
  | 114 => ⟨"StagedCompiler$Types", "isCastCode", "(I)Z"⟩
  | 115 => ⟨"StagedCompiler$Types", "isResultCode", "(I)Z"⟩
  | 116 => ⟨"StagedCompiler$Types", "isParameterCode", "(I)Z"⟩
  | 117 => ⟨"StagedCompiler$Types", "lowest", "(I)J"⟩
  | 118 => ⟨"StagedCompiler$Types", "highest", "(I)J"⟩
  | 119 => ⟨"StagedCompiler$Types", "holds", "(IJ)Z"⟩
  | 120 => ⟨"StagedCompiler$Arithmetic", "isTrap", "(J)Z"⟩
  | 121 => ⟨"StagedCompiler$Arithmetic", "work", "(IIJJ)J"⟩
  | 122 => ⟨"StagedCompiler$Arithmetic", "checked", "(IJ)J"⟩
  | 123 => ⟨"StagedCompiler$Arithmetic", "wrapped", "(IJ)J"⟩
  | _ => ⟨"StagedCompiler$Arithmetic", "clamped", "(IJ)J"⟩
def mm_cc (id : Nat) : ByteArray := match id with
  | 0 => prog_1_method_1_code
  | 1 => prog_7_method_1_code
  | 2 => prog_3_method_1_code
  | 3 => prog_4_method_1_code
  | 4 => prog_6_method_1_code
  | 5 => prog_10_method_1_code
  | 6 => prog_1_method_1_code
  | 7 => prog_1_method_1_code
  | 8 => prog_1_method_2_code
  | 9 => prog_1_method_3_code
  | 10 => prog_1_method_4_code
  | 11 => prog_1_method_5_code
  | 12 => prog_1_method_6_code
  | 13 => prog_1_method_7_code
  | 14 => prog_1_method_8_code
  | 15 => prog_1_method_9_code
  | 16 => prog_1_method_10_code
  | 17 => prog_1_method_11_code
  | 18 => prog_1_method_12_code
  | 19 => prog_7_method_2_code
  | 20 => prog_7_method_3_code
  | 21 => prog_7_method_4_code
  | 22 => prog_7_method_5_code
  | 23 => prog_7_method_6_code
  | 24 => prog_7_method_7_code
  | 25 => prog_7_method_8_code
  | 26 => prog_7_method_9_code
  | 27 => prog_7_method_10_code
  | 28 => prog_3_method_2_code
  | 29 => prog_3_method_3_code
  | 30 => prog_3_method_4_code
  | 31 => prog_3_method_5_code
  | 32 => prog_3_method_6_code
  | 33 => prog_3_method_7_code
  | 34 => prog_3_method_8_code
  | 35 => prog_3_method_9_code
  | 36 => prog_3_method_10_code
  | 37 => prog_3_method_11_code
  | 38 => prog_3_method_12_code
  | 39 => prog_3_method_13_code
  | 40 => prog_3_method_14_code
  | 41 => prog_3_method_15_code
  | 42 => prog_3_method_16_code
  | 43 => prog_3_method_17_code
  | 44 => prog_3_method_18_code
  | 45 => prog_3_method_19_code
  | 46 => prog_4_method_2_code
  | 47 => prog_4_method_3_code
  | 48 => prog_4_method_4_code
  | 49 => prog_4_method_5_code
  | 50 => prog_4_method_6_code
  | 51 => prog_4_method_7_code
  | 52 => prog_4_method_8_code
  | 53 => prog_4_method_9_code
  | 54 => prog_4_method_10_code
  | 55 => prog_4_method_11_code
  | 56 => prog_6_method_2_code
  | 57 => prog_6_method_3_code
  | 58 => prog_6_method_4_code
  | 59 => prog_6_method_5_code
  | 60 => prog_6_method_6_code
  | 61 => prog_6_method_7_code
  | 62 => prog_10_method_2_code
  | 63 => prog_10_method_3_code
  | 64 => prog_10_method_4_code
  | 65 => prog_10_method_5_code
  | 66 => prog_10_method_6_code
  | 67 => prog_10_method_7_code
  | 68 => prog_10_method_8_code
  | 69 => prog_10_method_9_code
  | 70 => prog_10_method_10_code
  | 71 => prog_10_method_11_code
  | 72 => prog_10_method_12_code
  | 73 => prog_10_method_13_code
  | 74 => prog_10_method_14_code
  | 75 => prog_10_method_15_code
  | 76 => prog_10_method_16_code
  | 77 => prog_10_method_17_code
  | 78 => prog_10_method_18_code
  | 79 => prog_10_method_19_code
  | 80 => prog_10_method_20_code
  | 81 => prog_10_method_21_code
  | 82 => prog_10_method_22_code
  | 83 => prog_10_method_23_code
  | 84 => prog_10_method_24_code
  | 85 => prog_10_method_25_code
  | 86 => prog_10_method_26_code
  | 87 => prog_10_method_27_code
  | 88 => prog_10_method_28_code
  | 89 => prog_10_method_29_code
  | 90 => prog_10_method_30_code
  | 91 => prog_10_method_31_code
  | 92 => prog_10_method_32_code
  | 93 => prog_10_method_33_code
  | 94 => prog_10_method_34_code
  | 95 => prog_10_method_35_code
  | 96 => prog_10_method_36_code
  | 97 => prog_10_method_37_code
  | 98 => prog_10_method_38_code
  | 99 => prog_10_method_39_code
  | 100 => prog_10_method_40_code
  | 101 => prog_10_method_41_code
  | 102 => prog_10_method_42_code
  | 103 => prog_10_method_43_code
  | 104 => prog_10_method_44_code
  | 105 => prog_10_method_45_code
  | 106 => prog_10_method_46_code
  | 107 => prog_10_method_47_code
  | 108 => prog_5_method_2_code
  | 109 => prog_5_method_3_code
  | 110 => prog_5_method_4_code
  | 111 => prog_5_method_5_code
  | 112 => prog_8_method_2_code
  | 113 => prog_8_method_3_code
  | 114 => prog_8_method_4_code
  | 115 => prog_8_method_5_code
  | 116 => prog_8_method_6_code
  | 117 => prog_8_method_7_code
  | 118 => prog_8_method_8_code
  | 119 => prog_8_method_9_code
  | 120 => prog_2_method_2_code
  | 121 => prog_2_method_3_code
  | 122 => prog_2_method_4_code
  | 123 => prog_2_method_5_code
  | _ => prog_2_method_6_code
def mm_ml (id : Nat) : Nat := match id with
  | 0 => 3
  | 1 => 1
  | 2 => 3
  | 3 => 1
  | 4 => 3
  | 5 => 1
  | 6 => 3
  | 7 => 3
  | 8 => 5
  | 9 => 6
  | 10 => 4
  | 11 => 1
  | 12 => 2
  | 13 => 4
  | 14 => 3
  | 15 => 4
  | 16 => 2
  | 17 => 5
  | 18 => 2
  | 19 => 2
  | 20 => 2
  | 21 => 7
  | 22 => 5
  | 23 => 2
  | 24 => 5
  | 25 => 2
  | 26 => 6
  | 27 => 4
  | 28 => 2
  | 29 => 11
  | 30 => 4
  | 31 => 7
  | 32 => 5
  | 33 => 3
  | 34 => 5
  | 35 => 10
  | 36 => 5
  | 37 => 4
  | 38 => 7
  | 39 => 5
  | 40 => 8
  | 41 => 3
  | 42 => 4
  | 43 => 3
  | 44 => 5
  | 45 => 5
  | 46 => 8
  | 47 => 4
  | 48 => 6
  | 49 => 4
  | 50 => 2
  | 51 => 4
  | 52 => 2
  | 53 => 3
  | 54 => 5
  | 55 => 3
  | 56 => 6
  | 57 => 8
  | 58 => 12
  | 59 => 12
  | 60 => 10
  | 61 => 13
  | 62 => 2
  | 63 => 2
  | 64 => 2
  | 65 => 2
  | 66 => 2
  | 67 => 5
  | 68 => 8
  | 69 => 6
  | 70 => 7
  | 71 => 2
  | 72 => 2
  | 73 => 2
  | 74 => 4
  | 75 => 4
  | 76 => 3
  | 77 => 3
  | 78 => 7
  | 79 => 7
  | 80 => 8
  | 81 => 14
  | 82 => 10
  | 83 => 5
  | 84 => 5
  | 85 => 12
  | 86 => 7
  | 87 => 7
  | 88 => 10
  | 89 => 6
  | 90 => 6
  | 91 => 5
  | 92 => 1
  | 93 => 3
  | 94 => 3
  | 95 => 3
  | 96 => 4
  | 97 => 2
  | 98 => 5
  | 99 => 5
  | 100 => 7
  | 101 => 2
  | 102 => 2
  | 103 => 3
  | 104 => 3
  | 105 => 3
  | 106 => 4
  | 107 => 4
  | 108 => 1
  | 109 => 1
  | 110 => 1
  | 111 => 1
  | 112 => 1
  | 113 => 1
  | 114 => 1
  | 115 => 1
  | 116 => 1
  | 117 => 1
  | 118 => 1
  | 119 => 3
  | 120 => 2
  | 121 => 6
  | 122 => 3
  | 123 => 4
  | _ => 3
def mm_rt (id : Nat) : Option FieldType := match id with
  | 0 => none
  | 1 => none
  | 2 => none
  | 3 => none
  | 4 => none
  | 5 => none
  | 6 => none
  | 7 => none
  | 8 => some .int
  | 9 => some .int
  | 10 => some .int
  | 11 => some .int
  | 12 => some .int
  | 13 => some .long
  | 14 => some .int
  | 15 => some .long
  | 16 => some .int
  | 17 => some .long
  | 18 => some .int
  | 19 => some .boolean
  | 20 => some .boolean
  | 21 => some .int
  | 22 => some .boolean
  | 23 => some .boolean
  | 24 => some .int
  | 25 => some .int
  | 26 => some .int
  | 27 => some .int
  | 28 => some .boolean
  | 29 => some .int
  | 30 => some .boolean
  | 31 => some .int
  | 32 => some .boolean
  | 33 => some .boolean
  | 34 => some .boolean
  | 35 => some .boolean
  | 36 => some .boolean
  | 37 => some .int
  | 38 => some .boolean
  | 39 => some .boolean
  | 40 => some .boolean
  | 41 => some .boolean
  | 42 => some .boolean
  | 43 => some .long
  | 44 => some .boolean
  | 45 => some .boolean
  | 46 => some .boolean
  | 47 => some .int
  | 48 => some .boolean
  | 49 => some .boolean
  | 50 => some .boolean
  | 51 => some .boolean
  | 52 => some .boolean
  | 53 => some .boolean
  | 54 => some .boolean
  | 55 => some .boolean
  | 56 => some .long
  | 57 => some .long
  | 58 => some .long
  | 59 => some .long
  | 60 => some .long
  | 61 => some .long
  | 62 => some .boolean
  | 63 => some .boolean
  | 64 => some .boolean
  | 65 => some .boolean
  | 66 => some .int
  | 67 => some .int
  | 68 => some .int
  | 69 => some .int
  | 70 => some .int
  | 71 => some .boolean
  | 72 => some .long
  | 73 => some .long
  | 74 => some .boolean
  | 75 => some .int
  | 76 => some .int
  | 77 => some .boolean
  | 78 => some .int
  | 79 => none
  | 80 => some .int
  | 81 => some .long
  | 82 => none
  | 83 => none
  | 84 => none
  | 85 => some .int
  | 86 => some .boolean
  | 87 => some .boolean
  | 88 => none
  | 89 => none
  | 90 => none
  | 91 => some .int
  | 92 => some .int
  | 93 => none
  | 94 => none
  | 95 => none
  | 96 => none
  | 97 => none
  | 98 => none
  | 99 => some .boolean
  | 100 => some .long
  | 101 => some .boolean
  | 102 => some .int
  | 103 => some .long
  | 104 => some .int
  | 105 => some .long
  | 106 => some .int
  | 107 => some .int
  | 108 => some .boolean
  | 109 => some .boolean
  | 110 => some .boolean
  | 111 => some .boolean
  | 112 => some .boolean
  | 113 => some .boolean
  | 114 => some .boolean
  | 115 => some .boolean
  | 116 => some .boolean
  | 117 => some .long
  | 118 => some .long
  | 119 => some .boolean
  | 120 => some .boolean
  | 121 => some .long
  | 122 => some .long
  | 123 => some .long
  | _ => some .long
def mm_mo (id : Nat) : Nat := match id with
  | 0 => 0
  | 1 => 1
  | 2 => 2
  | 3 => 3
  | 4 => 4
  | 5 => 5
  | 6 => 0
  | 7 => 0
  | 8 => 0
  | 9 => 0
  | 10 => 0
  | 11 => 0
  | 12 => 0
  | 13 => 0
  | 14 => 0
  | 15 => 0
  | 16 => 0
  | 17 => 0
  | 18 => 0
  | 19 => 1
  | 20 => 1
  | 21 => 1
  | 22 => 1
  | 23 => 1
  | 24 => 1
  | 25 => 1
  | 26 => 1
  | 27 => 1
  | 28 => 2
  | 29 => 2
  | 30 => 2
  | 31 => 2
  | 32 => 2
  | 33 => 2
  | 34 => 2
  | 35 => 2
  | 36 => 2
  | 37 => 2
  | 38 => 2
  | 39 => 2
  | 40 => 2
  | 41 => 2
  | 42 => 2
  | 43 => 2
  | 44 => 2
  | 45 => 2
  | 46 => 3
  | 47 => 3
  | 48 => 3
  | 49 => 3
  | 50 => 3
  | 51 => 3
  | 52 => 3
  | 53 => 3
  | 54 => 3
  | 55 => 3
  | 56 => 4
  | 57 => 4
  | 58 => 4
  | 59 => 4
  | 60 => 4
  | 61 => 4
  | 62 => 5
  | 63 => 5
  | 64 => 5
  | 65 => 5
  | 66 => 5
  | 67 => 5
  | 68 => 5
  | 69 => 5
  | 70 => 5
  | 71 => 5
  | 72 => 5
  | 73 => 5
  | 74 => 5
  | 75 => 5
  | 76 => 5
  | 77 => 5
  | 78 => 5
  | 79 => 5
  | 80 => 5
  | 81 => 5
  | 82 => 5
  | 83 => 5
  | 84 => 5
  | 85 => 5
  | 86 => 5
  | 87 => 5
  | 88 => 5
  | 89 => 5
  | 90 => 5
  | 91 => 5
  | 92 => 5
  | 93 => 5
  | 94 => 5
  | 95 => 5
  | 96 => 5
  | 97 => 5
  | 98 => 5
  | 99 => 5
  | 100 => 5
  | 101 => 5
  | 102 => 5
  | 103 => 5
  | 104 => 5
  | 105 => 5
  | 106 => 5
  | 107 => 5
  | 108 => 6
  | 109 => 6
  | 110 => 6
  | 111 => 6
  | 112 => 7
  | 113 => 7
  | 114 => 7
  | 115 => 7
  | 116 => 7
  | 117 => 7
  | 118 => 7
  | 119 => 7
  | 120 => 8
  | 121 => 8
  | 122 => 8
  | 123 => 8
  | _ => 8
def mm_mk (id : Nat) : Nat := mm_mo id
def mm_ic (id : Nat) : Bool := decide (id < 8)
def mm_al (id : Nat) : Bool := decide (id < 8)
def mm_mc (id : Nat) : Nat := match id with
  | 0 => 154
  | 1 => 10
  | 2 => 141
  | 3 => 6
  | 4 => 0
  | 5 => 27
  | _ => 0
def mm_ms (id : Nat) : Nat := match id with
  | 0 => 5421
  | 1 => 340
  | 2 => 5060
  | 3 => 244
  | 4 => 0
  | 5 => 6717
  | _ => 0
theorem mm_mch {id : Nat} (h : 8 ≤ id) : mm_mc id = 0 := by
  unfold mm_mc
  split <;> first | omega | rfl
theorem mm_msh {id : Nat} (h : 8 ≤ id) : mm_ms id = 0 := by
  unfold mm_ms
  split <;> first | omega | rfl
theorem mm_alh {id : Nat} (h : 8 ≤ id) : mm_al id = false := by
  unfold mm_al
  exact decide_eq_false (by omega)
