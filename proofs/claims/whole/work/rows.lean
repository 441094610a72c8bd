section
-- ===== PART A: goes FIRST, ahead of the names: the tables' words, and 'selects' of the private methods out of them =====
/-- a private method of a class that the tables say can be made, by its rows of tables_1 -/
def lw_okq (q : MethodName × Nat) : Prop := (q.1.cls ≠ "java/lang/invoke/MethodHandle" ∧ q.1.cls ≠ "java/lang/invoke/VarHandle") ∧ Cond.instantiable q.1.cls q.2 ∈ tables_1 ∧ Cond.privateMethod q.1 ∈ tables_1 ∧ Cond.instanceMethod q.1 ∈ tables_1
theorem lw_p0 : lw_okq (⟨"StagedCompiler$Program", "addNode", "(IIII)I"⟩, 12) := ⟨⟨by decide +kernel, by decide +kernel⟩, List.mem_of_getElem? (i := 20) (by decide +kernel), List.mem_of_getElem? (i := 194) (by decide +kernel), List.mem_of_getElem? (i := 195) (by decide +kernel)⟩
theorem lw_p1 : lw_okq (⟨"StagedCompiler$Program", "hasOperands", "(IIII)Z"⟩, 12) := ⟨⟨by decide +kernel, by decide +kernel⟩, List.mem_of_getElem? (i := 20) (by decide +kernel), List.mem_of_getElem? (i := 201) (by decide +kernel), List.mem_of_getElem? (i := 202) (by decide +kernel)⟩
theorem lw_p2 : lw_okq (⟨"StagedCompiler$Program", "hasNode", "(I)Z"⟩, 12) := ⟨⟨by decide +kernel, by decide +kernel⟩, List.mem_of_getElem? (i := 20) (by decide +kernel), List.mem_of_getElem? (i := 205) (by decide +kernel), List.mem_of_getElem? (i := 206) (by decide +kernel)⟩
theorem lw_p3 : lw_okq (⟨"StagedCompiler$Program", "mayBeArgument", "(I)Z"⟩, 12) := ⟨⟨by decide +kernel, by decide +kernel⟩, List.mem_of_getElem? (i := 20) (by decide +kernel), List.mem_of_getElem? (i := 218) (by decide +kernel), List.mem_of_getElem? (i := 219) (by decide +kernel)⟩
theorem lw_p4 : lw_okq (⟨"StagedCompiler$Program", "levelAbove", "(IIII)I"⟩, 12) := ⟨⟨by decide +kernel, by decide +kernel⟩, List.mem_of_getElem? (i := 20) (by decide +kernel), List.mem_of_getElem? (i := 222) (by decide +kernel), List.mem_of_getElem? (i := 223) (by decide +kernel)⟩
theorem lw_p5 : lw_okq (⟨"StagedCompiler$Program", "levelOfArgument", "(I)I"⟩, 12) := ⟨⟨by decide +kernel, by decide +kernel⟩, List.mem_of_getElem? (i := 20) (by decide +kernel), List.mem_of_getElem? (i := 229) (by decide +kernel), List.mem_of_getElem? (i := 230) (by decide +kernel)⟩
theorem lw_p6 : lw_okq (⟨"StagedCompiler$Program", "addFunction", "(IIIII)I"⟩, 12) := ⟨⟨by decide +kernel, by decide +kernel⟩, List.mem_of_getElem? (i := 20) (by decide +kernel), List.mem_of_getElem? (i := 237) (by decide +kernel), List.mem_of_getElem? (i := 238) (by decide +kernel)⟩
theorem lw_p7 : lw_okq (⟨"StagedCompiler$Program", "hasFunction", "(I)Z"⟩, 12) := ⟨⟨by decide +kernel, by decide +kernel⟩, List.mem_of_getElem? (i := 20) (by decide +kernel), List.mem_of_getElem? (i := 253) (by decide +kernel), List.mem_of_getElem? (i := 254) (by decide +kernel)⟩
theorem lw_p8 : lw_okq (⟨"StagedCompiler$Compilation", "compileAll", "(IJJ)I"⟩, 5) := ⟨⟨by decide +kernel, by decide +kernel⟩, List.mem_of_getElem? (i := 82) (by decide +kernel), List.mem_of_getElem? (i := 257) (by decide +kernel), List.mem_of_getElem? (i := 258) (by decide +kernel)⟩
theorem lw_p9 : lw_okq (⟨"StagedCompiler$Compilation", "want", "(IJJ)I"⟩, 5) := ⟨⟨by decide +kernel, by decide +kernel⟩, List.mem_of_getElem? (i := 82) (by decide +kernel), List.mem_of_getElem? (i := 261) (by decide +kernel), List.mem_of_getElem? (i := 262) (by decide +kernel)⟩
theorem lw_p10 : lw_okq (⟨"StagedCompiler$Instance", "isOf", "(IJJ)Z"⟩, 8) := ⟨⟨by decide +kernel, by decide +kernel⟩, List.mem_of_getElem? (i := 89) (by decide +kernel), List.mem_of_getElem? (i := 265) (by decide +kernel), List.mem_of_getElem? (i := 266) (by decide +kernel)⟩
theorem lw_p11 : lw_okq (⟨"StagedCompiler$Instance", "hasCount", "(IJ)Z"⟩, 8) := ⟨⟨by decide +kernel, by decide +kernel⟩, List.mem_of_getElem? (i := 89) (by decide +kernel), List.mem_of_getElem? (i := 269) (by decide +kernel), List.mem_of_getElem? (i := 270) (by decide +kernel)⟩
theorem lw_p12 : lw_okq (⟨"StagedCompiler$Instance", "begin", "(LStagedCompiler$Program;IJJ)Z"⟩, 8) := ⟨⟨by decide +kernel, by decide +kernel⟩, List.mem_of_getElem? (i := 89) (by decide +kernel), List.mem_of_getElem? (i := 273) (by decide +kernel), List.mem_of_getElem? (i := 274) (by decide +kernel)⟩
theorem lw_p13 : lw_okq (⟨"StagedCompiler$Instance", "typeByCode", "(I)I"⟩, 8) := ⟨⟨by decide +kernel, by decide +kernel⟩, List.mem_of_getElem? (i := 89) (by decide +kernel), List.mem_of_getElem? (i := 277) (by decide +kernel), List.mem_of_getElem? (i := 278) (by decide +kernel)⟩
theorem lw_p14 : lw_okq (⟨"StagedCompiler$Compilation", "fail", "(III)Z"⟩, 5) := ⟨⟨by decide +kernel, by decide +kernel⟩, List.mem_of_getElem? (i := 82) (by decide +kernel), List.mem_of_getElem? (i := 283) (by decide +kernel), List.mem_of_getElem? (i := 284) (by decide +kernel)⟩
theorem lw_p15 : lw_okq (⟨"StagedCompiler$Compilation", "look", "(LStagedCompiler$Instance;I)Z"⟩, 5) := ⟨⟨by decide +kernel, by decide +kernel⟩, List.mem_of_getElem? (i := 82) (by decide +kernel), List.mem_of_getElem? (i := 287) (by decide +kernel), List.mem_of_getElem? (i := 288) (by decide +kernel)⟩
def lw_privs_1 : List (MethodName × Nat) := [(⟨"StagedCompiler$Program", "addNode", "(IIII)I"⟩, 12), (⟨"StagedCompiler$Program", "hasOperands", "(IIII)Z"⟩, 12), (⟨"StagedCompiler$Program", "hasNode", "(I)Z"⟩, 12), (⟨"StagedCompiler$Program", "mayBeArgument", "(I)Z"⟩, 12), (⟨"StagedCompiler$Program", "levelAbove", "(IIII)I"⟩, 12), (⟨"StagedCompiler$Program", "levelOfArgument", "(I)I"⟩, 12), (⟨"StagedCompiler$Program", "addFunction", "(IIIII)I"⟩, 12), (⟨"StagedCompiler$Program", "hasFunction", "(I)Z"⟩, 12), (⟨"StagedCompiler$Compilation", "compileAll", "(IJJ)I"⟩, 5), (⟨"StagedCompiler$Compilation", "want", "(IJJ)I"⟩, 5), (⟨"StagedCompiler$Instance", "isOf", "(IJJ)Z"⟩, 8), (⟨"StagedCompiler$Instance", "hasCount", "(IJ)Z"⟩, 8), (⟨"StagedCompiler$Instance", "begin", "(LStagedCompiler$Program;IJJ)Z"⟩, 8), (⟨"StagedCompiler$Instance", "typeByCode", "(I)I"⟩, 8), (⟨"StagedCompiler$Compilation", "fail", "(III)Z"⟩, 5), (⟨"StagedCompiler$Compilation", "look", "(LStagedCompiler$Instance;I)Z"⟩, 5)]
theorem lw_r1 : ∀ q ∈ lw_privs_1, lw_okq q := List.forall_mem_cons.mpr ⟨lw_p0, List.forall_mem_cons.mpr ⟨lw_p1, List.forall_mem_cons.mpr ⟨lw_p2, List.forall_mem_cons.mpr ⟨lw_p3, List.forall_mem_cons.mpr ⟨lw_p4, List.forall_mem_cons.mpr ⟨lw_p5, List.forall_mem_cons.mpr ⟨lw_p6, List.forall_mem_cons.mpr ⟨lw_p7, List.forall_mem_cons.mpr ⟨lw_p8, List.forall_mem_cons.mpr ⟨lw_p9, List.forall_mem_cons.mpr ⟨lw_p10, List.forall_mem_cons.mpr ⟨lw_p11, List.forall_mem_cons.mpr ⟨lw_p12, List.forall_mem_cons.mpr ⟨lw_p13, List.forall_mem_cons.mpr ⟨lw_p14, List.forall_mem_cons.mpr ⟨lw_p15, fun _ h => absurd h List.not_mem_nil⟩⟩⟩⟩⟩⟩⟩⟩⟩⟩⟩⟩⟩⟩⟩⟩
theorem lw_p16 : lw_okq (⟨"StagedCompiler$Instance", "wasLookedAt", "(I)Z"⟩, 8) := ⟨⟨by decide +kernel, by decide +kernel⟩, List.mem_of_getElem? (i := 89) (by decide +kernel), List.mem_of_getElem? (i := 291) (by decide +kernel), List.mem_of_getElem? (i := 292) (by decide +kernel)⟩
theorem lw_p17 : lw_okq (⟨"StagedCompiler$Instance", "findKnown", "(IIJ)Z"⟩, 8) := ⟨⟨by decide +kernel, by decide +kernel⟩, List.mem_of_getElem? (i := 89) (by decide +kernel), List.mem_of_getElem? (i := 295) (by decide +kernel), List.mem_of_getElem? (i := 296) (by decide +kernel)⟩
theorem lw_p18 : lw_okq (⟨"StagedCompiler$Compilation", "lookAtParameter", "(LStagedCompiler$Instance;I)Z"⟩, 5) := ⟨⟨by decide +kernel, by decide +kernel⟩, List.mem_of_getElem? (i := 82) (by decide +kernel), List.mem_of_getElem? (i := 299) (by decide +kernel), List.mem_of_getElem? (i := 300) (by decide +kernel)⟩
theorem lw_p19 : lw_okq (⟨"StagedCompiler$Instance", "find", "(II)Z"⟩, 8) := ⟨⟨by decide +kernel, by decide +kernel⟩, List.mem_of_getElem? (i := 89) (by decide +kernel), List.mem_of_getElem? (i := 303) (by decide +kernel), List.mem_of_getElem? (i := 304) (by decide +kernel)⟩
theorem lw_p20 : lw_okq (⟨"StagedCompiler$Compilation", "lookAtIf", "(LStagedCompiler$Instance;I)Z"⟩, 5) := ⟨⟨by decide +kernel, by decide +kernel⟩, List.mem_of_getElem? (i := 82) (by decide +kernel), List.mem_of_getElem? (i := 307) (by decide +kernel), List.mem_of_getElem? (i := 308) (by decide +kernel)⟩
theorem lw_p21 : lw_okq (⟨"StagedCompiler$Instance", "findSameAs", "(II)Z"⟩, 8) := ⟨⟨by decide +kernel, by decide +kernel⟩, List.mem_of_getElem? (i := 89) (by decide +kernel), List.mem_of_getElem? (i := 311) (by decide +kernel), List.mem_of_getElem? (i := 312) (by decide +kernel)⟩
theorem lw_p22 : lw_okq (⟨"StagedCompiler$Compilation", "fits", "(LStagedCompiler$Instance;III)Z"⟩, 5) := ⟨⟨by decide +kernel, by decide +kernel⟩, List.mem_of_getElem? (i := 82) (by decide +kernel), List.mem_of_getElem? (i := 315) (by decide +kernel), List.mem_of_getElem? (i := 316) (by decide +kernel)⟩
theorem lw_p23 : lw_okq (⟨"StagedCompiler$Compilation", "passes", "(LStagedCompiler$Instance;III)Z"⟩, 5) := ⟨⟨by decide +kernel, by decide +kernel⟩, List.mem_of_getElem? (i := 82) (by decide +kernel), List.mem_of_getElem? (i := 319) (by decide +kernel), List.mem_of_getElem? (i := 320) (by decide +kernel)⟩
theorem lw_p24 : lw_okq (⟨"StagedCompiler$Compilation", "fittedType", "(LStagedCompiler$Instance;II)I"⟩, 5) := ⟨⟨by decide +kernel, by decide +kernel⟩, List.mem_of_getElem? (i := 82) (by decide +kernel), List.mem_of_getElem? (i := 335) (by decide +kernel), List.mem_of_getElem? (i := 336) (by decide +kernel)⟩
theorem lw_p25 : lw_okq (⟨"StagedCompiler$Compilation", "lookAtCast", "(LStagedCompiler$Instance;I)Z"⟩, 5) := ⟨⟨by decide +kernel, by decide +kernel⟩, List.mem_of_getElem? (i := 82) (by decide +kernel), List.mem_of_getElem? (i := 339) (by decide +kernel), List.mem_of_getElem? (i := 340) (by decide +kernel)⟩
theorem lw_p26 : lw_okq (⟨"StagedCompiler$Compilation", "lookAtCall", "(LStagedCompiler$Instance;I)Z"⟩, 5) := ⟨⟨by decide +kernel, by decide +kernel⟩, List.mem_of_getElem? (i := 82) (by decide +kernel), List.mem_of_getElem? (i := 344) (by decide +kernel), List.mem_of_getElem? (i := 345) (by decide +kernel)⟩
theorem lw_p27 : lw_okq (⟨"StagedCompiler$Compilation", "isGivenAsDue", "(II)Z"⟩, 5) := ⟨⟨by decide +kernel, by decide +kernel⟩, List.mem_of_getElem? (i := 82) (by decide +kernel), List.mem_of_getElem? (i := 349) (by decide +kernel), List.mem_of_getElem? (i := 350) (by decide +kernel)⟩
theorem lw_p28 : lw_okq (⟨"StagedCompiler$Compilation", "isCountIfDue", "(LStagedCompiler$Instance;II)Z"⟩, 5) := ⟨⟨by decide +kernel, by decide +kernel⟩, List.mem_of_getElem? (i := 82) (by decide +kernel), List.mem_of_getElem? (i := 353) (by decide +kernel), List.mem_of_getElem? (i := 354) (by decide +kernel)⟩
theorem lw_p29 : lw_okq (⟨"StagedCompiler$Compilation", "valueOfArgument", "(LStagedCompiler$Instance;I)J"⟩, 5) := ⟨⟨by decide +kernel, by decide +kernel⟩, List.mem_of_getElem? (i := 82) (by decide +kernel), List.mem_of_getElem? (i := 357) (by decide +kernel), List.mem_of_getElem? (i := 358) (by decide +kernel)⟩
theorem lw_p30 : lw_okq (⟨"StagedCompiler$Compilation", "passesArgument", "(LStagedCompiler$Instance;III)Z"⟩, 5) := ⟨⟨by decide +kernel, by decide +kernel⟩, List.mem_of_getElem? (i := 82) (by decide +kernel), List.mem_of_getElem? (i := 361) (by decide +kernel), List.mem_of_getElem? (i := 362) (by decide +kernel)⟩
theorem lw_p31 : lw_okq (⟨"StagedCompiler$Compilation", "lookAtWidth", "(LStagedCompiler$Instance;I)Z"⟩, 5) := ⟨⟨by decide +kernel, by decide +kernel⟩, List.mem_of_getElem? (i := 82) (by decide +kernel), List.mem_of_getElem? (i := 365) (by decide +kernel), List.mem_of_getElem? (i := 366) (by decide +kernel)⟩
def lw_privs_2 : List (MethodName × Nat) := [(⟨"StagedCompiler$Instance", "wasLookedAt", "(I)Z"⟩, 8), (⟨"StagedCompiler$Instance", "findKnown", "(IIJ)Z"⟩, 8), (⟨"StagedCompiler$Compilation", "lookAtParameter", "(LStagedCompiler$Instance;I)Z"⟩, 5), (⟨"StagedCompiler$Instance", "find", "(II)Z"⟩, 8), (⟨"StagedCompiler$Compilation", "lookAtIf", "(LStagedCompiler$Instance;I)Z"⟩, 5), (⟨"StagedCompiler$Instance", "findSameAs", "(II)Z"⟩, 8), (⟨"StagedCompiler$Compilation", "fits", "(LStagedCompiler$Instance;III)Z"⟩, 5), (⟨"StagedCompiler$Compilation", "passes", "(LStagedCompiler$Instance;III)Z"⟩, 5), (⟨"StagedCompiler$Compilation", "fittedType", "(LStagedCompiler$Instance;II)I"⟩, 5), (⟨"StagedCompiler$Compilation", "lookAtCast", "(LStagedCompiler$Instance;I)Z"⟩, 5), (⟨"StagedCompiler$Compilation", "lookAtCall", "(LStagedCompiler$Instance;I)Z"⟩, 5), (⟨"StagedCompiler$Compilation", "isGivenAsDue", "(II)Z"⟩, 5), (⟨"StagedCompiler$Compilation", "isCountIfDue", "(LStagedCompiler$Instance;II)Z"⟩, 5), (⟨"StagedCompiler$Compilation", "valueOfArgument", "(LStagedCompiler$Instance;I)J"⟩, 5), (⟨"StagedCompiler$Compilation", "passesArgument", "(LStagedCompiler$Instance;III)Z"⟩, 5), (⟨"StagedCompiler$Compilation", "lookAtWidth", "(LStagedCompiler$Instance;I)Z"⟩, 5)]
theorem lw_r2 : ∀ q ∈ lw_privs_2, lw_okq q := List.forall_mem_cons.mpr ⟨lw_p16, List.forall_mem_cons.mpr ⟨lw_p17, List.forall_mem_cons.mpr ⟨lw_p18, List.forall_mem_cons.mpr ⟨lw_p19, List.forall_mem_cons.mpr ⟨lw_p20, List.forall_mem_cons.mpr ⟨lw_p21, List.forall_mem_cons.mpr ⟨lw_p22, List.forall_mem_cons.mpr ⟨lw_p23, List.forall_mem_cons.mpr ⟨lw_p24, List.forall_mem_cons.mpr ⟨lw_p25, List.forall_mem_cons.mpr ⟨lw_p26, List.forall_mem_cons.mpr ⟨lw_p27, List.forall_mem_cons.mpr ⟨lw_p28, List.forall_mem_cons.mpr ⟨lw_p29, List.forall_mem_cons.mpr ⟨lw_p30, List.forall_mem_cons.mpr ⟨lw_p31, fun _ h => absurd h List.not_mem_nil⟩⟩⟩⟩⟩⟩⟩⟩⟩⟩⟩⟩⟩⟩⟩⟩
theorem lw_p32 : lw_okq (⟨"StagedCompiler$Compilation", "lookAtPair", "(LStagedCompiler$Instance;I)Z"⟩, 5) := ⟨⟨by decide +kernel, by decide +kernel⟩, List.mem_of_getElem? (i := 82) (by decide +kernel), List.mem_of_getElem? (i := 372) (by decide +kernel), List.mem_of_getElem? (i := 373) (by decide +kernel)⟩
theorem lw_p33 : lw_okq (⟨"StagedCompiler$Compilation", "hasInstance", "(I)Z"⟩, 5) := ⟨⟨by decide +kernel, by decide +kernel⟩, List.mem_of_getElem? (i := 82) (by decide +kernel), List.mem_of_getElem? (i := 419) (by decide +kernel), List.mem_of_getElem? (i := 420) (by decide +kernel)⟩
theorem lw_p34 : lw_okq (⟨"StagedCompiler$Program", "nodesLeftToRun", "(LStagedCompiler$Instance;)I"⟩, 12) := ⟨⟨by decide +kernel, by decide +kernel⟩, List.mem_of_getElem? (i := 20) (by decide +kernel), List.mem_of_getElem? (i := 441) (by decide +kernel), List.mem_of_getElem? (i := 442) (by decide +kernel)⟩
theorem lw_p35 : lw_okq (⟨"StagedCompiler$Instance", "takes", "(IJ)Z"⟩, 8) := ⟨⟨by decide +kernel, by decide +kernel⟩, List.mem_of_getElem? (i := 89) (by decide +kernel), List.mem_of_getElem? (i := 453) (by decide +kernel), List.mem_of_getElem? (i := 454) (by decide +kernel)⟩
theorem lw_p36 : lw_okq (⟨"StagedCompiler$Instance", "isRunParameter", "(I)Z"⟩, 8) := ⟨⟨by decide +kernel, by decide +kernel⟩, List.mem_of_getElem? (i := 89) (by decide +kernel), List.mem_of_getElem? (i := 457) (by decide +kernel), List.mem_of_getElem? (i := 458) (by decide +kernel)⟩
theorem lw_p37 : lw_okq (⟨"StagedCompiler$Machine", "runBody", "(LStagedCompiler$Instance;JJ)J"⟩, 4) := ⟨⟨by decide +kernel, by decide +kernel⟩, List.mem_of_getElem? (i := 160) (by decide +kernel), List.mem_of_getElem? (i := 462) (by decide +kernel), List.mem_of_getElem? (i := 463) (by decide +kernel)⟩
theorem lw_p38 : lw_okq (⟨"StagedCompiler$Machine", "runNode", "(LStagedCompiler$Instance;IJJI)J"⟩, 4) := ⟨⟨by decide +kernel, by decide +kernel⟩, List.mem_of_getElem? (i := 160) (by decide +kernel), List.mem_of_getElem? (i := 466) (by decide +kernel), List.mem_of_getElem? (i := 467) (by decide +kernel)⟩
theorem lw_p39 : lw_okq (⟨"StagedCompiler$Machine", "runIf", "(LStagedCompiler$Instance;IJJI)J"⟩, 4) := ⟨⟨by decide +kernel, by decide +kernel⟩, List.mem_of_getElem? (i := 160) (by decide +kernel), List.mem_of_getElem? (i := 471) (by decide +kernel), List.mem_of_getElem? (i := 472) (by decide +kernel)⟩
theorem lw_p40 : lw_okq (⟨"StagedCompiler$Machine", "runCast", "(LStagedCompiler$Instance;IJJI)J"⟩, 4) := ⟨⟨by decide +kernel, by decide +kernel⟩, List.mem_of_getElem? (i := 160) (by decide +kernel), List.mem_of_getElem? (i := 476) (by decide +kernel), List.mem_of_getElem? (i := 477) (by decide +kernel)⟩
theorem lw_p41 : lw_okq (⟨"StagedCompiler$Machine", "runCall", "(LStagedCompiler$Instance;IJJI)J"⟩, 4) := ⟨⟨by decide +kernel, by decide +kernel⟩, List.mem_of_getElem? (i := 160) (by decide +kernel), List.mem_of_getElem? (i := 481) (by decide +kernel), List.mem_of_getElem? (i := 482) (by decide +kernel)⟩
theorem lw_p42 : lw_okq (⟨"StagedCompiler$Machine", "runPair", "(LStagedCompiler$Instance;IJJI)J"⟩, 4) := ⟨⟨by decide +kernel, by decide +kernel⟩, List.mem_of_getElem? (i := 160) (by decide +kernel), List.mem_of_getElem? (i := 487) (by decide +kernel), List.mem_of_getElem? (i := 488) (by decide +kernel)⟩
theorem lw_p43 : lw_okq (⟨"StagedCompilerModel", "isNode", "(I)Z"⟩, 37) := ⟨⟨by decide +kernel, by decide +kernel⟩, List.mem_of_getElem? (i := 496) (by decide +kernel), List.mem_of_getElem? (i := 618) (by decide +kernel), List.mem_of_getElem? (i := 619) (by decide +kernel)⟩
theorem lw_p44 : lw_okq (⟨"StagedCompilerModel", "isIntCode", "(I)Z"⟩, 37) := ⟨⟨by decide +kernel, by decide +kernel⟩, List.mem_of_getElem? (i := 496) (by decide +kernel), List.mem_of_getElem? (i := 622) (by decide +kernel), List.mem_of_getElem? (i := 623) (by decide +kernel)⟩
theorem lw_p45 : lw_okq (⟨"StagedCompilerModel", "wide", "(I)Z"⟩, 37) := ⟨⟨by decide +kernel, by decide +kernel⟩, List.mem_of_getElem? (i := 496) (by decide +kernel), List.mem_of_getElem? (i := 626) (by decide +kernel), List.mem_of_getElem? (i := 627) (by decide +kernel)⟩
theorem lw_p46 : lw_okq (⟨"StagedCompilerModel", "above", "(III)I"⟩, 37) := ⟨⟨by decide +kernel, by decide +kernel⟩, List.mem_of_getElem? (i := 496) (by decide +kernel), List.mem_of_getElem? (i := 630) (by decide +kernel), List.mem_of_getElem? (i := 631) (by decide +kernel)⟩
theorem lw_p47 : lw_okq (⟨"StagedCompilerModel", "levelOf", "(I)I"⟩, 37) := ⟨⟨by decide +kernel, by decide +kernel⟩, List.mem_of_getElem? (i := 496) (by decide +kernel), List.mem_of_getElem? (i := 634) (by decide +kernel), List.mem_of_getElem? (i := 635) (by decide +kernel)⟩
def lw_privs_3 : List (MethodName × Nat) := [(⟨"StagedCompiler$Compilation", "lookAtPair", "(LStagedCompiler$Instance;I)Z"⟩, 5), (⟨"StagedCompiler$Compilation", "hasInstance", "(I)Z"⟩, 5), (⟨"StagedCompiler$Program", "nodesLeftToRun", "(LStagedCompiler$Instance;)I"⟩, 12), (⟨"StagedCompiler$Instance", "takes", "(IJ)Z"⟩, 8), (⟨"StagedCompiler$Instance", "isRunParameter", "(I)Z"⟩, 8), (⟨"StagedCompiler$Machine", "runBody", "(LStagedCompiler$Instance;JJ)J"⟩, 4), (⟨"StagedCompiler$Machine", "runNode", "(LStagedCompiler$Instance;IJJI)J"⟩, 4), (⟨"StagedCompiler$Machine", "runIf", "(LStagedCompiler$Instance;IJJI)J"⟩, 4), (⟨"StagedCompiler$Machine", "runCast", "(LStagedCompiler$Instance;IJJI)J"⟩, 4), (⟨"StagedCompiler$Machine", "runCall", "(LStagedCompiler$Instance;IJJI)J"⟩, 4), (⟨"StagedCompiler$Machine", "runPair", "(LStagedCompiler$Instance;IJJI)J"⟩, 4), (⟨"StagedCompilerModel", "isNode", "(I)Z"⟩, 37), (⟨"StagedCompilerModel", "isIntCode", "(I)Z"⟩, 37), (⟨"StagedCompilerModel", "wide", "(I)Z"⟩, 37), (⟨"StagedCompilerModel", "above", "(III)I"⟩, 37), (⟨"StagedCompilerModel", "levelOf", "(I)I"⟩, 37)]
theorem lw_r3 : ∀ q ∈ lw_privs_3, lw_okq q := List.forall_mem_cons.mpr ⟨lw_p32, List.forall_mem_cons.mpr ⟨lw_p33, List.forall_mem_cons.mpr ⟨lw_p34, List.forall_mem_cons.mpr ⟨lw_p35, List.forall_mem_cons.mpr ⟨lw_p36, List.forall_mem_cons.mpr ⟨lw_p37, List.forall_mem_cons.mpr ⟨lw_p38, List.forall_mem_cons.mpr ⟨lw_p39, List.forall_mem_cons.mpr ⟨lw_p40, List.forall_mem_cons.mpr ⟨lw_p41, List.forall_mem_cons.mpr ⟨lw_p42, List.forall_mem_cons.mpr ⟨lw_p43, List.forall_mem_cons.mpr ⟨lw_p44, List.forall_mem_cons.mpr ⟨lw_p45, List.forall_mem_cons.mpr ⟨lw_p46, List.forall_mem_cons.mpr ⟨lw_p47, fun _ h => absurd h List.not_mem_nil⟩⟩⟩⟩⟩⟩⟩⟩⟩⟩⟩⟩⟩⟩⟩⟩
theorem lw_p48 : lw_okq (⟨"StagedCompilerModel", "isCode", "(I)Z"⟩, 37) := ⟨⟨by decide +kernel, by decide +kernel⟩, List.mem_of_getElem? (i := 496) (by decide +kernel), List.mem_of_getElem? (i := 642) (by decide +kernel), List.mem_of_getElem? (i := 643) (by decide +kernel)⟩
theorem lw_p49 : lw_okq (⟨"StagedCompilerModel", "want", "(IIIJJ)I"⟩, 37) := ⟨⟨by decide +kernel, by decide +kernel⟩, List.mem_of_getElem? (i := 496) (by decide +kernel), List.mem_of_getElem? (i := 650) (by decide +kernel), List.mem_of_getElem? (i := 651) (by decide +kernel)⟩
theorem lw_p50 : lw_okq (⟨"StagedCompilerModel", "same", "(IIJJ)Z"⟩, 37) := ⟨⟨by decide +kernel, by decide +kernel⟩, List.mem_of_getElem? (i := 496) (by decide +kernel), List.mem_of_getElem? (i := 654) (by decide +kernel), List.mem_of_getElem? (i := 655) (by decide +kernel)⟩
theorem lw_p51 : lw_okq (⟨"StagedCompilerModel", "fail", "(III)I"⟩, 37) := ⟨⟨by decide +kernel, by decide +kernel⟩, List.mem_of_getElem? (i := 496) (by decide +kernel), List.mem_of_getElem? (i := 658) (by decide +kernel), List.mem_of_getElem? (i := 659) (by decide +kernel)⟩
theorem lw_p52 : lw_okq (⟨"StagedCompilerModel", "typeIn", "(II)I"⟩, 37) := ⟨⟨by decide +kernel, by decide +kernel⟩, List.mem_of_getElem? (i := 496) (by decide +kernel), List.mem_of_getElem? (i := 662) (by decide +kernel), List.mem_of_getElem? (i := 663) (by decide +kernel)⟩
theorem lw_p53 : lw_okq (⟨"StagedCompilerModel", "lookAtBody", "(I)V"⟩, 37) := ⟨⟨by decide +kernel, by decide +kernel⟩, List.mem_of_getElem? (i := 496) (by decide +kernel), List.mem_of_getElem? (i := 667) (by decide +kernel), List.mem_of_getElem? (i := 668) (by decide +kernel)⟩
theorem lw_p54 : lw_okq (⟨"StagedCompilerModel", "needs", "(II)I"⟩, 37) := ⟨⟨by decide +kernel, by decide +kernel⟩, List.mem_of_getElem? (i := 496) (by decide +kernel), List.mem_of_getElem? (i := 671) (by decide +kernel), List.mem_of_getElem? (i := 672) (by decide +kernel)⟩
theorem lw_p55 : lw_okq (⟨"StagedCompilerModel", "argsWrong", "(I)Z"⟩, 37) := ⟨⟨by decide +kernel, by decide +kernel⟩, List.mem_of_getElem? (i := 496) (by decide +kernel), List.mem_of_getElem? (i := 675) (by decide +kernel), List.mem_of_getElem? (i := 676) (by decide +kernel)⟩
theorem lw_p56 : lw_okq (⟨"StagedCompilerModel", "look", "(II)V"⟩, 37) := ⟨⟨by decide +kernel, by decide +kernel⟩, List.mem_of_getElem? (i := 496) (by decide +kernel), List.mem_of_getElem? (i := 679) (by decide +kernel), List.mem_of_getElem? (i := 680) (by decide +kernel)⟩
theorem lw_p57 : lw_okq (⟨"StagedCompilerModel", "found", "(IIIZJ)V"⟩, 37) := ⟨⟨by decide +kernel, by decide +kernel⟩, List.mem_of_getElem? (i := 496) (by decide +kernel), List.mem_of_getElem? (i := 683) (by decide +kernel), List.mem_of_getElem? (i := 684) (by decide +kernel)⟩
theorem lw_p58 : lw_okq (⟨"StagedCompilerModel", "codeOf", "(II)I"⟩, 37) := ⟨⟨by decide +kernel, by decide +kernel⟩, List.mem_of_getElem? (i := 496) (by decide +kernel), List.mem_of_getElem? (i := 687) (by decide +kernel), List.mem_of_getElem? (i := 688) (by decide +kernel)⟩
theorem lw_p59 : lw_okq (⟨"StagedCompilerModel", "lookTwo", "(II)V"⟩, 37) := ⟨⟨by decide +kernel, by decide +kernel⟩, List.mem_of_getElem? (i := 496) (by decide +kernel), List.mem_of_getElem? (i := 691) (by decide +kernel), List.mem_of_getElem? (i := 692) (by decide +kernel)⟩
theorem lw_p60 : lw_okq (⟨"StagedCompilerModel", "fit", "(IIII)I"⟩, 37) := ⟨⟨by decide +kernel, by decide +kernel⟩, List.mem_of_getElem? (i := 496) (by decide +kernel), List.mem_of_getElem? (i := 695) (by decide +kernel), List.mem_of_getElem? (i := 696) (by decide +kernel)⟩
theorem lw_p61 : lw_okq (⟨"StagedCompilerModel", "isInt", "(I)Z"⟩, 37) := ⟨⟨by decide +kernel, by decide +kernel⟩, List.mem_of_getElem? (i := 496) (by decide +kernel), List.mem_of_getElem? (i := 699) (by decide +kernel), List.mem_of_getElem? (i := 700) (by decide +kernel)⟩
theorem lw_p62 : lw_okq (⟨"StagedCompilerModel", "fitsIn", "(IJ)Z"⟩, 37) := ⟨⟨by decide +kernel, by decide +kernel⟩, List.mem_of_getElem? (i := 496) (by decide +kernel), List.mem_of_getElem? (i := 703) (by decide +kernel), List.mem_of_getElem? (i := 704) (by decide +kernel)⟩
theorem lw_p63 : lw_okq (⟨"StagedCompilerModel", "low", "(I)J"⟩, 37) := ⟨⟨by decide +kernel, by decide +kernel⟩, List.mem_of_getElem? (i := 496) (by decide +kernel), List.mem_of_getElem? (i := 707) (by decide +kernel), List.mem_of_getElem? (i := 708) (by decide +kernel)⟩
def lw_privs_4 : List (MethodName × Nat) := [(⟨"StagedCompilerModel", "isCode", "(I)Z"⟩, 37), (⟨"StagedCompilerModel", "want", "(IIIJJ)I"⟩, 37), (⟨"StagedCompilerModel", "same", "(IIJJ)Z"⟩, 37), (⟨"StagedCompilerModel", "fail", "(III)I"⟩, 37), (⟨"StagedCompilerModel", "typeIn", "(II)I"⟩, 37), (⟨"StagedCompilerModel", "lookAtBody", "(I)V"⟩, 37), (⟨"StagedCompilerModel", "needs", "(II)I"⟩, 37), (⟨"StagedCompilerModel", "argsWrong", "(I)Z"⟩, 37), (⟨"StagedCompilerModel", "look", "(II)V"⟩, 37), (⟨"StagedCompilerModel", "found", "(IIIZJ)V"⟩, 37), (⟨"StagedCompilerModel", "codeOf", "(II)I"⟩, 37), (⟨"StagedCompilerModel", "lookTwo", "(II)V"⟩, 37), (⟨"StagedCompilerModel", "fit", "(IIII)I"⟩, 37), (⟨"StagedCompilerModel", "isInt", "(I)Z"⟩, 37), (⟨"StagedCompilerModel", "fitsIn", "(IJ)Z"⟩, 37), (⟨"StagedCompilerModel", "low", "(I)J"⟩, 37)]
theorem lw_r4 : ∀ q ∈ lw_privs_4, lw_okq q := List.forall_mem_cons.mpr ⟨lw_p48, List.forall_mem_cons.mpr ⟨lw_p49, List.forall_mem_cons.mpr ⟨lw_p50, List.forall_mem_cons.mpr ⟨lw_p51, List.forall_mem_cons.mpr ⟨lw_p52, List.forall_mem_cons.mpr ⟨lw_p53, List.forall_mem_cons.mpr ⟨lw_p54, List.forall_mem_cons.mpr ⟨lw_p55, List.forall_mem_cons.mpr ⟨lw_p56, List.forall_mem_cons.mpr ⟨lw_p57, List.forall_mem_cons.mpr ⟨lw_p58, List.forall_mem_cons.mpr ⟨lw_p59, List.forall_mem_cons.mpr ⟨lw_p60, List.forall_mem_cons.mpr ⟨lw_p61, List.forall_mem_cons.mpr ⟨lw_p62, List.forall_mem_cons.mpr ⟨lw_p63, fun _ h => absurd h List.not_mem_nil⟩⟩⟩⟩⟩⟩⟩⟩⟩⟩⟩⟩⟩⟩⟩⟩
theorem lw_p64 : lw_okq (⟨"StagedCompilerModel", "high", "(I)J"⟩, 37) := ⟨⟨by decide +kernel, by decide +kernel⟩, List.mem_of_getElem? (i := 496) (by decide +kernel), List.mem_of_getElem? (i := 712) (by decide +kernel), List.mem_of_getElem? (i := 713) (by decide +kernel)⟩
theorem lw_p65 : lw_okq (⟨"StagedCompilerModel", "reckon", "(IIJJ)J"⟩, 37) := ⟨⟨by decide +kernel, by decide +kernel⟩, List.mem_of_getElem? (i := 496) (by decide +kernel), List.mem_of_getElem? (i := 717) (by decide +kernel), List.mem_of_getElem? (i := 718) (by decide +kernel)⟩
theorem lw_p66 : lw_okq (⟨"StagedCompilerModel", "lookIf", "(II)V"⟩, 37) := ⟨⟨by decide +kernel, by decide +kernel⟩, List.mem_of_getElem? (i := 496) (by decide +kernel), List.mem_of_getElem? (i := 723) (by decide +kernel), List.mem_of_getElem? (i := 724) (by decide +kernel)⟩
theorem lw_p67 : lw_okq (⟨"StagedCompilerModel", "lookCast", "(II)V"⟩, 37) := ⟨⟨by decide +kernel, by decide +kernel⟩, List.mem_of_getElem? (i := 496) (by decide +kernel), List.mem_of_getElem? (i := 727) (by decide +kernel), List.mem_of_getElem? (i := 728) (by decide +kernel)⟩
theorem lw_p68 : lw_okq (⟨"StagedCompilerModel", "lookCall", "(II)V"⟩, 37) := ⟨⟨by decide +kernel, by decide +kernel⟩, List.mem_of_getElem? (i := 496) (by decide +kernel), List.mem_of_getElem? (i := 731) (by decide +kernel), List.mem_of_getElem? (i := 732) (by decide +kernel)⟩
theorem lw_p69 : lw_okq (⟨"StagedCompilerModel", "goes", "(IIII)Z"⟩, 37) := ⟨⟨by decide +kernel, by decide +kernel⟩, List.mem_of_getElem? (i := 496) (by decide +kernel), List.mem_of_getElem? (i := 735) (by decide +kernel), List.mem_of_getElem? (i := 736) (by decide +kernel)⟩
theorem lw_p70 : lw_okq (⟨"StagedCompilerModel", "misfits", "(III)Z"⟩, 37) := ⟨⟨by decide +kernel, by decide +kernel⟩, List.mem_of_getElem? (i := 496) (by decide +kernel), List.mem_of_getElem? (i := 747) (by decide +kernel), List.mem_of_getElem? (i := 748) (by decide +kernel)⟩
theorem lw_p71 : lw_okq (⟨"StagedCompilerModel", "enter", "(I)V"⟩, 37) := ⟨⟨by decide +kernel, by decide +kernel⟩, List.mem_of_getElem? (i := 496) (by decide +kernel), List.mem_of_getElem? (i := 752) (by decide +kernel), List.mem_of_getElem? (i := 753) (by decide +kernel)⟩
theorem lw_p72 : lw_okq (⟨"StagedCompilerModel", "stepTwo", "(I)V"⟩, 37) := ⟨⟨by decide +kernel, by decide +kernel⟩, List.mem_of_getElem? (i := 496) (by decide +kernel), List.mem_of_getElem? (i := 757) (by decide +kernel), List.mem_of_getElem? (i := 758) (by decide +kernel)⟩
theorem lw_p73 : lw_okq (⟨"StagedCompilerModel", "leave", "(J)V"⟩, 37) := ⟨⟨by decide +kernel, by decide +kernel⟩, List.mem_of_getElem? (i := 496) (by decide +kernel), List.mem_of_getElem? (i := 761) (by decide +kernel), List.mem_of_getElem? (i := 762) (by decide +kernel)⟩
theorem lw_p74 : lw_okq (⟨"StagedCompilerModel", "stepIf", "(I)V"⟩, 37) := ⟨⟨by decide +kernel, by decide +kernel⟩, List.mem_of_getElem? (i := 496) (by decide +kernel), List.mem_of_getElem? (i := 765) (by decide +kernel), List.mem_of_getElem? (i := 766) (by decide +kernel)⟩
theorem lw_p75 : lw_okq (⟨"StagedCompilerModel", "stepCast", "(I)V"⟩, 37) := ⟨⟨by decide +kernel, by decide +kernel⟩, List.mem_of_getElem? (i := 496) (by decide +kernel), List.mem_of_getElem? (i := 769) (by decide +kernel), List.mem_of_getElem? (i := 770) (by decide +kernel)⟩
theorem lw_p76 : lw_okq (⟨"StagedCompilerModel", "stepCall", "(I)V"⟩, 37) := ⟨⟨by decide +kernel, by decide +kernel⟩, List.mem_of_getElem? (i := 496) (by decide +kernel), List.mem_of_getElem? (i := 773) (by decide +kernel), List.mem_of_getElem? (i := 774) (by decide +kernel)⟩
theorem lw_p77 : lw_okq (⟨"StagedCompilerModel", "none", "(I)Z"⟩, 37) := ⟨⟨by decide +kernel, by decide +kernel⟩, List.mem_of_getElem? (i := 496) (by decide +kernel), List.mem_of_getElem? (i := 782) (by decide +kernel), List.mem_of_getElem? (i := 783) (by decide +kernel)⟩
def lw_privs_5 : List (MethodName × Nat) := [(⟨"StagedCompilerModel", "high", "(I)J"⟩, 37), (⟨"StagedCompilerModel", "reckon", "(IIJJ)J"⟩, 37), (⟨"StagedCompilerModel", "lookIf", "(II)V"⟩, 37), (⟨"StagedCompilerModel", "lookCast", "(II)V"⟩, 37), (⟨"StagedCompilerModel", "lookCall", "(II)V"⟩, 37), (⟨"StagedCompilerModel", "goes", "(IIII)Z"⟩, 37), (⟨"StagedCompilerModel", "misfits", "(III)Z"⟩, 37), (⟨"StagedCompilerModel", "enter", "(I)V"⟩, 37), (⟨"StagedCompilerModel", "stepTwo", "(I)V"⟩, 37), (⟨"StagedCompilerModel", "leave", "(J)V"⟩, 37), (⟨"StagedCompilerModel", "stepIf", "(I)V"⟩, 37), (⟨"StagedCompilerModel", "stepCast", "(I)V"⟩, 37), (⟨"StagedCompilerModel", "stepCall", "(I)V"⟩, 37), (⟨"StagedCompilerModel", "none", "(I)Z"⟩, 37)]
theorem lw_r5 : ∀ q ∈ lw_privs_5, lw_okq q := List.forall_mem_cons.mpr ⟨lw_p64, List.forall_mem_cons.mpr ⟨lw_p65, List.forall_mem_cons.mpr ⟨lw_p66, List.forall_mem_cons.mpr ⟨lw_p67, List.forall_mem_cons.mpr ⟨lw_p68, List.forall_mem_cons.mpr ⟨lw_p69, List.forall_mem_cons.mpr ⟨lw_p70, List.forall_mem_cons.mpr ⟨lw_p71, List.forall_mem_cons.mpr ⟨lw_p72, List.forall_mem_cons.mpr ⟨lw_p73, List.forall_mem_cons.mpr ⟨lw_p74, List.forall_mem_cons.mpr ⟨lw_p75, List.forall_mem_cons.mpr ⟨lw_p76, List.forall_mem_cons.mpr ⟨lw_p77, fun _ h => absurd h List.not_mem_nil⟩⟩⟩⟩⟩⟩⟩⟩⟩⟩⟩⟩⟩⟩
def lw_privs : List (MethodName × Nat) := lw_privs_1 ++ (lw_privs_2 ++ (lw_privs_3 ++ (lw_privs_4 ++ (lw_privs_5))))
def lw_tbl : List Cond := k2_sels lw_privs ++ tables_1
theorem lw_privs_ok : ∀ q ∈ lw_privs, lw_okq q := by
  show ∀ q ∈ lw_privs_1 ++ (lw_privs_2 ++ (lw_privs_3 ++ (lw_privs_4 ++ (lw_privs_5)))), lw_okq q
  exact List.forall_mem_append.mpr ⟨lw_r1, List.forall_mem_append.mpr ⟨lw_r2, List.forall_mem_append.mpr ⟨lw_r3, List.forall_mem_append.mpr ⟨lw_r4, lw_r5⟩⟩⟩⟩
end
section
/-! tables: names, fields, pools, methods. Printed by a program of mine out of the listing. -/
def mm_own (o : Nat) : String := match o with
  | 0 => "StagedCompiler"
  | 1 => "StagedCompiler$Program"
  | 2 => "StagedCompiler$Compilation"
  | 3 => "StagedCompiler$Instance"
  | 4 => "StagedCompiler$Machine"
  | 5 => "StagedCompilerModel"
  | 6 => "StagedCompiler$Kind"
  | 7 => "StagedCompiler$Types"
  | 8 => "StagedCompiler$Arithmetic"
  | _ => "StagedCompilerLaw"
def mm_nm (ci : Nat) : String := mm_own ci
def mm_tb0 : u_T := fun k => match k with
  | 0 => ("StagedCompiler", "program", "LStagedCompiler$Program;", true)
  | 1 => ("StagedCompiler", "compilation", "LStagedCompiler$Compilation;", true)
  | _ => ("StagedCompiler", "machine", "LStagedCompiler$Machine;", true)
def mm_ty0 : Nat → FieldType := fun k => match k with
  | 0 => .object "StagedCompiler$Program"
  | 1 => .object "StagedCompiler$Compilation"
  | _ => .object "StagedCompiler$Machine"
def mm_tb1 : u_T := fun k => match k with
  | 0 => ("StagedCompiler$Program", "kinds", "[I", true)
  | 1 => ("StagedCompiler$Program", "as", "[I", true)
  | 2 => ("StagedCompiler$Program", "bs", "[I", true)
  | 3 => ("StagedCompiler$Program", "cs", "[I", true)
  | 4 => ("StagedCompiler$Program", "levels", "[I", true)
  | 5 => ("StagedCompiler$Program", "isDefined", "[Z", true)
  | 6 => ("StagedCompiler$Program", "firsts", "[I", true)
  | 7 => ("StagedCompiler$Program", "seconds", "[I", true)
  | 8 => ("StagedCompiler$Program", "results", "[I", true)
  | 9 => ("StagedCompiler$Program", "bodies", "[I", true)
  | 10 => ("StagedCompiler$Program", "nodeCount", "I", false)
  | _ => ("StagedCompiler$Program", "functionCount", "I", false)
def mm_ty1 : Nat → FieldType := fun k => match k with
  | 0 => .array .int
  | 1 => .array .int
  | 2 => .array .int
  | 3 => .array .int
  | 4 => .array .int
  | 5 => .array .boolean
  | 6 => .array .int
  | 7 => .array .int
  | 8 => .array .int
  | 9 => .array .int
  | 10 => .int
  | _ => .int
def mm_tb2 : u_T := fun k => match k with
  | 0 => ("StagedCompiler$Compilation", "program", "LStagedCompiler$Program;", true)
  | 1 => ("StagedCompiler$Compilation", "instances", "[LStagedCompiler$Instance;", true)
  | 2 => ("StagedCompiler$Compilation", "instanceCount", "I", false)
  | 3 => ("StagedCompiler$Compilation", "error", "I", false)
  | _ => ("StagedCompiler$Compilation", "errorPlace", "I", false)
def mm_ty2 : Nat → FieldType := fun k => match k with
  | 0 => .object "StagedCompiler$Program"
  | 1 => .array (.object "StagedCompiler$Instance")
  | 2 => .int
  | 3 => .int
  | _ => .int
def mm_tb3 : u_T := fun k => match k with
  | 0 => ("StagedCompiler$Instance", "function", "I", false)
  | 1 => ("StagedCompiler$Instance", "resultType", "I", false)
  | 2 => ("StagedCompiler$Instance", "parameterTypes", "[I", true)
  | 3 => ("StagedCompiler$Instance", "counts", "[J", true)
  | 4 => ("StagedCompiler$Instance", "types", "[I", true)
  | 5 => ("StagedCompiler$Instance", "isKnown", "[Z", true)
  | 6 => ("StagedCompiler$Instance", "values", "[J", true)
  | _ => ("StagedCompiler$Instance", "callees", "[I", true)
def mm_ty3 : Nat → FieldType := fun k => match k with
  | 0 => .int
  | 1 => .int
  | 2 => .array .int
  | 3 => .array .long
  | 4 => .array .int
  | 5 => .array .boolean
  | 6 => .array .long
  | _ => .array .int
def mm_tb4 : u_T := fun k => match k with
  | 0 => ("StagedCompiler$Machine", "program", "LStagedCompiler$Program;", true)
  | 1 => ("StagedCompiler$Machine", "instances", "[LStagedCompiler$Instance;", true)
  | 2 => ("StagedCompiler$Machine", "nodesRun", "I", false)
  | _ => ("StagedCompiler$Machine", "callsMade", "I", false)
def mm_ty4 : Nat → FieldType := fun k => match k with
  | 0 => .object "StagedCompiler$Program"
  | 1 => .array (.object "StagedCompiler$Instance")
  | 2 => .int
  | _ => .int
def mm_tb5 : u_T := fun k => match k with
  | 0 => ("StagedCompilerModel", "nodes", "I", false)
  | 1 => ("StagedCompilerModel", "error", "I", false)
  | 2 => ("StagedCompilerModel", "errorPlace", "I", false)
  | 3 => ("StagedCompilerModel", "instances", "I", false)
  | 4 => ("StagedCompilerModel", "calls", "I", false)
  | 5 => ("StagedCompilerModel", "kind", "[I", true)
  | 6 => ("StagedCompilerModel", "opA", "[I", true)
  | 7 => ("StagedCompilerModel", "opB", "[I", true)
  | 8 => ("StagedCompilerModel", "opC", "[I", true)
  | 9 => ("StagedCompilerModel", "level", "[I", true)
  | 10 => ("StagedCompilerModel", "defined", "[Z", true)
  | 11 => ("StagedCompilerModel", "first", "[I", true)
  | 12 => ("StagedCompilerModel", "second", "[I", true)
  | 13 => ("StagedCompilerModel", "result", "[I", true)
  | 14 => ("StagedCompilerModel", "body", "[I", true)
  | 15 => ("StagedCompilerModel", "of", "[I", true)
  | 16 => ("StagedCompilerModel", "value0", "[I", true)
  | 17 => ("StagedCompilerModel", "value1", "[I", true)
  | 18 => ("StagedCompilerModel", "looked", "[Z", true)
  | 19 => ("StagedCompilerModel", "known", "[Z", true)
  | 20 => ("StagedCompilerModel", "type", "[I", true)
  | 21 => ("StagedCompilerModel", "target", "[I", true)
  | 22 => ("StagedCompilerModel", "value", "[J", true)
  | 23 => ("StagedCompilerModel", "inst", "[I", true)
  | 24 => ("StagedCompilerModel", "under", "[I", true)
  | 25 => ("StagedCompilerModel", "phase", "[I", true)
  | 26 => ("StagedCompilerModel", "argA", "[J", true)
  | 27 => ("StagedCompilerModel", "argB", "[J", true)
  | 28 => ("StagedCompilerModel", "partA", "[J", true)
  | 29 => ("StagedCompilerModel", "partB", "[J", true)
  | 30 => ("StagedCompilerModel", "deep", "I", false)
  | 31 => ("StagedCompilerModel", "frame", "I", false)
  | 32 => ("StagedCompilerModel", "ran", "I", false)
  | 33 => ("StagedCompilerModel", "ret", "J", false)
  | 34 => ("StagedCompilerModel", "trap", "J", false)
  | 35 => ("StagedCompilerModel", "large0", "[J", true)
  | _ => ("StagedCompilerModel", "large1", "[J", true)
def mm_ty5 : Nat → FieldType := fun k => match k with
  | 0 => .int
  | 1 => .int
  | 2 => .int
  | 3 => .int
  | 4 => .int
  | 5 => .array .int
  | 6 => .array .int
  | 7 => .array .int
  | 8 => .array .int
  | 9 => .array .int
  | 10 => .array .boolean
  | 11 => .array .int
  | 12 => .array .int
  | 13 => .array .int
  | 14 => .array .int
  | 15 => .array .int
  | 16 => .array .int
  | 17 => .array .int
  | 18 => .array .boolean
  | 19 => .array .boolean
  | 20 => .array .int
  | 21 => .array .int
  | 22 => .array .long
  | 23 => .array .int
  | 24 => .array .int
  | 25 => .array .int
  | 26 => .array .long
  | 27 => .array .long
  | 28 => .array .long
  | 29 => .array .long
  | 30 => .int
  | 31 => .int
  | 32 => .int
  | 33 => .long
  | 34 => .long
  | 35 => .array .long
  | _ => .array .long
def mm_cl : List vw_C := [(mm_own 0, mm_tb0, 3), (mm_own 1, mm_tb1, 12), (mm_own 2, mm_tb2, 5), (mm_own 3, mm_tb3, 8), (mm_own 4, mm_tb4, 4), (mm_own 5, mm_tb5, 37)]
def mm_N (ci : Nat) : Nat := match ci with
  | 0 => 3
  | 1 => 12
  | 2 => 5
  | 3 => 8
  | 4 => 4
  | _ => 37
def mm_ft (ci k : Nat) : FieldType := match ci with
  | 0 => mm_ty0 k
  | 1 => mm_ty1 k
  | 2 => mm_ty2 k
  | 3 => mm_ty3 k
  | 4 => mm_ty4 k
  | _ => mm_ty5 k
def mm_fin (ci k : Nat) : Bool := match ci with
  | 0 => (mm_tb0 k).2.2.2
  | 1 => (mm_tb1 k).2.2.2
  | 2 => (mm_tb2 k).2.2.2
  | 3 => (mm_tb3 k).2.2.2
  | 4 => (mm_tb4 k).2.2.2
  | _ => (mm_tb5 k).2.2.2
def mm_Y (f : Nat) : Nat ⊕ (FieldType × Nat) := match f with
  | 0 => .inl 0
  | 1 => .inl 1
  | 2 => .inr (.int, 60)
  | 3 => .inr (.int, 60)
  | 4 => .inr (.int, 60)
  | 5 => .inr (.int, 60)
  | 6 => .inr (.int, 60)
  | 7 => .inr (.boolean, 8)
  | 8 => .inr (.int, 8)
  | 9 => .inr (.int, 8)
  | 10 => .inr (.int, 8)
  | 11 => .inr (.int, 8)
  | 12 => .inl 2
  | 13 => .inr (.object "StagedCompiler$Instance", 20)
  | 14 => .inl 3
  | 15 => .inr (.int, 2)
  | 16 => .inr (.long, 2)
  | 17 => .inr (.int, 60)
  | 18 => .inr (.boolean, 60)
  | 19 => .inr (.long, 60)
  | 20 => .inr (.int, 60)
  | 21 => .inl 4
  | 30 => .inl 5
  | 31 => .inr (.int, 60)
  | 32 => .inr (.int, 60)
  | 33 => .inr (.int, 60)
  | 34 => .inr (.int, 60)
  | 35 => .inr (.int, 60)
  | 36 => .inr (.boolean, 8)
  | 37 => .inr (.int, 8)
  | 38 => .inr (.int, 8)
  | 39 => .inr (.int, 8)
  | 40 => .inr (.int, 8)
  | 41 => .inr (.int, 20)
  | 42 => .inr (.int, 20)
  | 43 => .inr (.int, 20)
  | 44 => .inr (.boolean, 1200)
  | 45 => .inr (.boolean, 1200)
  | 46 => .inr (.int, 1200)
  | 47 => .inr (.int, 1200)
  | 48 => .inr (.long, 1200)
  | 49 => .inr (.int, 7)
  | 50 => .inr (.int, 64)
  | 51 => .inr (.int, 64)
  | 52 => .inr (.long, 7)
  | 53 => .inr (.long, 7)
  | 54 => .inr (.long, 64)
  | 55 => .inr (.long, 64)
  | 56 => .inr (.long, 20)
  | 57 => .inr (.long, 20)
  | _ => .inr (.int, 0)
def mm_tyl : List FieldType := [.int, .boolean, .long, .object "StagedCompiler$Instance"]
def mm_tys (dA : FieldType → ClassId) : List (ClassId × FieldType) := mm_tyl.map fun ty => (dA ty, ty)
def mm_prt : List FieldType := [.int, .boolean, .long]
def mm_ao : List String := ["StagedCompiler$Instance"]
def mm_T : List Cond := lw_tbl.filter goodWord
theorem mm_Tgood : ∀ w ∈ mm_T, goodWord w = true := fun w h => (List.mem_filter.mp h).2
theorem mm_mem {w : Cond} (i : Nat) (h : tables_1[i]? = some w) (hg : goodWord w = true) : w ∈ mm_T := List.mem_filter.mpr ⟨List.mem_append_right _ (List.mem_of_getElem? h), hg⟩
theorem mm_memS {w : Cond} (h : w ∈ k2_sels lw_privs) (hg : goodWord w = true) : w ∈ mm_T := List.mem_filter.mpr ⟨List.mem_append_left _ h, hg⟩
def mm_nF : List (String × Nat × String × String × String × String) := [("StagedCompiler", 27, "StagedCompiler$Compilation", "instances", "[LStagedCompiler$Instance;", "StagedCompiler"), ("StagedCompiler", 54, "StagedCompiler$Compilation", "errorPlace", "I", "StagedCompiler"), ("StagedCompiler", 61, "StagedCompiler$Instance", "function", "I", "StagedCompiler"), ("StagedCompiler", 68, "StagedCompiler$Instance", "parameterTypes", "[I", "StagedCompiler"), ("StagedCompiler", 74, "StagedCompiler$Instance", "counts", "[J", "StagedCompiler"), ("StagedCompiler", 81, "StagedCompiler$Instance", "types", "[I", "StagedCompiler"), ("StagedCompiler", 84, "StagedCompiler$Instance", "isKnown", "[Z", "StagedCompiler"), ("StagedCompiler", 88, "StagedCompiler$Instance", "values", "[J", "StagedCompiler"), ("StagedCompiler", 103, "StagedCompiler$Program", "nodeCount", "I", "StagedCompiler"), ("StagedCompiler", 106, "StagedCompiler$Program", "functionCount", "I", "StagedCompiler"), ("StagedCompiler", 109, "StagedCompiler$Compilation", "instanceCount", "I", "StagedCompiler"), ("StagedCompiler", 112, "StagedCompiler$Machine", "callsMade", "I", "StagedCompiler"), ("StagedCompiler$Program", 99, "StagedCompiler$Instance", "isKnown", "[Z", "StagedCompiler"), ("StagedCompiler$Compilation", 40, "StagedCompiler$Program", "bodies", "[I", "StagedCompiler"), ("StagedCompiler$Compilation", 46, "StagedCompiler$Instance", "function", "I", "StagedCompiler"), ("StagedCompiler$Compilation", 53, "StagedCompiler$Instance", "resultType", "I", "StagedCompiler"), ("StagedCompiler$Compilation", 68, "StagedCompiler$Instance", "types", "[I", "StagedCompiler"), ("StagedCompiler$Compilation", 77, "StagedCompiler$Instance", "values", "[J", "StagedCompiler"), ("StagedCompiler$Compilation", 88, "StagedCompiler$Program", "kinds", "[I", "StagedCompiler"), ("StagedCompiler$Compilation", 91, "StagedCompiler$Program", "as", "[I", "StagedCompiler"), ("StagedCompiler$Compilation", 116, "StagedCompiler$Instance", "parameterTypes", "[I", "StagedCompiler"), ("StagedCompiler$Compilation", 119, "StagedCompiler$Instance", "counts", "[J", "StagedCompiler"), ("StagedCompiler$Compilation", 126, "StagedCompiler$Program", "bs", "[I", "StagedCompiler"), ("StagedCompiler$Compilation", 144, "StagedCompiler$Instance", "isKnown", "[Z", "StagedCompiler"), ("StagedCompiler$Compilation", 160, "StagedCompiler$Program", "cs", "[I", "StagedCompiler"), ("StagedCompiler$Compilation", 173, "StagedCompiler$Program", "firsts", "[I", "StagedCompiler"), ("StagedCompiler$Compilation", 179, "StagedCompiler$Program", "seconds", "[I", "StagedCompiler"), ("StagedCompiler$Compilation", 193, "StagedCompiler$Instance", "callees", "[I", "StagedCompiler"), ("StagedCompiler$Instance", 41, "StagedCompiler$Program", "firsts", "[I", "StagedCompiler"), ("StagedCompiler$Instance", 46, "StagedCompiler$Program", "seconds", "[I", "StagedCompiler"), ("StagedCompiler$Instance", 53, "StagedCompiler$Program", "results", "[I", "StagedCompiler"), ("StagedCompiler$Machine", 26, "StagedCompiler$Program", "bodies", "[I", "StagedCompiler"), ("StagedCompiler$Machine", 32, "StagedCompiler$Instance", "function", "I", "StagedCompiler"), ("StagedCompiler$Machine", 43, "StagedCompiler$Instance", "isKnown", "[Z", "StagedCompiler"), ("StagedCompiler$Machine", 47, "StagedCompiler$Instance", "values", "[J", "StagedCompiler"), ("StagedCompiler$Machine", 51, "StagedCompiler$Program", "kinds", "[I", "StagedCompiler"), ("StagedCompiler$Machine", 54, "StagedCompiler$Program", "as", "[I", "StagedCompiler"), ("StagedCompiler$Machine", 75, "StagedCompiler$Program", "bs", "[I", "StagedCompiler"), ("StagedCompiler$Machine", 78, "StagedCompiler$Instance", "types", "[I", "StagedCompiler"), ("StagedCompiler$Machine", 85, "StagedCompiler$Program", "cs", "[I", "StagedCompiler"), ("StagedCompiler$Machine", 94, "StagedCompiler$Instance", "callees", "[I", "StagedCompiler")]
def mm_nM : List (String × Nat × MethodName × String) := [("StagedCompiler", 9, ⟨"StagedCompiler$Program", "<init>", "()V"⟩, "StagedCompiler"), ("StagedCompiler", 12, ⟨"StagedCompiler$Compilation", "<init>", "(LStagedCompiler$Program;)V"⟩, "StagedCompiler"), ("StagedCompiler", 31, ⟨"StagedCompiler$Machine", "<init>", "(LStagedCompiler$Program;[LStagedCompiler$Instance;)V"⟩, "StagedCompiler"), ("StagedCompiler$Compilation", 21, ⟨"StagedCompiler$Instance", "<init>", "()V"⟩, "StagedCompiler"), ("StagedCompiler", 38, ⟨"StagedCompiler$Program", "addNode", "(IIII)I"⟩, "StagedCompiler"), ("StagedCompiler", 42, ⟨"StagedCompiler$Program", "addFunction", "(IIIII)I"⟩, "StagedCompiler"), ("StagedCompiler", 46, ⟨"StagedCompiler$Program", "hasFunction", "(I)Z"⟩, "StagedCompiler"), ("StagedCompiler", 50, ⟨"StagedCompiler$Compilation", "compileAll", "(IJJ)I"⟩, "StagedCompiler"), ("StagedCompiler", 58, ⟨"StagedCompiler$Compilation", "hasInstance", "(I)Z"⟩, "StagedCompiler"), ("StagedCompiler", 78, ⟨"StagedCompiler$Program", "hasNode", "(I)Z"⟩, "StagedCompiler"), ("StagedCompiler", 91, ⟨"StagedCompiler$Program", "nodesLeftToRun", "(LStagedCompiler$Instance;)I"⟩, "StagedCompiler"), ("StagedCompiler", 95, ⟨"StagedCompiler$Instance", "takes", "(IJ)Z"⟩, "StagedCompiler"), ("StagedCompiler", 99, ⟨"StagedCompiler$Machine", "runBody", "(LStagedCompiler$Instance;JJ)J"⟩, "StagedCompiler"), ("StagedCompiler$Program", 50, ⟨"StagedCompiler$Kind", "isOne", "(I)Z"⟩, "StagedCompiler"), ("StagedCompiler$Program", 67, ⟨"StagedCompiler$Types", "isCastCode", "(I)Z"⟩, "StagedCompiler"), ("StagedCompiler$Program", 85, ⟨"StagedCompiler$Types", "isParameterCode", "(I)Z"⟩, "StagedCompiler"), ("StagedCompiler$Program", 88, ⟨"StagedCompiler$Types", "isResultCode", "(I)Z"⟩, "StagedCompiler"), ("StagedCompiler$Program", 91, ⟨"StagedCompiler$Kind", "countsForSize", "(I)Z"⟩, "StagedCompiler"), ("StagedCompiler$Program", 94, ⟨"StagedCompiler$Instance", "wasLookedAt", "(I)Z"⟩, "StagedCompiler"), ("StagedCompiler$Compilation", 60, ⟨"StagedCompiler$Instance", "isOf", "(IJJ)Z"⟩, "StagedCompiler"), ("StagedCompiler$Compilation", 64, ⟨"StagedCompiler$Instance", "begin", "(LStagedCompiler$Program;IJJ)Z"⟩, "StagedCompiler"), ("StagedCompiler$Compilation", 73, ⟨"StagedCompiler$Types", "isInt", "(I)Z"⟩, "StagedCompiler"), ("StagedCompiler$Compilation", 81, ⟨"StagedCompiler$Types", "holds", "(IJ)Z"⟩, "StagedCompiler"), ("StagedCompiler$Compilation", 85, ⟨"StagedCompiler$Instance", "wasLookedAt", "(I)Z"⟩, "StagedCompiler"), ("StagedCompiler$Compilation", 94, ⟨"StagedCompiler$Instance", "findKnown", "(IIJ)Z"⟩, "StagedCompiler"), ("StagedCompiler$Compilation", 122, ⟨"StagedCompiler$Instance", "find", "(II)Z"⟩, "StagedCompiler"), ("StagedCompiler$Compilation", 138, ⟨"StagedCompiler$Kind", "isWrapOrClamp", "(I)Z"⟩, "StagedCompiler"), ("StagedCompiler$Compilation", 141, ⟨"StagedCompiler$Kind", "isComparison", "(I)Z"⟩, "StagedCompiler"), ("StagedCompiler$Compilation", 148, ⟨"StagedCompiler$Arithmetic", "work", "(IIJJ)J"⟩, "StagedCompiler"), ("StagedCompiler$Compilation", 154, ⟨"StagedCompiler$Arithmetic", "isTrap", "(J)Z"⟩, "StagedCompiler"), ("StagedCompiler$Compilation", 163, ⟨"StagedCompiler$Instance", "findSameAs", "(II)Z"⟩, "StagedCompiler"), ("StagedCompiler$Compilation", 166, ⟨"StagedCompiler$Instance", "typeByCode", "(I)I"⟩, "StagedCompiler"), ("StagedCompiler$Compilation", 170, ⟨"StagedCompiler$Program", "hasFunction", "(I)Z"⟩, "StagedCompiler"), ("StagedCompiler$Instance", 56, ⟨"StagedCompiler$Types", "isByParameter", "(I)Z"⟩, "StagedCompiler"), ("StagedCompiler$Instance", 69, ⟨"StagedCompiler$Types", "holds", "(IJ)Z"⟩, "StagedCompiler"), ("StagedCompiler$Machine", 69, ⟨"StagedCompiler$Arithmetic", "isTrap", "(J)Z"⟩, "StagedCompiler"), ("StagedCompiler$Machine", 81, ⟨"StagedCompiler$Arithmetic", "work", "(IIJJ)J"⟩, "StagedCompiler"), ("StagedCompiler$Machine", 88, ⟨"StagedCompiler$Arithmetic", "checked", "(IJ)J"⟩, "StagedCompiler"), ("StagedCompiler$Machine", 97, ⟨"StagedCompiler$Instance", "isRunParameter", "(I)Z"⟩, "StagedCompiler"), ("StagedCompiler$Arithmetic", 25, ⟨"StagedCompiler$Types", "holds", "(IJ)Z"⟩, "StagedCompiler"), ("StagedCompiler$Arithmetic", 39, ⟨"StagedCompiler$Types", "lowest", "(I)J"⟩, "StagedCompiler"), ("StagedCompiler$Arithmetic", 43, ⟨"StagedCompiler$Types", "highest", "(I)J"⟩, "StagedCompiler")]
theorem mm_nFne : ∀ q ∈ mm_nF, q.1 ≠ q.2.2.1 := by decide +kernel
def mm_FLs : List (Nat × Nat × Nat × Nat) := [(0, 15, 0, 0), (0, 21, 0, 1), (0, 27, 2, 1), (0, 34, 0, 2), (1, 9, 1, 0), (1, 15, 1, 1), (1, 18, 1, 2), (1, 21, 1, 3), (1, 24, 1, 4), (1, 27, 1, 5), (1, 31, 1, 6), (1, 34, 1, 7), (1, 37, 1, 8), (1, 40, 1, 9), (1, 43, 1, 10), (1, 47, 1, 11), (2, 9, 2, 0), (2, 17, 2, 1), (2, 22, 2, 2), (2, 26, 2, 3), (2, 29, 2, 4), (3, 9, 3, 2), (3, 15, 3, 3), (3, 19, 3, 4), (3, 22, 3, 5), (3, 26, 3, 6), (3, 29, 3, 7), (3, 32, 3, 0), (3, 38, 3, 1), (4, 9, 4, 0), (4, 15, 4, 1), (4, 19, 4, 2), (4, 23, 4, 3), (5, 7, 5, 0), (5, 13, 5, 1), (5, 16, 5, 2), (5, 19, 5, 3), (5, 22, 5, 4), (5, 25, 5, 5), (5, 29, 5, 6), (5, 32, 5, 7), (5, 35, 5, 8), (5, 38, 5, 9), (5, 41, 5, 10), (5, 45, 5, 11), (5, 48, 5, 12), (5, 51, 5, 13), (5, 54, 5, 14), (5, 57, 5, 15), (5, 60, 5, 16), (5, 63, 5, 17), (5, 66, 5, 18), (5, 69, 5, 19), (5, 72, 5, 20), (5, 75, 5, 21), (5, 78, 5, 22), (5, 82, 5, 23), (5, 85, 5, 24), (5, 88, 5, 25), (5, 91, 5, 26), (5, 94, 5, 27), (5, 97, 5, 28), (5, 100, 5, 29), (5, 103, 5, 30), (5, 106, 5, 31), (5, 109, 5, 32), (5, 112, 5, 33), (5, 116, 5, 34), (5, 119, 5, 35), (5, 122, 5, 36), (0, 54, 2, 4), (0, 61, 3, 0), (0, 68, 3, 2), (0, 74, 3, 3), (0, 81, 3, 4), (0, 84, 3, 5), (0, 88, 3, 6), (0, 103, 1, 10), (0, 106, 1, 11), (0, 109, 2, 2), (0, 112, 4, 3), (1, 99, 3, 5), (2, 40, 1, 9), (2, 46, 3, 0), (2, 53, 3, 1), (2, 68, 3, 4), (2, 77, 3, 6), (2, 88, 1, 0), (2, 91, 1, 1), (2, 116, 3, 2), (2, 119, 3, 3), (2, 126, 1, 2), (2, 144, 3, 5), (2, 160, 1, 3), (2, 173, 1, 6), (2, 179, 1, 7), (2, 193, 3, 7), (3, 41, 1, 6), (3, 46, 1, 7), (3, 53, 1, 8), (4, 26, 1, 9), (4, 32, 3, 0), (4, 43, 3, 5), (4, 47, 3, 6), (4, 51, 1, 0), (4, 54, 1, 1), (4, 75, 1, 2), (4, 78, 3, 4), (4, 85, 1, 3), (4, 94, 3, 7)]
def mm_FL (o ix : Nat) : Option (Nat × Nat) := (mm_FLs.find? fun q => q.1 == o && q.2.1 == ix).map fun q => q.2.2
def mm_CIs : List (Nat × Nat × Int32) := []
def mm_CI (o ix : Nat) : Option (Int32) := (mm_CIs.find? fun q => q.1 == o && q.2.1 == ix).map fun q => q.2.2
def mm_CLs : List (Nat × Nat × Int64) := [(0, 66, 1000000000000000), (2, 158, 1000000000000002), (3, 60, 31), (4, 41, 1000000000000004), (4, 92, 1000000000000003), (5, 146, 31), (5, 148, -2147483648), (5, 150, 2147483648), (5, 172, 1000000000000002), (5, 174, 1000000000000001), (5, 230, 1000000000000004), (5, 239, 1000000000000003), (5, 245, 1000000000000000), (7, 22, -2147483648), (7, 24, 2147483648), (8, 9, 1000000000000000), (8, 17, 1000000000000002), (8, 31, 1000000000000001)]
def mm_CL (o ix : Nat) : Option (Int64) := (mm_CLs.find? fun q => q.1 == o && q.2.1 == ix).map fun q => q.2.2
def mm_CCs : List (Nat × Nat × Nat) := [(0, 7, 1), (0, 10, 2), (0, 25, 4), (2, 15, 3), (9, 7, 0), (9, 10, 5)]
def mm_CC (o ix : Nat) : Option (Nat) := (mm_CCs.find? fun q => q.1 == o && q.2.1 == ix).map fun q => q.2.2
def mm_COs : List (Nat × Nat × String) := [(2, 15, "StagedCompiler$Instance")]
def mm_CO (o ix : Nat) : Option (String) := (mm_COs.find? fun q => q.1 == o && q.2.1 == ix).map fun q => q.2.2
def mm_JMs : List (Nat × Nat × Nat) := [(1, 75, 0), (2, 196, 1), (8, 33, 1), (8, 46, 3), (8, 50, 2)]
def mm_JM (o ix : Nat) : Option (Nat) := (mm_JMs.find? fun q => q.1 == o && q.2.1 == ix).map fun q => q.2.2
def mm_MTs : List (Nat × Nat × Nat × Nat × Nat) := [(0, 1, 7, 0, 3), (0, 9, 1, 0, 2), (0, 12, 2, 1, 2), (0, 31, 4, 2, 2), (1, 3, 7, 0, 3), (2, 3, 7, 0, 3), (2, 21, 3, 0, 2), (3, 3, 7, 0, 3), (4, 3, 7, 0, 3), (5, 1, 7, 0, 3), (0, 38, 21, 4, 1), (0, 42, 26, 5, 1), (0, 46, 20, 1, 1), (0, 50, 29, 3, 1), (0, 58, 28, 1, 1), (0, 78, 19, 1, 1), (0, 91, 27, 1, 1), (0, 95, 51, 2, 1), (0, 99, 56, 3, 1), (1, 50, 108, 1, 0), (1, 56, 22, 4, 1), (1, 60, 24, 4, 1), (1, 64, 19, 1, 1), (1, 67, 114, 1, 0), (1, 72, 23, 1, 1), (1, 81, 25, 1, 1), (1, 85, 116, 1, 0), (1, 88, 115, 1, 0), (1, 91, 111, 1, 0), (1, 94, 52, 1, 1), (2, 32, 31, 3, 1), (2, 36, 30, 3, 1), (2, 49, 33, 2, 1), (2, 56, 32, 4, 1), (2, 60, 48, 3, 1), (2, 64, 46, 4, 1), (2, 73, 112, 1, 0), (2, 81, 119, 2, 0), (2, 85, 52, 1, 1), (2, 94, 54, 3, 1), (2, 98, 34, 2, 1), (2, 101, 38, 2, 1), (2, 104, 39, 2, 1), (2, 107, 40, 2, 1), (2, 110, 45, 2, 1), (2, 113, 35, 2, 1), (2, 122, 53, 2, 1), (2, 129, 36, 4, 1), (2, 132, 37, 3, 1), (2, 138, 109, 1, 0), (2, 141, 110, 1, 0), (2, 148, 121, 4, 0), (2, 154, 120, 1, 0), (2, 163, 55, 2, 1), (2, 166, 47, 1, 1), (2, 170, 20, 1, 1), (2, 176, 41, 2, 1), (2, 182, 42, 3, 1), (2, 186, 43, 2, 1), (2, 190, 44, 4, 1), (3, 49, 47, 1, 1), (3, 56, 113, 1, 0), (3, 62, 49, 2, 1), (3, 66, 50, 1, 1), (3, 69, 119, 2, 0), (4, 37, 57, 5, 1), (4, 57, 59, 5, 1), (4, 60, 60, 5, 1), (4, 63, 61, 5, 1), (4, 66, 58, 5, 1), (4, 69, 120, 1, 0), (4, 81, 121, 4, 0), (4, 88, 122, 2, 0), (4, 97, 50, 1, 1), (5, 125, 62, 1, 1), (5, 129, 63, 1, 1), (5, 132, 66, 1, 1), (5, 136, 65, 1, 1), (5, 139, 67, 3, 1), (5, 143, 64, 1, 1), (5, 152, 72, 1, 1), (5, 156, 73, 1, 1), (5, 159, 77, 1, 1), (5, 162, 75, 3, 1), (5, 165, 71, 1, 1), (5, 168, 74, 2, 1), (5, 176, 80, 4, 1), (5, 180, 81, 4, 1), (5, 184, 79, 5, 1), (5, 188, 70, 2, 1), (5, 192, 86, 4, 1), (5, 196, 85, 5, 1), (5, 200, 87, 4, 1), (5, 204, 76, 2, 1), (5, 207, 82, 2, 1), (5, 211, 83, 2, 1), (5, 214, 84, 2, 1), (5, 217, 88, 2, 1), (5, 220, 78, 2, 1), (5, 223, 89, 2, 1), (5, 226, 90, 1, 1), (5, 232, 93, 1, 1), (5, 235, 94, 1, 1), (5, 241, 99, 3, 1), (5, 247, 95, 1, 1), (5, 250, 96, 1, 1), (5, 253, 97, 1, 1), (5, 256, 98, 1, 1), (5, 259, 101, 1, 1), (7, 9, 112, 1, 0), (7, 13, 113, 1, 0), (7, 16, 114, 1, 0), (7, 19, 115, 1, 0), (7, 26, 117, 1, 0), (7, 30, 118, 1, 0), (8, 11, 122, 2, 0), (8, 19, 123, 2, 0), (8, 22, 124, 2, 0), (8, 25, 119, 2, 0), (8, 39, 117, 1, 0), (8, 43, 118, 1, 0), (9, 9, 0, 0, 2), (9, 12, 5, 0, 2), (9, 13, 8, 4, 1), (9, 17, 68, 4, 1), (9, 18, 9, 5, 1), (9, 22, 69, 5, 1), (9, 23, 10, 3, 1), (9, 27, 91, 3, 1), (9, 28, 11, 0, 1), (9, 32, 92, 0, 1), (9, 33, 12, 1, 1), (9, 37, 102, 1, 1), (9, 38, 13, 2, 1), (9, 42, 103, 2, 1), (9, 43, 14, 2, 1), (9, 47, 104, 2, 1), (9, 48, 15, 2, 1), (9, 51, 105, 2, 1), (9, 52, 16, 1, 1), (9, 55, 106, 1, 1), (9, 56, 17, 3, 1), (9, 60, 100, 3, 1), (9, 61, 18, 1, 1), (9, 64, 107, 1, 1)]
def mm_MT (o ix : Nat) : Option (Nat × Nat × Nat) := (mm_MTs.find? fun q => q.1 == o && q.2.1 == ix).map fun q => q.2.2
theorem mm_findI {α : Type} {L : List (Nat × Nat × α)} {o ix : Nat} {x : α} (h : (L.find? fun q => q.1 == o && q.2.1 == ix).map (fun q => q.2.2) = some x) : (o, ix, x) ∈ L := by
  cases hf : L.find? (fun q => q.1 == o && q.2.1 == ix) with
  | none => rw [hf] at h; cases h
  | some q =>
    rw [hf] at h
    obtain ⟨a, b, y⟩ := q
    have h1 := List.find?_some hf
    have h2 := List.mem_of_find?_eq_some hf
    simp at h1
    obtain ⟨rfl, rfl⟩ := h1
    have h3 : y = x := Option.some.inj h
    rw [← h3]
    exact h2
theorem fl_0_15 : mm_FL 0 15 = some (0, 0) := by decide +kernel
theorem fl_0_21 : mm_FL 0 21 = some (0, 1) := by decide +kernel
theorem fl_0_27 : mm_FL 0 27 = some (2, 1) := by decide +kernel
theorem fl_0_34 : mm_FL 0 34 = some (0, 2) := by decide +kernel
theorem fl_1_9 : mm_FL 1 9 = some (1, 0) := by decide +kernel
theorem fl_1_15 : mm_FL 1 15 = some (1, 1) := by decide +kernel
theorem fl_1_18 : mm_FL 1 18 = some (1, 2) := by decide +kernel
theorem fl_1_21 : mm_FL 1 21 = some (1, 3) := by decide +kernel
theorem fl_1_24 : mm_FL 1 24 = some (1, 4) := by decide +kernel
theorem fl_1_27 : mm_FL 1 27 = some (1, 5) := by decide +kernel
theorem fl_1_31 : mm_FL 1 31 = some (1, 6) := by decide +kernel
theorem fl_1_34 : mm_FL 1 34 = some (1, 7) := by decide +kernel
theorem fl_1_37 : mm_FL 1 37 = some (1, 8) := by decide +kernel
theorem fl_1_40 : mm_FL 1 40 = some (1, 9) := by decide +kernel
theorem fl_1_43 : mm_FL 1 43 = some (1, 10) := by decide +kernel
theorem fl_1_47 : mm_FL 1 47 = some (1, 11) := by decide +kernel
theorem fl_2_9 : mm_FL 2 9 = some (2, 0) := by decide +kernel
theorem fl_2_17 : mm_FL 2 17 = some (2, 1) := by decide +kernel
theorem fl_2_22 : mm_FL 2 22 = some (2, 2) := by decide +kernel
theorem fl_2_26 : mm_FL 2 26 = some (2, 3) := by decide +kernel
theorem fl_2_29 : mm_FL 2 29 = some (2, 4) := by decide +kernel
theorem fl_3_9 : mm_FL 3 9 = some (3, 2) := by decide +kernel
theorem fl_3_15 : mm_FL 3 15 = some (3, 3) := by decide +kernel
theorem fl_3_19 : mm_FL 3 19 = some (3, 4) := by decide +kernel
theorem fl_3_22 : mm_FL 3 22 = some (3, 5) := by decide +kernel
theorem fl_3_26 : mm_FL 3 26 = some (3, 6) := by decide +kernel
theorem fl_3_29 : mm_FL 3 29 = some (3, 7) := by decide +kernel
theorem fl_3_32 : mm_FL 3 32 = some (3, 0) := by decide +kernel
theorem fl_3_38 : mm_FL 3 38 = some (3, 1) := by decide +kernel
theorem fl_4_9 : mm_FL 4 9 = some (4, 0) := by decide +kernel
theorem fl_4_15 : mm_FL 4 15 = some (4, 1) := by decide +kernel
theorem fl_4_19 : mm_FL 4 19 = some (4, 2) := by decide +kernel
theorem fl_4_23 : mm_FL 4 23 = some (4, 3) := by decide +kernel
theorem fl_5_7 : mm_FL 5 7 = some (5, 0) := by decide +kernel
theorem fl_5_13 : mm_FL 5 13 = some (5, 1) := by decide +kernel
theorem fl_5_16 : mm_FL 5 16 = some (5, 2) := by decide +kernel
theorem fl_5_19 : mm_FL 5 19 = some (5, 3) := by decide +kernel
theorem fl_5_22 : mm_FL 5 22 = some (5, 4) := by decide +kernel
theorem fl_5_25 : mm_FL 5 25 = some (5, 5) := by decide +kernel
theorem fl_5_29 : mm_FL 5 29 = some (5, 6) := by decide +kernel
theorem fl_5_32 : mm_FL 5 32 = some (5, 7) := by decide +kernel
theorem fl_5_35 : mm_FL 5 35 = some (5, 8) := by decide +kernel
theorem fl_5_38 : mm_FL 5 38 = some (5, 9) := by decide +kernel
theorem fl_5_41 : mm_FL 5 41 = some (5, 10) := by decide +kernel
theorem fl_5_45 : mm_FL 5 45 = some (5, 11) := by decide +kernel
theorem fl_5_48 : mm_FL 5 48 = some (5, 12) := by decide +kernel
theorem fl_5_51 : mm_FL 5 51 = some (5, 13) := by decide +kernel
theorem fl_5_54 : mm_FL 5 54 = some (5, 14) := by decide +kernel
theorem fl_5_57 : mm_FL 5 57 = some (5, 15) := by decide +kernel
theorem fl_5_60 : mm_FL 5 60 = some (5, 16) := by decide +kernel
theorem fl_5_63 : mm_FL 5 63 = some (5, 17) := by decide +kernel
theorem fl_5_66 : mm_FL 5 66 = some (5, 18) := by decide +kernel
theorem fl_5_69 : mm_FL 5 69 = some (5, 19) := by decide +kernel
theorem fl_5_72 : mm_FL 5 72 = some (5, 20) := by decide +kernel
theorem fl_5_75 : mm_FL 5 75 = some (5, 21) := by decide +kernel
theorem fl_5_78 : mm_FL 5 78 = some (5, 22) := by decide +kernel
theorem fl_5_82 : mm_FL 5 82 = some (5, 23) := by decide +kernel
theorem fl_5_85 : mm_FL 5 85 = some (5, 24) := by decide +kernel
theorem fl_5_88 : mm_FL 5 88 = some (5, 25) := by decide +kernel
theorem fl_5_91 : mm_FL 5 91 = some (5, 26) := by decide +kernel
theorem fl_5_94 : mm_FL 5 94 = some (5, 27) := by decide +kernel
theorem fl_5_97 : mm_FL 5 97 = some (5, 28) := by decide +kernel
theorem fl_5_100 : mm_FL 5 100 = some (5, 29) := by decide +kernel
theorem fl_5_103 : mm_FL 5 103 = some (5, 30) := by decide +kernel
theorem fl_5_106 : mm_FL 5 106 = some (5, 31) := by decide +kernel
theorem fl_5_109 : mm_FL 5 109 = some (5, 32) := by decide +kernel
theorem fl_5_112 : mm_FL 5 112 = some (5, 33) := by decide +kernel
theorem fl_5_116 : mm_FL 5 116 = some (5, 34) := by decide +kernel
theorem fl_5_119 : mm_FL 5 119 = some (5, 35) := by decide +kernel
theorem fl_5_122 : mm_FL 5 122 = some (5, 36) := by decide +kernel
theorem fl_0_54 : mm_FL 0 54 = some (2, 4) := by decide +kernel
theorem fl_0_61 : mm_FL 0 61 = some (3, 0) := by decide +kernel
theorem fl_0_68 : mm_FL 0 68 = some (3, 2) := by decide +kernel
theorem fl_0_74 : mm_FL 0 74 = some (3, 3) := by decide +kernel
theorem fl_0_81 : mm_FL 0 81 = some (3, 4) := by decide +kernel
theorem fl_0_84 : mm_FL 0 84 = some (3, 5) := by decide +kernel
theorem fl_0_88 : mm_FL 0 88 = some (3, 6) := by decide +kernel
theorem fl_0_103 : mm_FL 0 103 = some (1, 10) := by decide +kernel
theorem fl_0_106 : mm_FL 0 106 = some (1, 11) := by decide +kernel
theorem fl_0_109 : mm_FL 0 109 = some (2, 2) := by decide +kernel
theorem fl_0_112 : mm_FL 0 112 = some (4, 3) := by decide +kernel
theorem fl_1_99 : mm_FL 1 99 = some (3, 5) := by decide +kernel
theorem fl_2_40 : mm_FL 2 40 = some (1, 9) := by decide +kernel
theorem fl_2_46 : mm_FL 2 46 = some (3, 0) := by decide +kernel
theorem fl_2_53 : mm_FL 2 53 = some (3, 1) := by decide +kernel
theorem fl_2_68 : mm_FL 2 68 = some (3, 4) := by decide +kernel
theorem fl_2_77 : mm_FL 2 77 = some (3, 6) := by decide +kernel
theorem fl_2_88 : mm_FL 2 88 = some (1, 0) := by decide +kernel
theorem fl_2_91 : mm_FL 2 91 = some (1, 1) := by decide +kernel
theorem fl_2_116 : mm_FL 2 116 = some (3, 2) := by decide +kernel
theorem fl_2_119 : mm_FL 2 119 = some (3, 3) := by decide +kernel
theorem fl_2_126 : mm_FL 2 126 = some (1, 2) := by decide +kernel
theorem fl_2_144 : mm_FL 2 144 = some (3, 5) := by decide +kernel
theorem fl_2_160 : mm_FL 2 160 = some (1, 3) := by decide +kernel
theorem fl_2_173 : mm_FL 2 173 = some (1, 6) := by decide +kernel
theorem fl_2_179 : mm_FL 2 179 = some (1, 7) := by decide +kernel
theorem fl_2_193 : mm_FL 2 193 = some (3, 7) := by decide +kernel
theorem fl_3_41 : mm_FL 3 41 = some (1, 6) := by decide +kernel
theorem fl_3_46 : mm_FL 3 46 = some (1, 7) := by decide +kernel
theorem fl_3_53 : mm_FL 3 53 = some (1, 8) := by decide +kernel
theorem fl_4_26 : mm_FL 4 26 = some (1, 9) := by decide +kernel
theorem fl_4_32 : mm_FL 4 32 = some (3, 0) := by decide +kernel
theorem fl_4_43 : mm_FL 4 43 = some (3, 5) := by decide +kernel
theorem fl_4_47 : mm_FL 4 47 = some (3, 6) := by decide +kernel
theorem fl_4_51 : mm_FL 4 51 = some (1, 0) := by decide +kernel
theorem fl_4_54 : mm_FL 4 54 = some (1, 1) := by decide +kernel
theorem fl_4_75 : mm_FL 4 75 = some (1, 2) := by decide +kernel
theorem fl_4_78 : mm_FL 4 78 = some (3, 4) := by decide +kernel
theorem fl_4_85 : mm_FL 4 85 = some (1, 3) := by decide +kernel
theorem fl_4_94 : mm_FL 4 94 = some (3, 7) := by decide +kernel
theorem cn_0_66 : mm_CL 0 66 = some (1000000000000000) := by decide +kernel
theorem cn_2_158 : mm_CL 2 158 = some (1000000000000002) := by decide +kernel
theorem cn_3_60 : mm_CL 3 60 = some (31) := by decide +kernel
theorem cn_4_41 : mm_CL 4 41 = some (1000000000000004) := by decide +kernel
theorem cn_4_92 : mm_CL 4 92 = some (1000000000000003) := by decide +kernel
theorem cn_5_146 : mm_CL 5 146 = some (31) := by decide +kernel
theorem cn_5_148 : mm_CL 5 148 = some (-2147483648) := by decide +kernel
theorem cn_5_150 : mm_CL 5 150 = some (2147483648) := by decide +kernel
theorem cn_5_172 : mm_CL 5 172 = some (1000000000000002) := by decide +kernel
theorem cn_5_174 : mm_CL 5 174 = some (1000000000000001) := by decide +kernel
theorem cn_5_230 : mm_CL 5 230 = some (1000000000000004) := by decide +kernel
theorem cn_5_239 : mm_CL 5 239 = some (1000000000000003) := by decide +kernel
theorem cn_5_245 : mm_CL 5 245 = some (1000000000000000) := by decide +kernel
theorem cn_7_22 : mm_CL 7 22 = some (-2147483648) := by decide +kernel
theorem cn_7_24 : mm_CL 7 24 = some (2147483648) := by decide +kernel
theorem cn_8_9 : mm_CL 8 9 = some (1000000000000000) := by decide +kernel
theorem cn_8_17 : mm_CL 8 17 = some (1000000000000002) := by decide +kernel
theorem cn_8_31 : mm_CL 8 31 = some (1000000000000001) := by decide +kernel
theorem cc_0_7 : mm_CC 0 7 = some 1 := by decide +kernel
theorem cc_0_10 : mm_CC 0 10 = some 2 := by decide +kernel
theorem cc_0_25 : mm_CC 0 25 = some 4 := by decide +kernel
theorem cc_2_15 : mm_CC 2 15 = some 3 := by decide +kernel
theorem cc_9_7 : mm_CC 9 7 = some 0 := by decide +kernel
theorem cc_9_10 : mm_CC 9 10 = some 5 := by decide +kernel
theorem co_2_15 : mm_CO 2 15 = some "StagedCompiler$Instance" := by decide +kernel
theorem jm_1_75 : mm_JM 1 75 = some 0 := by decide +kernel
theorem jm_2_196 : mm_JM 2 196 = some 1 := by decide +kernel
theorem jm_8_33 : mm_JM 8 33 = some 1 := by decide +kernel
theorem jm_8_46 : mm_JM 8 46 = some 3 := by decide +kernel
theorem jm_8_50 : mm_JM 8 50 = some 2 := by decide +kernel
theorem mt_0_1 : mm_MT 0 1 = some (7, 0, 3) := by decide +kernel
theorem mt_0_9 : mm_MT 0 9 = some (1, 0, 2) := by decide +kernel
theorem mt_0_12 : mm_MT 0 12 = some (2, 1, 2) := by decide +kernel
theorem mt_0_31 : mm_MT 0 31 = some (4, 2, 2) := by decide +kernel
theorem mt_1_3 : mm_MT 1 3 = some (7, 0, 3) := by decide +kernel
theorem mt_2_3 : mm_MT 2 3 = some (7, 0, 3) := by decide +kernel
theorem mt_2_21 : mm_MT 2 21 = some (3, 0, 2) := by decide +kernel
theorem mt_3_3 : mm_MT 3 3 = some (7, 0, 3) := by decide +kernel
theorem mt_4_3 : mm_MT 4 3 = some (7, 0, 3) := by decide +kernel
theorem mt_5_1 : mm_MT 5 1 = some (7, 0, 3) := by decide +kernel
theorem mt_0_38 : mm_MT 0 38 = some (21, 4, 1) := by decide +kernel
theorem mt_0_42 : mm_MT 0 42 = some (26, 5, 1) := by decide +kernel
theorem mt_0_46 : mm_MT 0 46 = some (20, 1, 1) := by decide +kernel
theorem mt_0_50 : mm_MT 0 50 = some (29, 3, 1) := by decide +kernel
theorem mt_0_58 : mm_MT 0 58 = some (28, 1, 1) := by decide +kernel
theorem mt_0_78 : mm_MT 0 78 = some (19, 1, 1) := by decide +kernel
theorem mt_0_91 : mm_MT 0 91 = some (27, 1, 1) := by decide +kernel
theorem mt_0_95 : mm_MT 0 95 = some (51, 2, 1) := by decide +kernel
theorem mt_0_99 : mm_MT 0 99 = some (56, 3, 1) := by decide +kernel
theorem mt_1_50 : mm_MT 1 50 = some (108, 1, 0) := by decide +kernel
theorem jn_1_50 : mm_JM 1 50 = none := by decide +kernel
theorem mt_1_56 : mm_MT 1 56 = some (22, 4, 1) := by decide +kernel
theorem mt_1_60 : mm_MT 1 60 = some (24, 4, 1) := by decide +kernel
theorem mt_1_64 : mm_MT 1 64 = some (19, 1, 1) := by decide +kernel
theorem mt_1_67 : mm_MT 1 67 = some (114, 1, 0) := by decide +kernel
theorem jn_1_67 : mm_JM 1 67 = none := by decide +kernel
theorem mt_1_72 : mm_MT 1 72 = some (23, 1, 1) := by decide +kernel
theorem mt_1_81 : mm_MT 1 81 = some (25, 1, 1) := by decide +kernel
theorem mt_1_85 : mm_MT 1 85 = some (116, 1, 0) := by decide +kernel
theorem jn_1_85 : mm_JM 1 85 = none := by decide +kernel
theorem mt_1_88 : mm_MT 1 88 = some (115, 1, 0) := by decide +kernel
theorem jn_1_88 : mm_JM 1 88 = none := by decide +kernel
theorem mt_1_91 : mm_MT 1 91 = some (111, 1, 0) := by decide +kernel
theorem jn_1_91 : mm_JM 1 91 = none := by decide +kernel
theorem mt_1_94 : mm_MT 1 94 = some (52, 1, 1) := by decide +kernel
theorem mt_2_32 : mm_MT 2 32 = some (31, 3, 1) := by decide +kernel
theorem mt_2_36 : mm_MT 2 36 = some (30, 3, 1) := by decide +kernel
theorem mt_2_49 : mm_MT 2 49 = some (33, 2, 1) := by decide +kernel
theorem mt_2_56 : mm_MT 2 56 = some (32, 4, 1) := by decide +kernel
theorem mt_2_60 : mm_MT 2 60 = some (48, 3, 1) := by decide +kernel
theorem mt_2_64 : mm_MT 2 64 = some (46, 4, 1) := by decide +kernel
theorem mt_2_73 : mm_MT 2 73 = some (112, 1, 0) := by decide +kernel
theorem jn_2_73 : mm_JM 2 73 = none := by decide +kernel
theorem mt_2_81 : mm_MT 2 81 = some (119, 2, 0) := by decide +kernel
theorem jn_2_81 : mm_JM 2 81 = none := by decide +kernel
theorem mt_2_85 : mm_MT 2 85 = some (52, 1, 1) := by decide +kernel
theorem mt_2_94 : mm_MT 2 94 = some (54, 3, 1) := by decide +kernel
theorem mt_2_98 : mm_MT 2 98 = some (34, 2, 1) := by decide +kernel
theorem mt_2_101 : mm_MT 2 101 = some (38, 2, 1) := by decide +kernel
theorem mt_2_104 : mm_MT 2 104 = some (39, 2, 1) := by decide +kernel
theorem mt_2_107 : mm_MT 2 107 = some (40, 2, 1) := by decide +kernel
theorem mt_2_110 : mm_MT 2 110 = some (45, 2, 1) := by decide +kernel
theorem mt_2_113 : mm_MT 2 113 = some (35, 2, 1) := by decide +kernel
theorem mt_2_122 : mm_MT 2 122 = some (53, 2, 1) := by decide +kernel
theorem mt_2_129 : mm_MT 2 129 = some (36, 4, 1) := by decide +kernel
theorem mt_2_132 : mm_MT 2 132 = some (37, 3, 1) := by decide +kernel
theorem mt_2_138 : mm_MT 2 138 = some (109, 1, 0) := by decide +kernel
theorem jn_2_138 : mm_JM 2 138 = none := by decide +kernel
theorem mt_2_141 : mm_MT 2 141 = some (110, 1, 0) := by decide +kernel
theorem jn_2_141 : mm_JM 2 141 = none := by decide +kernel
theorem mt_2_148 : mm_MT 2 148 = some (121, 4, 0) := by decide +kernel
theorem jn_2_148 : mm_JM 2 148 = none := by decide +kernel
theorem mt_2_154 : mm_MT 2 154 = some (120, 1, 0) := by decide +kernel
theorem jn_2_154 : mm_JM 2 154 = none := by decide +kernel
theorem mt_2_163 : mm_MT 2 163 = some (55, 2, 1) := by decide +kernel
theorem mt_2_166 : mm_MT 2 166 = some (47, 1, 1) := by decide +kernel
theorem mt_2_170 : mm_MT 2 170 = some (20, 1, 1) := by decide +kernel
theorem mt_2_176 : mm_MT 2 176 = some (41, 2, 1) := by decide +kernel
theorem mt_2_182 : mm_MT 2 182 = some (42, 3, 1) := by decide +kernel
theorem mt_2_186 : mm_MT 2 186 = some (43, 2, 1) := by decide +kernel
theorem mt_2_190 : mm_MT 2 190 = some (44, 4, 1) := by decide +kernel
theorem mt_3_49 : mm_MT 3 49 = some (47, 1, 1) := by decide +kernel
theorem mt_3_56 : mm_MT 3 56 = some (113, 1, 0) := by decide +kernel
theorem jn_3_56 : mm_JM 3 56 = none := by decide +kernel
theorem mt_3_62 : mm_MT 3 62 = some (49, 2, 1) := by decide +kernel
theorem mt_3_66 : mm_MT 3 66 = some (50, 1, 1) := by decide +kernel
theorem mt_3_69 : mm_MT 3 69 = some (119, 2, 0) := by decide +kernel
theorem jn_3_69 : mm_JM 3 69 = none := by decide +kernel
theorem mt_4_37 : mm_MT 4 37 = some (57, 5, 1) := by decide +kernel
theorem mt_4_57 : mm_MT 4 57 = some (59, 5, 1) := by decide +kernel
theorem mt_4_60 : mm_MT 4 60 = some (60, 5, 1) := by decide +kernel
theorem mt_4_63 : mm_MT 4 63 = some (61, 5, 1) := by decide +kernel
theorem mt_4_66 : mm_MT 4 66 = some (58, 5, 1) := by decide +kernel
theorem mt_4_69 : mm_MT 4 69 = some (120, 1, 0) := by decide +kernel
theorem jn_4_69 : mm_JM 4 69 = none := by decide +kernel
theorem mt_4_81 : mm_MT 4 81 = some (121, 4, 0) := by decide +kernel
theorem jn_4_81 : mm_JM 4 81 = none := by decide +kernel
theorem mt_4_88 : mm_MT 4 88 = some (122, 2, 0) := by decide +kernel
theorem jn_4_88 : mm_JM 4 88 = none := by decide +kernel
theorem mt_4_97 : mm_MT 4 97 = some (50, 1, 1) := by decide +kernel
theorem mt_5_125 : mm_MT 5 125 = some (62, 1, 1) := by decide +kernel
theorem mt_5_129 : mm_MT 5 129 = some (63, 1, 1) := by decide +kernel
theorem mt_5_132 : mm_MT 5 132 = some (66, 1, 1) := by decide +kernel
theorem mt_5_136 : mm_MT 5 136 = some (65, 1, 1) := by decide +kernel
theorem mt_5_139 : mm_MT 5 139 = some (67, 3, 1) := by decide +kernel
theorem mt_5_143 : mm_MT 5 143 = some (64, 1, 1) := by decide +kernel
theorem mt_5_152 : mm_MT 5 152 = some (72, 1, 1) := by decide +kernel
theorem mt_5_156 : mm_MT 5 156 = some (73, 1, 1) := by decide +kernel
theorem mt_5_159 : mm_MT 5 159 = some (77, 1, 1) := by decide +kernel
theorem mt_5_162 : mm_MT 5 162 = some (75, 3, 1) := by decide +kernel
theorem mt_5_165 : mm_MT 5 165 = some (71, 1, 1) := by decide +kernel
theorem mt_5_168 : mm_MT 5 168 = some (74, 2, 1) := by decide +kernel
theorem mt_5_176 : mm_MT 5 176 = some (80, 4, 1) := by decide +kernel
theorem mt_5_180 : mm_MT 5 180 = some (81, 4, 1) := by decide +kernel
theorem mt_5_184 : mm_MT 5 184 = some (79, 5, 1) := by decide +kernel
theorem mt_5_188 : mm_MT 5 188 = some (70, 2, 1) := by decide +kernel
theorem mt_5_192 : mm_MT 5 192 = some (86, 4, 1) := by decide +kernel
theorem mt_5_196 : mm_MT 5 196 = some (85, 5, 1) := by decide +kernel
theorem mt_5_200 : mm_MT 5 200 = some (87, 4, 1) := by decide +kernel
theorem mt_5_204 : mm_MT 5 204 = some (76, 2, 1) := by decide +kernel
theorem mt_5_207 : mm_MT 5 207 = some (82, 2, 1) := by decide +kernel
theorem mt_5_211 : mm_MT 5 211 = some (83, 2, 1) := by decide +kernel
theorem mt_5_214 : mm_MT 5 214 = some (84, 2, 1) := by decide +kernel
theorem mt_5_217 : mm_MT 5 217 = some (88, 2, 1) := by decide +kernel
theorem mt_5_220 : mm_MT 5 220 = some (78, 2, 1) := by decide +kernel
theorem mt_5_223 : mm_MT 5 223 = some (89, 2, 1) := by decide +kernel
theorem mt_5_226 : mm_MT 5 226 = some (90, 1, 1) := by decide +kernel
theorem mt_5_232 : mm_MT 5 232 = some (93, 1, 1) := by decide +kernel
theorem mt_5_235 : mm_MT 5 235 = some (94, 1, 1) := by decide +kernel
theorem mt_5_241 : mm_MT 5 241 = some (99, 3, 1) := by decide +kernel
theorem mt_5_247 : mm_MT 5 247 = some (95, 1, 1) := by decide +kernel
theorem mt_5_250 : mm_MT 5 250 = some (96, 1, 1) := by decide +kernel
theorem mt_5_253 : mm_MT 5 253 = some (97, 1, 1) := by decide +kernel
theorem mt_5_256 : mm_MT 5 256 = some (98, 1, 1) := by decide +kernel
theorem mt_5_259 : mm_MT 5 259 = some (101, 1, 1) := by decide +kernel
theorem mt_7_9 : mm_MT 7 9 = some (112, 1, 0) := by decide +kernel
theorem jn_7_9 : mm_JM 7 9 = none := by decide +kernel
theorem mt_7_13 : mm_MT 7 13 = some (113, 1, 0) := by decide +kernel
theorem jn_7_13 : mm_JM 7 13 = none := by decide +kernel
theorem mt_7_16 : mm_MT 7 16 = some (114, 1, 0) := by decide +kernel
theorem jn_7_16 : mm_JM 7 16 = none := by decide +kernel
theorem mt_7_19 : mm_MT 7 19 = some (115, 1, 0) := by decide +kernel
theorem jn_7_19 : mm_JM 7 19 = none := by decide +kernel
theorem mt_7_26 : mm_MT 7 26 = some (117, 1, 0) := by decide +kernel
theorem jn_7_26 : mm_JM 7 26 = none := by decide +kernel
theorem mt_7_30 : mm_MT 7 30 = some (118, 1, 0) := by decide +kernel
theorem jn_7_30 : mm_JM 7 30 = none := by decide +kernel
theorem mt_8_11 : mm_MT 8 11 = some (122, 2, 0) := by decide +kernel
theorem jn_8_11 : mm_JM 8 11 = none := by decide +kernel
theorem mt_8_19 : mm_MT 8 19 = some (123, 2, 0) := by decide +kernel
theorem jn_8_19 : mm_JM 8 19 = none := by decide +kernel
theorem mt_8_22 : mm_MT 8 22 = some (124, 2, 0) := by decide +kernel
theorem jn_8_22 : mm_JM 8 22 = none := by decide +kernel
theorem mt_8_25 : mm_MT 8 25 = some (119, 2, 0) := by decide +kernel
theorem jn_8_25 : mm_JM 8 25 = none := by decide +kernel
theorem mt_8_39 : mm_MT 8 39 = some (117, 1, 0) := by decide +kernel
theorem jn_8_39 : mm_JM 8 39 = none := by decide +kernel
theorem mt_8_43 : mm_MT 8 43 = some (118, 1, 0) := by decide +kernel
theorem jn_8_43 : mm_JM 8 43 = none := by decide +kernel
theorem mt_9_9 : mm_MT 9 9 = some (0, 0, 2) := by decide +kernel
theorem mt_9_12 : mm_MT 9 12 = some (5, 0, 2) := by decide +kernel
theorem mt_9_13 : mm_MT 9 13 = some (8, 4, 1) := by decide +kernel
theorem mt_9_17 : mm_MT 9 17 = some (68, 4, 1) := by decide +kernel
theorem mt_9_18 : mm_MT 9 18 = some (9, 5, 1) := by decide +kernel
theorem mt_9_22 : mm_MT 9 22 = some (69, 5, 1) := by decide +kernel
theorem mt_9_23 : mm_MT 9 23 = some (10, 3, 1) := by decide +kernel
theorem mt_9_27 : mm_MT 9 27 = some (91, 3, 1) := by decide +kernel
theorem mt_9_28 : mm_MT 9 28 = some (11, 0, 1) := by decide +kernel
theorem mt_9_32 : mm_MT 9 32 = some (92, 0, 1) := by decide +kernel
theorem mt_9_33 : mm_MT 9 33 = some (12, 1, 1) := by decide +kernel
theorem mt_9_37 : mm_MT 9 37 = some (102, 1, 1) := by decide +kernel
theorem mt_9_38 : mm_MT 9 38 = some (13, 2, 1) := by decide +kernel
theorem mt_9_42 : mm_MT 9 42 = some (103, 2, 1) := by decide +kernel
theorem mt_9_43 : mm_MT 9 43 = some (14, 2, 1) := by decide +kernel
theorem mt_9_47 : mm_MT 9 47 = some (104, 2, 1) := by decide +kernel
theorem mt_9_48 : mm_MT 9 48 = some (15, 2, 1) := by decide +kernel
theorem mt_9_51 : mm_MT 9 51 = some (105, 2, 1) := by decide +kernel
theorem mt_9_52 : mm_MT 9 52 = some (16, 1, 1) := by decide +kernel
theorem mt_9_55 : mm_MT 9 55 = some (106, 1, 1) := by decide +kernel
theorem mt_9_56 : mm_MT 9 56 = some (17, 3, 1) := by decide +kernel
theorem mt_9_60 : mm_MT 9 60 = some (100, 3, 1) := by decide +kernel
theorem mt_9_61 : mm_MT 9 61 = some (18, 1, 1) := by decide +kernel
theorem mt_9_64 : mm_MT 9 64 = some (107, 1, 1) := by decide +kernel
def mm_nid : Nat := 125
def mm_y (id : Nat) : MethodName := match id with
  | 0 => ⟨"StagedCompiler", "<init>", "()V"⟩
  | 1 => ⟨"StagedCompiler$Program", "<init>", "()V"⟩
  | 2 => ⟨"StagedCompiler$Compilation", "<init>", "(LStagedCompiler$Program;)V"⟩
  | 3 => ⟨"StagedCompiler$Instance", "<init>", "()V"⟩
  | 4 => ⟨"StagedCompiler$Machine", "<init>", "(LStagedCompiler$Program;[LStagedCompiler$Instance;)V"⟩
  | 5 => ⟨"StagedCompilerModel", "<init>", "()V"⟩
  | 6 => ⟨"StagedCompiler", "<init>", "()V"⟩
  | 7 => ⟨"StagedCompiler", "<init>", "()V"⟩
  | 8 => ⟨"StagedCompiler", "node", "(IIII)I"⟩
  | 9 => ⟨"StagedCompiler", "define", "(IIIII)I"⟩
  | 10 => ⟨"StagedCompiler", "compile", "(III)I"⟩
  | 11 => ⟨"StagedCompiler", "errorAt", "()I"⟩
  | 12 => ⟨"StagedCompiler", "functionOf", "(I)I"⟩
  | 13 => ⟨"StagedCompiler", "countOf", "(II)J"⟩
  | 14 => ⟨"StagedCompiler", "typeOf", "(II)I"⟩
  | 15 => ⟨"StagedCompiler", "known", "(II)J"⟩
  | 16 => ⟨"StagedCompiler", "size", "(I)I"⟩
  | 17 => ⟨"StagedCompiler", "run", "(III)J"⟩
  | 18 => ⟨"StagedCompiler", "count", "(I)I"⟩
  | 19 => ⟨"StagedCompiler$Program", "hasNode", "(I)Z"⟩
  | 20 => ⟨"StagedCompiler$Program", "hasFunction", "(I)Z"⟩
  | 21 => ⟨"StagedCompiler$Program", "addNode", "(IIII)I"⟩
  | 22 => ⟨"StagedCompiler$Program", "hasOperands", "(IIII)Z"⟩
  | 23 => ⟨"StagedCompiler$Program", "mayBeArgument", "(I)Z"⟩
  | 24 => ⟨"StagedCompiler$Program", "levelAbove", "(IIII)I"⟩
  | 25 => ⟨"StagedCompiler$Program", "levelOfArgument", "(I)I"⟩
  | 26 => ⟨"StagedCompiler$Program", "addFunction", "(IIIII)I"⟩
  | 27 => ⟨"StagedCompiler$Program", "nodesLeftToRun", "(LStagedCompiler$Instance;)I"⟩
  | 28 => ⟨"StagedCompiler$Compilation", "hasInstance", "(I)Z"⟩
  | 29 => ⟨"StagedCompiler$Compilation", "compileAll", "(IJJ)I"⟩
  | 30 => ⟨"StagedCompiler$Compilation", "fail", "(III)Z"⟩
  | 31 => ⟨"StagedCompiler$Compilation", "want", "(IJJ)I"⟩
  | 32 => ⟨"StagedCompiler$Compilation", "passes", "(LStagedCompiler$Instance;III)Z"⟩
  | 33 => ⟨"StagedCompiler$Compilation", "look", "(LStagedCompiler$Instance;I)Z"⟩
  | 34 => ⟨"StagedCompiler$Compilation", "lookAtParameter", "(LStagedCompiler$Instance;I)Z"⟩
  | 35 => ⟨"StagedCompiler$Compilation", "lookAtPair", "(LStagedCompiler$Instance;I)Z"⟩
  | 36 => ⟨"StagedCompiler$Compilation", "fits", "(LStagedCompiler$Instance;III)Z"⟩
  | 37 => ⟨"StagedCompiler$Compilation", "fittedType", "(LStagedCompiler$Instance;II)I"⟩
  | 38 => ⟨"StagedCompiler$Compilation", "lookAtIf", "(LStagedCompiler$Instance;I)Z"⟩
  | 39 => ⟨"StagedCompiler$Compilation", "lookAtCast", "(LStagedCompiler$Instance;I)Z"⟩
  | 40 => ⟨"StagedCompiler$Compilation", "lookAtCall", "(LStagedCompiler$Instance;I)Z"⟩
  | 41 => ⟨"StagedCompiler$Compilation", "isGivenAsDue", "(II)Z"⟩
  | 42 => ⟨"StagedCompiler$Compilation", "isCountIfDue", "(LStagedCompiler$Instance;II)Z"⟩
  | 43 => ⟨"StagedCompiler$Compilation", "valueOfArgument", "(LStagedCompiler$Instance;I)J"⟩
  | 44 => ⟨"StagedCompiler$Compilation", "passesArgument", "(LStagedCompiler$Instance;III)Z"⟩
  | 45 => ⟨"StagedCompiler$Compilation", "lookAtWidth", "(LStagedCompiler$Instance;I)Z"⟩
  | 46 => ⟨"StagedCompiler$Instance", "begin", "(LStagedCompiler$Program;IJJ)Z"⟩
  | 47 => ⟨"StagedCompiler$Instance", "typeByCode", "(I)I"⟩
  | 48 => ⟨"StagedCompiler$Instance", "isOf", "(IJJ)Z"⟩
  | 49 => ⟨"StagedCompiler$Instance", "hasCount", "(IJ)Z"⟩
  | 50 => ⟨"StagedCompiler$Instance", "isRunParameter", "(I)Z"⟩
  | 51 => ⟨"StagedCompiler$Instance", "takes", "(IJ)Z"⟩
  | 52 => ⟨"StagedCompiler$Instance", "wasLookedAt", "(I)Z"⟩
  | 53 => ⟨"StagedCompiler$Instance", "find", "(II)Z"⟩
  | 54 => ⟨"StagedCompiler$Instance", "findKnown", "(IIJ)Z"⟩
  | 55 => ⟨"StagedCompiler$Instance", "findSameAs", "(II)Z"⟩
  | 56 => ⟨"StagedCompiler$Machine", "runBody", "(LStagedCompiler$Instance;JJ)J"⟩
  | 57 => ⟨"StagedCompiler$Machine", "runNode", "(LStagedCompiler$Instance;IJJI)J"⟩
  | 58 => ⟨"StagedCompiler$Machine", "runPair", "(LStagedCompiler$Instance;IJJI)J"⟩
  | 59 => ⟨"StagedCompiler$Machine", "runIf", "(LStagedCompiler$Instance;IJJI)J"⟩
  | 60 => ⟨"StagedCompiler$Machine", "runCast", "(LStagedCompiler$Instance;IJJI)J"⟩
  | 61 => ⟨"StagedCompiler$Machine", "runCall", "(LStagedCompiler$Instance;IJJI)J"⟩
  | 62 => ⟨"StagedCompilerModel", "wide", "(I)Z"⟩
  | 63 => ⟨"StagedCompilerModel", "isIntCode", "(I)Z"⟩
  | 64 => ⟨"StagedCompilerModel", "isCode", "(I)Z"⟩
  | 65 => ⟨"StagedCompilerModel", "isNode", "(I)Z"⟩
  | 66 => ⟨"StagedCompilerModel", "levelOf", "(I)I"⟩
  | 67 => ⟨"StagedCompilerModel", "above", "(III)I"⟩
  | 68 => ⟨"StagedCompilerModel", "node", "(IIII)I"⟩
  | 69 => ⟨"StagedCompilerModel", "define", "(IIIII)I"⟩
  | 70 => ⟨"StagedCompilerModel", "typeIn", "(II)I"⟩
  | 71 => ⟨"StagedCompilerModel", "isInt", "(I)Z"⟩
  | 72 => ⟨"StagedCompilerModel", "low", "(I)J"⟩
  | 73 => ⟨"StagedCompilerModel", "high", "(I)J"⟩
  | 74 => ⟨"StagedCompilerModel", "fitsIn", "(IJ)Z"⟩
  | 75 => ⟨"StagedCompilerModel", "fail", "(III)I"⟩
  | 76 => ⟨"StagedCompilerModel", "codeOf", "(II)I"⟩
  | 77 => ⟨"StagedCompilerModel", "argsWrong", "(I)Z"⟩
  | 78 => ⟨"StagedCompilerModel", "needs", "(II)I"⟩
  | 79 => ⟨"StagedCompilerModel", "found", "(IIIZJ)V"⟩
  | 80 => ⟨"StagedCompilerModel", "fit", "(IIII)I"⟩
  | 81 => ⟨"StagedCompilerModel", "reckon", "(IIJJ)J"⟩
  | 82 => ⟨"StagedCompilerModel", "lookTwo", "(II)V"⟩
  | 83 => ⟨"StagedCompilerModel", "lookIf", "(II)V"⟩
  | 84 => ⟨"StagedCompilerModel", "lookCast", "(II)V"⟩
  | 85 => ⟨"StagedCompilerModel", "want", "(IIIJJ)I"⟩
  | 86 => ⟨"StagedCompilerModel", "same", "(IIJJ)Z"⟩
  | 87 => ⟨"StagedCompilerModel", "goes", "(IIII)Z"⟩
  | 88 => ⟨"StagedCompilerModel", "lookCall", "(II)V"⟩
  | 89 => ⟨"StagedCompilerModel", "look", "(II)V"⟩
  | 90 => ⟨"StagedCompilerModel", "lookAtBody", "(I)V"⟩
  | 91 => ⟨"StagedCompilerModel", "compile", "(III)I"⟩
  | 92 => ⟨"StagedCompilerModel", "errorAt", "()I"⟩
  | 93 => ⟨"StagedCompilerModel", "enter", "(I)V"⟩
  | 94 => ⟨"StagedCompilerModel", "leave", "(J)V"⟩
  | 95 => ⟨"StagedCompilerModel", "stepTwo", "(I)V"⟩
  | 96 => ⟨"StagedCompilerModel", "stepIf", "(I)V"⟩
  | 97 => ⟨"StagedCompilerModel", "stepCast", "(I)V"⟩
  | 98 => ⟨"StagedCompilerModel", "stepCall", "(I)V"⟩
  | 99 => ⟨"StagedCompilerModel", "misfits", "(III)Z"⟩
  | 100 => ⟨"StagedCompilerModel", "run", "(III)J"⟩
  | 101 => ⟨"StagedCompilerModel", "none", "(I)Z"⟩
  | 102 => ⟨"StagedCompilerModel", "functionOf", "(I)I"⟩
  | 103 => ⟨"StagedCompilerModel", "countOf", "(II)J"⟩
  | 104 => ⟨"StagedCompilerModel", "typeOf", "(II)I"⟩
  | 105 => ⟨"StagedCompilerModel", "known", "(II)J"⟩
  | 106 => ⟨"StagedCompilerModel", "size", "(I)I"⟩
  | 107 => ⟨"StagedCompilerModel", "count", "(I)I"⟩
  | 108 => ⟨"StagedCompiler$Kind", "isOne", "(I)Z"⟩
  | 109 => ⟨"StagedCompiler$Kind", "isWrapOrClamp", "(I)Z"⟩
  | 110 => ⟨"StagedCompiler$Kind", "isComparison", "(I)Z"⟩
  | 111 => ⟨"StagedCompiler$Kind", "countsForSize", "(I)Z"⟩
  | 112 => ⟨"StagedCompiler$Types", "isInt", "(I)Z"⟩
  | 113 => ⟨"StagedCompiler$Types", "isByParameter", "(I)Z"⟩
  | 114 => ⟨"StagedCompiler$Types", "isCastCode", "(I)Z"⟩
  | 115 => ⟨"StagedCompiler$Types", "isResultCode", "(I)Z"⟩
  | 116 => ⟨"StagedCompiler$Types", "isParameterCode", "(I)Z"⟩
  | 117 => ⟨"StagedCompiler$Types", "lowest", "(I)J"⟩
  | 118 => ⟨"StagedCompiler$Types", "highest", "(I)J"⟩
  | 119 => ⟨"StagedCompiler$Types", "holds", "(IJ)Z"⟩
  | 120 => ⟨"StagedCompiler$Arithmetic", "isTrap", "(J)Z"⟩
  | 121 => ⟨"StagedCompiler$Arithmetic", "work", "(IIJJ)J"⟩
  | 122 => ⟨"StagedCompiler$Arithmetic", "checked", "(IJ)J"⟩
  | 123 => ⟨"StagedCompiler$Arithmetic", "wrapped", "(IJ)J"⟩
  | _ => ⟨"StagedCompiler$Arithmetic", "clamped", "(IJ)J"⟩
def mm_cc (id : Nat) : ByteArray := match id with
  | 0 => prog_1_method_1_code
  | 1 => prog_7_method_1_code
  | 2 => prog_3_method_1_code
  | 3 => prog_4_method_1_code
  | 4 => prog_6_method_1_code
  | 5 => prog_10_method_1_code
  | 6 => prog_1_method_1_code
  | 7 => prog_1_method_1_code
  | 8 => prog_1_method_2_code
  | 9 => prog_1_method_3_code
  | 10 => prog_1_method_4_code
  | 11 => prog_1_method_5_code
  | 12 => prog_1_method_6_code
  | 13 => prog_1_method_7_code
  | 14 => prog_1_method_8_code
  | 15 => prog_1_method_9_code
  | 16 => prog_1_method_10_code
  | 17 => prog_1_method_11_code
  | 18 => prog_1_method_12_code
  | 19 => prog_7_method_2_code
  | 20 => prog_7_method_3_code
  | 21 => prog_7_method_4_code
  | 22 => prog_7_method_5_code
  | 23 => prog_7_method_6_code
  | 24 => prog_7_method_7_code
  | 25 => prog_7_method_8_code
  | 26 => prog_7_method_9_code
  | 27 => prog_7_method_10_code
  | 28 => prog_3_method_2_code
  | 29 => prog_3_method_3_code
  | 30 => prog_3_method_4_code
  | 31 => prog_3_method_5_code
  | 32 => prog_3_method_6_code
  | 33 => prog_3_method_7_code
  | 34 => prog_3_method_8_code
  | 35 => prog_3_method_9_code
  | 36 => prog_3_method_10_code
  | 37 => prog_3_method_11_code
  | 38 => prog_3_method_12_code
  | 39 => prog_3_method_13_code
  | 40 => prog_3_method_14_code
  | 41 => prog_3_method_15_code
  | 42 => prog_3_method_16_code
  | 43 => prog_3_method_17_code
  | 44 => prog_3_method_18_code
  | 45 => prog_3_method_19_code
  | 46 => prog_4_method_2_code
  | 47 => prog_4_method_3_code
  | 48 => prog_4_method_4_code
  | 49 => prog_4_method_5_code
  | 50 => prog_4_method_6_code
  | 51 => prog_4_method_7_code
  | 52 => prog_4_method_8_code
  | 53 => prog_4_method_9_code
  | 54 => prog_4_method_10_code
  | 55 => prog_4_method_11_code
  | 56 => prog_6_method_2_code
  | 57 => prog_6_method_3_code
  | 58 => prog_6_method_4_code
  | 59 => prog_6_method_5_code
  | 60 => prog_6_method_6_code
  | 61 => prog_6_method_7_code
  | 62 => prog_10_method_2_code
  | 63 => prog_10_method_3_code
  | 64 => prog_10_method_4_code
  | 65 => prog_10_method_5_code
  | 66 => prog_10_method_6_code
  | 67 => prog_10_method_7_code
  | 68 => prog_10_method_8_code
  | 69 => prog_10_method_9_code
  | 70 => prog_10_method_10_code
  | 71 => prog_10_method_11_code
  | 72 => prog_10_method_12_code
  | 73 => prog_10_method_13_code
  | 74 => prog_10_method_14_code
  | 75 => prog_10_method_15_code
  | 76 => prog_10_method_16_code
  | 77 => prog_10_method_17_code
  | 78 => prog_10_method_18_code
  | 79 => prog_10_method_19_code
  | 80 => prog_10_method_20_code
  | 81 => prog_10_method_21_code
  | 82 => prog_10_method_22_code
  | 83 => prog_10_method_23_code
  | 84 => prog_10_method_24_code
  | 85 => prog_10_method_25_code
  | 86 => prog_10_method_26_code
  | 87 => prog_10_method_27_code
  | 88 => prog_10_method_28_code
  | 89 => prog_10_method_29_code
  | 90 => prog_10_method_30_code
  | 91 => prog_10_method_31_code
  | 92 => prog_10_method_32_code
  | 93 => prog_10_method_33_code
  | 94 => prog_10_method_34_code
  | 95 => prog_10_method_35_code
  | 96 => prog_10_method_36_code
  | 97 => prog_10_method_37_code
  | 98 => prog_10_method_38_code
  | 99 => prog_10_method_39_code
  | 100 => prog_10_method_40_code
  | 101 => prog_10_method_41_code
  | 102 => prog_10_method_42_code
  | 103 => prog_10_method_43_code
  | 104 => prog_10_method_44_code
  | 105 => prog_10_method_45_code
  | 106 => prog_10_method_46_code
  | 107 => prog_10_method_47_code
  | 108 => prog_5_method_2_code
  | 109 => prog_5_method_3_code
  | 110 => prog_5_method_4_code
  | 111 => prog_5_method_5_code
  | 112 => prog_8_method_2_code
  | 113 => prog_8_method_3_code
  | 114 => prog_8_method_4_code
  | 115 => prog_8_method_5_code
  | 116 => prog_8_method_6_code
  | 117 => prog_8_method_7_code
  | 118 => prog_8_method_8_code
  | 119 => prog_8_method_9_code
  | 120 => prog_2_method_2_code
  | 121 => prog_2_method_3_code
  | 122 => prog_2_method_4_code
  | 123 => prog_2_method_5_code
  | _ => prog_2_method_6_code
def mm_ml (id : Nat) : Nat := match id with
  | 0 => 3
  | 1 => 1
  | 2 => 3
  | 3 => 1
  | 4 => 3
  | 5 => 1
  | 6 => 3
  | 7 => 3
  | 8 => 5
  | 9 => 6
  | 10 => 4
  | 11 => 1
  | 12 => 2
  | 13 => 4
  | 14 => 3
  | 15 => 4
  | 16 => 2
  | 17 => 5
  | 18 => 2
  | 19 => 2
  | 20 => 2
  | 21 => 7
  | 22 => 5
  | 23 => 2
  | 24 => 5
  | 25 => 2
  | 26 => 6
  | 27 => 4
  | 28 => 2
  | 29 => 11
  | 30 => 4
  | 31 => 7
  | 32 => 5
  | 33 => 3
  | 34 => 5
  | 35 => 10
  | 36 => 5
  | 37 => 4
  | 38 => 7
  | 39 => 5
  | 40 => 8
  | 41 => 3
  | 42 => 4
  | 43 => 3
  | 44 => 5
  | 45 => 5
  | 46 => 8
  | 47 => 4
  | 48 => 6
  | 49 => 4
  | 50 => 2
  | 51 => 4
  | 52 => 2
  | 53 => 3
  | 54 => 5
  | 55 => 3
  | 56 => 6
  | 57 => 8
  | 58 => 12
  | 59 => 12
  | 60 => 10
  | 61 => 13
  | 62 => 2
  | 63 => 2
  | 64 => 2
  | 65 => 2
  | 66 => 2
  | 67 => 5
  | 68 => 8
  | 69 => 6
  | 70 => 7
  | 71 => 2
  | 72 => 2
  | 73 => 2
  | 74 => 4
  | 75 => 4
  | 76 => 3
  | 77 => 3
  | 78 => 7
  | 79 => 7
  | 80 => 8
  | 81 => 14
  | 82 => 10
  | 83 => 5
  | 84 => 5
  | 85 => 12
  | 86 => 7
  | 87 => 7
  | 88 => 10
  | 89 => 6
  | 90 => 6
  | 91 => 5
  | 92 => 1
  | 93 => 3
  | 94 => 3
  | 95 => 3
  | 96 => 4
  | 97 => 2
  | 98 => 5
  | 99 => 5
  | 100 => 7
  | 101 => 2
  | 102 => 2
  | 103 => 3
  | 104 => 3
  | 105 => 3
  | 106 => 4
  | 107 => 4
  | 108 => 1
  | 109 => 1
  | 110 => 1
  | 111 => 1
  | 112 => 1
  | 113 => 1
  | 114 => 1
  | 115 => 1
  | 116 => 1
  | 117 => 1
  | 118 => 1
  | 119 => 3
  | 120 => 2
  | 121 => 6
  | 122 => 3
  | 123 => 4
  | _ => 3
def mm_rt (id : Nat) : Option FieldType := match id with
  | 0 => none
  | 1 => none
  | 2 => none
  | 3 => none
  | 4 => none
  | 5 => none
  | 6 => none
  | 7 => none
  | 8 => some .int
  | 9 => some .int
  | 10 => some .int
  | 11 => some .int
  | 12 => some .int
  | 13 => some .long
  | 14 => some .int
  | 15 => some .long
  | 16 => some .int
  | 17 => some .long
  | 18 => some .int
  | 19 => some .boolean
  | 20 => some .boolean
  | 21 => some .int
  | 22 => some .boolean
  | 23 => some .boolean
  | 24 => some .int
  | 25 => some .int
  | 26 => some .int
  | 27 => some .int
  | 28 => some .boolean
  | 29 => some .int
  | 30 => some .boolean
  | 31 => some .int
  | 32 => some .boolean
  | 33 => some .boolean
  | 34 => some .boolean
  | 35 => some .boolean
  | 36 => some .boolean
  | 37 => some .int
  | 38 => some .boolean
  | 39 => some .boolean
  | 40 => some .boolean
  | 41 => some .boolean
  | 42 => some .boolean
  | 43 => some .long
  | 44 => some .boolean
  | 45 => some .boolean
  | 46 => some .boolean
  | 47 => some .int
  | 48 => some .boolean
  | 49 => some .boolean
  | 50 => some .boolean
  | 51 => some .boolean
  | 52 => some .boolean
  | 53 => some .boolean
  | 54 => some .boolean
  | 55 => some .boolean
  | 56 => some .long
  | 57 => some .long
  | 58 => some .long
  | 59 => some .long
  | 60 => some .long
  | 61 => some .long
  | 62 => some .boolean
  | 63 => some .boolean
  | 64 => some .boolean
  | 65 => some .boolean
  | 66 => some .int
  | 67 => some .int
  | 68 => some .int
  | 69 => some .int
  | 70 => some .int
  | 71 => some .boolean
  | 72 => some .long
  | 73 => some .long
  | 74 => some .boolean
  | 75 => some .int
  | 76 => some .int
  | 77 => some .boolean
  | 78 => some .int
  | 79 => none
  | 80 => some .int
  | 81 => some .long
  | 82 => none
  | 83 => none
  | 84 => none
  | 85 => some .int
  | 86 => some .boolean
  | 87 => some .boolean
  | 88 => none
  | 89 => none
  | 90 => none
  | 91 => some .int
  | 92 => some .int
  | 93 => none
  | 94 => none
  | 95 => none
  | 96 => none
  | 97 => none
  | 98 => none
  | 99 => some .boolean
  | 100 => some .long
  | 101 => some .boolean
  | 102 => some .int
  | 103 => some .long
  | 104 => some .int
  | 105 => some .long
  | 106 => some .int
  | 107 => some .int
  | 108 => some .boolean
  | 109 => some .boolean
  | 110 => some .boolean
  | 111 => some .boolean
  | 112 => some .boolean
  | 113 => some .boolean
  | 114 => some .boolean
  | 115 => some .boolean
  | 116 => some .boolean
  | 117 => some .long
  | 118 => some .long
  | 119 => some .boolean
  | 120 => some .boolean
  | 121 => some .long
  | 122 => some .long
  | 123 => some .long
  | _ => some .long
def mm_mo (id : Nat) : Nat := match id with
  | 0 => 0
  | 1 => 1
  | 2 => 2
  | 3 => 3
  | 4 => 4
  | 5 => 5
  | 6 => 0
  | 7 => 0
  | 8 => 0
  | 9 => 0
  | 10 => 0
  | 11 => 0
  | 12 => 0
  | 13 => 0
  | 14 => 0
  | 15 => 0
  | 16 => 0
  | 17 => 0
  | 18 => 0
  | 19 => 1
  | 20 => 1
  | 21 => 1
  | 22 => 1
  | 23 => 1
  | 24 => 1
  | 25 => 1
  | 26 => 1
  | 27 => 1
  | 28 => 2
  | 29 => 2
  | 30 => 2
  | 31 => 2
  | 32 => 2
  | 33 => 2
  | 34 => 2
  | 35 => 2
  | 36 => 2
  | 37 => 2
  | 38 => 2
  | 39 => 2
  | 40 => 2
  | 41 => 2
  | 42 => 2
  | 43 => 2
  | 44 => 2
  | 45 => 2
  | 46 => 3
  | 47 => 3
  | 48 => 3
  | 49 => 3
  | 50 => 3
  | 51 => 3
  | 52 => 3
  | 53 => 3
  | 54 => 3
  | 55 => 3
  | 56 => 4
  | 57 => 4
  | 58 => 4
  | 59 => 4
  | 60 => 4
  | 61 => 4
  | 62 => 5
  | 63 => 5
  | 64 => 5
  | 65 => 5
  | 66 => 5
  | 67 => 5
  | 68 => 5
  | 69 => 5
  | 70 => 5
  | 71 => 5
  | 72 => 5
  | 73 => 5
  | 74 => 5
  | 75 => 5
  | 76 => 5
  | 77 => 5
  | 78 => 5
  | 79 => 5
  | 80 => 5
  | 81 => 5
  | 82 => 5
  | 83 => 5
  | 84 => 5
  | 85 => 5
  | 86 => 5
  | 87 => 5
  | 88 => 5
  | 89 => 5
  | 90 => 5
  | 91 => 5
  | 92 => 5
  | 93 => 5
  | 94 => 5
  | 95 => 5
  | 96 => 5
  | 97 => 5
  | 98 => 5
  | 99 => 5
  | 100 => 5
  | 101 => 5
  | 102 => 5
  | 103 => 5
  | 104 => 5
  | 105 => 5
  | 106 => 5
  | 107 => 5
  | 108 => 6
  | 109 => 6
  | 110 => 6
  | 111 => 6
  | 112 => 7
  | 113 => 7
  | 114 => 7
  | 115 => 7
  | 116 => 7
  | 117 => 7
  | 118 => 7
  | 119 => 7
  | 120 => 8
  | 121 => 8
  | 122 => 8
  | 123 => 8
  | _ => 8
def mm_mk (id : Nat) : Nat := mm_mo id
def mm_ic (id : Nat) : Bool := decide (id < 8)
def mm_al (id : Nat) : Bool := decide (id < 8)
def mm_mc (id : Nat) : Nat := match id with
  | 0 => 154
  | 1 => 10
  | 2 => 141
  | 3 => 6
  | 4 => 0
  | 5 => 27
  | _ => 0
def mm_ms (id : Nat) : Nat := match id with
  | 0 => 5421
  | 1 => 340
  | 2 => 5060
  | 3 => 244
  | 4 => 0
  | 5 => 6717
  | _ => 0
theorem mm_mch {id : Nat} (h : 8 ≤ id) : mm_mc id = 0 := by
  unfold mm_mc
  split <;> first | omega | rfl
theorem mm_msh {id : Nat} (h : 8 ≤ id) : mm_ms id = 0 := by
  unfold mm_ms
  split <;> first | omega | rfl
theorem mm_alh {id : Nat} (h : 8 ≤ id) : mm_al id = false := by
  unfold mm_al
  exact decide_eq_false (by omega)
end
section
/-! THE WALK AS A FUNCTION: a typed memory (families of cells), an evaluator of straight code over it, and its soundness. My own text. -/
/-- a value of the walk: an int, a long, or a place (family, number) / null -/
abbrev mm_V : Type := Int32 ⊕ (Int64 ⊕ Option (Nat × Nat))
/-- the memory: ints, longs, references, and which places are made -/
abbrev mm_M : Type := (Nat → Nat → Nat → Int32) × (Nat → Nat → Nat → Int64) × (Nat → Nat → Nat → Option (Nat × Nat)) × (Nat → Nat → Prop)
def mm_u {α : Type} (g : Nat → Nat → Nat → α) (f i k : Nat) (x : α) : Nat → Nat → Nat → α := fun a b c => if a = f ∧ b = i ∧ c = k then x else g a b c
def mm_z {α : Type} (g : Nat → Nat → Nat → α) (f i : Nat) (x : α) : Nat → Nat → Nat → α := fun a b c => if a = f ∧ b = i then x else g a b c
def mm_sI (M : mm_M) (f i k : Nat) (x : Int32) : mm_M := (mm_u M.1 f i k x, M.2)
def mm_sL (M : mm_M) (f i k : Nat) (x : Int64) : mm_M := (M.1, mm_u M.2.1 f i k x, M.2.2)
def mm_sR (M : mm_M) (f i k : Nat) (x : Option (Nat × Nat)) : mm_M := (M.1, M.2.1, mm_u M.2.2.1 f i k x, M.2.2.2)
def mm_new (M : mm_M) (f i : Nat) : mm_M := (mm_z M.1 f i 0, mm_z M.2.1 f i 0, mm_z M.2.2.1 f i none, fun a b => (a = f ∧ b = i) ∨ M.2.2.2 a b)
theorem mm_u_row {α : Type} {g : Nat → Nat → Nat → α} {f i k a b : Nat} {x : α} (h : ¬ (a = f ∧ b = i)) : mm_u g f i k x a b = g a b := by
  funext c
  unfold mm_u
  rw [if_neg]
  exact fun q => h ⟨q.1, q.2.1⟩
theorem mm_u_own {α : Type} {g : Nat → Nat → Nat → α} {f i k c : Nat} {x : α} : mm_u g f i k x f i c = if c = k then x else g f i c := by
  unfold mm_u
  simp
theorem mm_z_row {α : Type} {g : Nat → Nat → Nat → α} {f i a b : Nat} {x : α} (h : ¬ (a = f ∧ b = i)) : mm_z g f i x a b = g a b := by
  funext c
  unfold mm_z
  rw [if_neg h]
theorem mm_z_own {α : Type} {g : Nat → Nat → Nat → α} {f i c : Nat} {x : α} : mm_z g f i x f i c = x := by
  unfold mm_z
  simp
theorem mm_u_ne {α : Type} {g : Nat → Nat → Nat → α} {f i k : Nat} {x r : α} (hx : x ≠ r) (h : ∀ a b c, g a b c ≠ r) : ∀ a b c, mm_u g f i k x a b c ≠ r := by
  intro a b c
  unfold mm_u
  split
  · exact hx
  · exact h a b c
theorem mm_z_ne {α : Type} {g : Nat → Nat → Nat → α} {f i : Nat} {x r : α} (hx : x ≠ r) (h : ∀ a b c, g a b c ≠ r) : ∀ a b c, mm_z g f i x a b c ≠ r := by
  intro a b c
  unfold mm_z
  split
  · exact hx
  · exact h a b c
def mm_ref (ad : Nat → Nat → Nat) (r : Option (Nat × Nat)) : Value := va_rf (r.map fun q => ad q.1 q.2)
def mm_val (ad : Nat → Nat → Nat) : mm_V → Value
  | .inl x => .int x
  | .inr (.inl x) => .long x
  | .inr (.inr r) => mm_ref ad r
def mm_get (M : mm_M) (ty : FieldType) (f i k : Nat) : mm_V := match ty with
  | .long => .inr (.inl (M.2.1 f i k))
  | .object _ => .inr (.inr (M.2.2.1 f i k))
  | .array _ => .inr (.inr (M.2.2.1 f i k))
  | _ => .inl (M.1 f i k)
def mm_arr (ad : Nat → Nat → Nat) (M : mm_M) (ty : FieldType) (n f i : Nat) : vp_A := match ty with
  | .long => (n, .inr (.inl (M.2.1 f i)))
  | .object _ => (n, .inr (.inr (.inr (.inr fun k => (M.2.2.1 f i k).map fun q => ad q.1 q.2))))
  | .array _ => (n, .inr (.inr (.inr (.inr fun k => (M.2.2.1 f i k).map fun q => ad q.1 q.2))))
  | _ => (n, .inl (M.1 f i))
def mm_fs (ad : Nat → Nat → Nat) (M : mm_M) (ci f i : Nat) : List Value := (List.range (mm_N ci)).map fun k => mm_val ad (mm_get M (mm_ft ci k) f i k)
def mm_cell (dA : FieldType → ClassId) (ad : Nat → Nat → Nat) (M : mm_M) (f i : Nat) : va_E := match mm_Y f with
  | .inl ci => .inr (ci, mm_fs ad M ci f i)
  | .inr q => .inl (dA q.1, mm_arr ad M q.1 q.2 f i)
/-- the heap holds the memory, its places at ad; all lie at sz or above; the script's place 999 stands outside -/
def mm_R (D : va_G) (dA : FieldType → ClassId) (sz : Nat) (ad : Nat → Nat → Nat) (M : mm_M) (H : Heap) : Prop :=
  (∀ f i, f ≠ 999 → M.2.2.2 f i → va_at D mm_cl (ad f i, mm_cell dA ad M f i) H ∧ sz ≤ ad f i) ∧
  ∀ f i g j, f ≠ 999 → g ≠ 999 → M.2.2.2 f i → M.2.2.2 g j → ad f i = ad g j → f = g ∧ i = j
/-- what the tables say, beside the words: classes, array classes, nest words -/
def mm_K (D : va_G) (dA : FieldType → ClassId) (U : State) : Prop :=
  va_K D mm_cl (mm_tys dA) U ∧ (∀ q ∈ mm_nF, va_Nw (.fieldLinkNest q.1 q.2.1 q.2.2.1 q.2.2.2.1 q.2.2.2.2.1 q.2.2.2.2.2) U) ∧ (∀ q ∈ mm_nM, va_Nw (.methodLinkNest q.1 q.2.1 q.2.2.1 q.2.2.2) U) ∧ ∀ C ∈ mm_ao, va_AO C U
theorem mm_K.moved {D : va_G} {dA : FieldType → ClassId} {u U : State} (hW : u.WarmedH U.vm) (h : mm_K D dA u) : mm_K D dA U :=
  ⟨va_K.moved hW.alike h.1, fun q hq => va_Nw.warmF hW (h.2.1 q hq), fun q hq => va_Nw.warmM hW (h.2.2.1 q hq), fun C hC => va_AO.moved hW.alike (h.2.2.2 C hC)⟩
theorem mm_K.same {D : va_G} {dA : FieldType → ClassId} {u U : State} (e : u.vm = U.vm) (h : mm_K D dA u) : mm_K D dA U :=
  ⟨va_K.moved (by rw [e]; exact Vm.Alike.refl _) h.1, fun q hq => va_Nw.same rfl e (h.2.1 q hq), fun q hq => va_Nw.same rfl e (h.2.2.1 q hq), fun C hC => va_AO.moved (by rw [e]; exact Vm.Alike.refl _) (h.2.2.2 C hC)⟩
/-- one cell was written -/
theorem mm_R.write {D : va_G} {dA : FieldType → ClassId} {sz : Nat} {ad : Nat → Nat → Nat} {M M' : mm_M} {H H1 : Heap} {f i : Nat} (h : mm_R D dA sz ad M H) (hf : f ≠ 999) (hd : M.2.2.2 f i) (e0 : M'.2.2.2 = M.2.2.2)
    (hI : ∀ a b, ¬ (a = f ∧ b = i) → M'.1 a b = M.1 a b) (hL : ∀ a b, ¬ (a = f ∧ b = i) → M'.2.1 a b = M.2.1 a b) (hQ : ∀ a b, ¬ (a = f ∧ b = i) → M'.2.2.1 a b = M.2.2.1 a b)
    (he : va_at D mm_cl (ad f i, mm_cell dA ad M' f i) H1) (oq : ∀ q : Nat, q ≠ ad f i → H1[q]? = H[q]?) : mm_R D dA sz ad M' H1 := by
  refine ⟨fun a b ha hb => ?_, fun a b g j ha hg hb hj e => ?_⟩
  · rw [e0] at hb
    obtain ⟨h1, h2⟩ := h.1 a b ha hb
    refine ⟨?_, h2⟩
    by_cases hk : a = f ∧ b = i
    · obtain ⟨rfl, rfl⟩ := hk
      exact he
    · have hc : mm_cell dA ad M' a b = mm_cell dA ad M a b := by
        unfold mm_cell mm_fs mm_get mm_arr
        rw [hI a b hk, hL a b hk, hQ a b hk]
      rw [hc]
      refine va_at.kept h1 (oq _ fun q => hk ?_)
      exact h.2 a b f i ha hf hb hd q
  · rw [e0] at hb hj
    exact h.2 a b g j ha hg hb hj e
def mm_ad (ad : Nat → Nat → Nat) (f i N : Nat) : Nat → Nat → Nat := fun a b => if a = f ∧ b = i then N else ad a b
theorem mm_ad_own {ad : Nat → Nat → Nat} {f i N : Nat} : mm_ad ad f i N f i = N := if_pos ⟨rfl, rfl⟩
theorem mm_ad_ne {ad : Nat → Nat → Nat} {f i N a b : Nat} (h : ¬ (a = f ∧ b = i)) : mm_ad ad f i N a b = ad a b := if_neg h
/-- a cell was made -/
theorem mm_R.make {D : va_G} {dA : FieldType → ClassId} {sz : Nat} {ad : Nat → Nat → Nat} {M : mm_M} {H H1 : Heap} {f i : Nat} (h : mm_R D dA sz ad M H) (hf : ¬ M.2.2.2 f i) (hfr : ∀ a b c, M.2.2.1 a b c ≠ some (f, i)) (hz : sz ≤ H.size)
    (he : va_at D mm_cl (H.size, mm_cell dA (mm_ad ad f i H.size) (mm_new M f i) f i) H1) (oq : ∀ q : Nat, q < H.size → H1[q]? = H[q]?) :
    mm_R D dA sz (mm_ad ad f i H.size) (mm_new M f i) H1 := by
  have hm : ∀ r : Option (Nat × Nat), r ≠ some (f, i) → r.map (fun q => mm_ad ad f i H.size q.1 q.2) = r.map (fun q => ad q.1 q.2) := by
    intro r hr
    cases r with
    | none => rfl
    | some q =>
      obtain ⟨a, b⟩ := q
      show some (mm_ad ad f i H.size a b) = some (ad a b)
      rw [mm_ad_ne]
      rintro ⟨rfl, rfl⟩
      exact hr rfl
  have old : ∀ a b, ¬ (a = f ∧ b = i) → (mm_new M f i).2.2.2 a b → M.2.2.2 a b := by
    intro a b hk hb
    rcases hb with q | q
    · exact absurd q hk
    · exact q
  refine ⟨fun a b ha hb => ?_, fun a b g j ha hg hb hj e => ?_⟩
  · by_cases hk : a = f ∧ b = i
    · obtain ⟨e1, e2⟩ := hk
      rw [e1, e2, mm_ad_own]
      exact ⟨he, hz⟩
    · obtain ⟨h1, h2⟩ := h.1 a b ha (old a b hk hb)
      rw [mm_ad_ne hk]
      refine ⟨?_, h2⟩
      have hc : mm_cell dA (mm_ad ad f i H.size) (mm_new M f i) a b = mm_cell dA ad M a b := by
        have e1 : (mm_new M f i).1 a b = M.1 a b := mm_z_row hk
        have e2 : (mm_new M f i).2.1 a b = M.2.1 a b := mm_z_row hk
        have e3 : (mm_new M f i).2.2.1 a b = M.2.2.1 a b := mm_z_row hk
        unfold mm_cell
        cases mm_Y a with
        | inl ci =>
          show (Sum.inr (ci, mm_fs (mm_ad ad f i H.size) (mm_new M f i) ci a b) : va_E) = Sum.inr (ci, mm_fs ad M ci a b)
          congr 2
          unfold mm_fs
          apply List.map_congr_left
          intro k _
          unfold mm_get
          rw [e1, e2, e3]
          cases mm_ft ci k <;> first | rfl | exact congrArg va_rf (hm _ (hfr a b k))
        | inr q =>
          obtain ⟨ty, n⟩ := q
          show (Sum.inl (dA ty, mm_arr (mm_ad ad f i H.size) (mm_new M f i) ty n a b) : va_E) = Sum.inl (dA ty, mm_arr ad M ty n a b)
          congr 2
          unfold mm_arr
          rw [e1, e2, e3]
          cases ty <;> first | rfl | (simp only [hm _ (hfr a b _)])
      rw [hc]
      exact va_at.kept h1 (oq _ (va_at.lt h1))
  · by_cases h1 : a = f ∧ b = i
    · by_cases h2 : g = f ∧ j = i
      · exact ⟨h1.1.trans h2.1.symm, h1.2.trans h2.2.symm⟩
      · rw [h1.1, h1.2, mm_ad_own, mm_ad_ne h2] at e
        have := va_at.lt (h.1 g j hg (old g j h2 hj)).1
        simp only at this
        omega
    · by_cases h2 : g = f ∧ j = i
      · rw [h2.1, h2.2, mm_ad_own, mm_ad_ne h1] at e
        have := va_at.lt (h.1 a b ha (old a b h1 hb)).1
        simp only at this
        omega
      · rw [mm_ad_ne h1, mm_ad_ne h2] at e
        exact h.2 a b g j ha hg (old a b h1 hb) (old g j h2 hj) e
/-! locals as a list: what is known of each place -/
def mm_L (ad : Nat → Nat → Nat) : Nat → List (Option mm_V) → List (Nat × Value)
  | _, [] => []
  | k, none :: r => mm_L ad (k + 1) r
  | k, some v :: r => (k, mm_val ad v) :: mm_L ad (k + 1) r
theorem mm_L_mem {ad : Nat → Nat → Nat} : ∀ (ls : List (Option mm_V)) (k : Nat) (q : Nat × Value), q ∈ mm_L ad k ls ↔ ∃ (j : Nat) (v : mm_V), ls[j]? = some (some v) ∧ q = (k + j, mm_val ad v)
  | [], k, q => by simp [mm_L]
  | none :: r, k, q => by
    rw [mm_L, mm_L_mem r (k + 1) q]
    constructor
    · rintro ⟨j, v, h, rfl⟩
      exact ⟨j + 1, v, by simpa using h, by rw [show k + 1 + j = k + (j + 1) by omega]⟩
    · rintro ⟨j, v, h, rfl⟩
      cases j with
      | zero => simp at h
      | succ j => exact ⟨j, v, by simpa using h, by rw [show k + 1 + j = k + (j + 1) by omega]⟩
  | some w :: r, k, q => by
    rw [mm_L, List.mem_cons, mm_L_mem r (k + 1) q]
    constructor
    · rintro (rfl | ⟨j, v, h, rfl⟩)
      · exact ⟨0, w, by simp, rfl⟩
      · exact ⟨j + 1, v, by simpa using h, by rw [show k + 1 + j = k + (j + 1) by omega]⟩
    · rintro ⟨j, v, h, rfl⟩
      cases j with
      | zero =>
        left
        simp at h
        rw [h]
        rfl
      | succ j => exact Or.inr ⟨j, v, by simpa using h, by rw [show k + 1 + j = k + (j + 1) by omega]⟩
theorem mm_L_at {ad : Nat → Nat → Nat} {la : Array Slot} {nL : Nat} {ls : List (Option mm_V)} (h : lv_has la nL (mm_L ad 0 ls)) {j : Nat} {v : mm_V} (hj : ls[j]? = some (some v)) : la[j]? = some (.val (mm_val ad v)) :=
  h.2.2 (j, mm_val ad v) ((mm_L_mem ls 0 _).mpr ⟨j, v, hj, by rw [Nat.zero_add]⟩)
def mm_kill (ls : List (Option mm_V)) (i : Nat) : List (Option mm_V) := match i with
  | 0 => ls
  | j + 1 => match ls[j]? with
    | some (some (.inr (.inl _))) => ls.set j none
    | _ => ls
def mm_st1 (ls : List (Option mm_V)) (i : Nat) (v : mm_V) : List (Option mm_V) := (mm_kill ls i).set i (some v)
def mm_st2 (ls : List (Option mm_V)) (i : Nat) (v : mm_V) : List (Option mm_V) := ((mm_kill ls i).set i (some v)).set (i + 1) none
theorem mm_kill_at {ls : List (Option mm_V)} {i j : Nat} {v : mm_V} (h : (mm_kill ls i)[j]? = some (some v)) : ls[j]? = some (some v) ∧ ¬ (j + 1 = i ∧ ∃ x, v = .inr (.inl x)) := by
  cases i with
  | zero => exact ⟨h, fun q => by omega⟩
  | succ k =>
    unfold mm_kill at h
    dsimp only at h
    split at h
    · rename_i x hx
      rw [List.getElem?_set] at h
      split at h
      · split at h
        · cases h
        · cases h
      · exact ⟨h, fun q => by omega⟩
    · rename_i hn
      refine ⟨h, fun q => ?_⟩
      obtain ⟨q1, x, rfl⟩ := q
      have : j = k := by omega
      subst this
      exact hn x h
theorem mm_cat2 {ad : Nat → Nat → Nat} {v : mm_V} (h : (mm_val ad v).category = 2) : ∃ x, v = .inr (.inl x) := by
  match v, h with
  | .inr (.inl x), _ => exact ⟨x, rfl⟩
  | .inr (.inr none), h => cases h
  | .inr (.inr (some _)), h => cases h
theorem mm_L_st1 {ad : Nat → Nat → Nat} {ls : List (Option mm_V)} {i : Nat} {v : mm_V} (la : Array Slot) (nL : Nat) (h : lv_has la nL ((i, mm_val ad v) :: (mm_L ad 0 ls).filter (fun q => !(q.1 == i) && !(q.1 + 1 == i && q.2.category == 2)))) : lv_has la nL (mm_L ad 0 (mm_st1 ls i v)) := by
  refine ⟨h.1, h.2.1, fun q hq => h.2.2 q ?_⟩
  obtain ⟨j, w, hj, rfl⟩ := (mm_L_mem _ _ _).mp hq
  rw [Nat.zero_add]
  unfold mm_st1 at hj
  rw [List.getElem?_set] at hj
  split at hj
  · rename_i e
    subst e
    split at hj
    · cases hj
      exact List.mem_cons_self
    · cases hj
  · rename_i e
    obtain ⟨h1, h2⟩ := mm_kill_at hj
    refine List.mem_cons_of_mem _ (List.mem_filter.mpr ⟨(mm_L_mem ls 0 _).mpr ⟨j, w, h1, by rw [Nat.zero_add]⟩, ?_⟩)
    simp only [Bool.and_eq_true, Bool.not_eq_true', beq_eq_false_iff_ne, ne_eq, Bool.and_eq_false_iff]
    refine ⟨fun q => e q.symm, ?_⟩
    by_cases hji : j + 1 = i
    · right
      intro hc
      exact h2 ⟨hji, mm_cat2 hc⟩
    · exact Or.inl hji
theorem mm_L_st2 {ad : Nat → Nat → Nat} {ls : List (Option mm_V)} {i : Nat} {v : mm_V} (la : Array Slot) (nL : Nat) (h : lv_has la nL ((i, mm_val ad v) :: (mm_L ad 0 ls).filter (fun q => !(q.1 == i) && (!(q.1 == i + 1) && !(q.1 + 1 == i && q.2.category == 2))))) : lv_has la nL (mm_L ad 0 (mm_st2 ls i v)) := by
  refine ⟨h.1, h.2.1, fun q hq => h.2.2 q ?_⟩
  obtain ⟨j, w, hj, rfl⟩ := (mm_L_mem _ _ _).mp hq
  rw [Nat.zero_add]
  unfold mm_st2 at hj
  rw [List.getElem?_set] at hj
  split at hj
  · split at hj <;> cases hj
  · rename_i e2
    rw [List.getElem?_set] at hj
    split at hj
    · rename_i e
      subst e
      split at hj
      · cases hj
        exact List.mem_cons_self
      · cases hj
    · rename_i e
      obtain ⟨h1, h2⟩ := mm_kill_at hj
      refine List.mem_cons_of_mem _ (List.mem_filter.mpr ⟨(mm_L_mem ls 0 _).mpr ⟨j, w, h1, by rw [Nat.zero_add]⟩, ?_⟩)
      simp only [Bool.and_eq_true, Bool.not_eq_true', beq_eq_false_iff_ne, ne_eq, Bool.and_eq_false_iff]
      refine ⟨fun q => e q.symm, fun q => e2 q.symm, ?_⟩
      by_cases hji : j + 1 = i
      · right
        intro hc
        exact h2 ⟨hji, mm_cat2 hc⟩
      · exact Or.inl hji
/-! the evaluator -/
abbrev mm_K0 : Type := Nat → List (Option mm_V) → List mm_V → mm_M → Nat → Nat → Prop
abbrev mm_G : Type := Nat → List mm_V → mm_M → (Option mm_V → mm_M → Prop) → Prop
/-- whose pool, locals, return type, may make cells, cells, slots, the script, is an init -/
abbrev mm_F : Type := Nat × Nat × Option FieldType × Bool × Nat × Nat × Option (Nat × (Nat → Int32)) × Bool
def mm_o {α : Type} (x : Option α) (k : α → Prop) : Prop := match x with
  | some a => k a
  | none => False
def mm_p1 (st : List mm_V) (k : mm_V → List mm_V → Prop) : Prop := match st with
  | v :: r => k v r
  | [] => False
def mm_pI (st : List mm_V) (k : Int32 → List mm_V → Prop) : Prop := match st with
  | .inl x :: r => k x r
  | _ => False
def mm_pL (st : List mm_V) (k : Int64 → List mm_V → Prop) : Prop := match st with
  | .inr (.inl x) :: r => k x r
  | _ => False
def mm_pQ (st : List mm_V) (k : Option (Nat × Nat) → List mm_V → Prop) : Prop := match st with
  | .inr (.inr x) :: r => k x r
  | _ => False
def mm_pR (st : List mm_V) (k : Nat → Nat → List mm_V → Prop) : Prop := match st with
  | .inr (.inr (some q)) :: r => k q.1 q.2 r
  | _ => False
def mm_lV (ls : List (Option mm_V)) (i : Nat) (k : mm_V → Prop) : Prop := match ls[i]? with
  | some (some v) => k v
  | _ => False
def mm_vI (v : mm_V) (k : Int32 → Prop) : Prop := match v with
  | .inl x => k x
  | _ => False
def mm_vL (v : mm_V) (k : Int64 → Prop) : Prop := match v with
  | .inr (.inl x) => k x
  | _ => False
def mm_vQ (v : mm_V) (k : Option (Nat × Nat) → Prop) : Prop := match v with
  | .inr (.inr x) => k x
  | _ => False
def mm_pN : Nat → List mm_V → List mm_V → (List mm_V → List mm_V → Prop) → Prop
  | 0, acc, st, k => k acc st
  | n + 1, acc, v :: r, k => mm_pN n (v :: acc) r k
  | _ + 1, _, [], _ => False
def mm_cat : mm_V → Nat
  | .inr (.inl _) => 2
  | _ => 1
def mm_sm : List mm_V → Nat
  | [] => 0
  | v :: r => mm_cat v + mm_sm r
def mm_is (M : mm_M) (f i ci : Nat) : Prop := mm_Y f = .inl ci ∧ f ≠ 999 ∧ M.2.2.2 f i
def mm_len (f : Nat) : Nat := match mm_Y f with
  | .inr q => q.2
  | _ => 0
def mm_ia (M : mm_M) (f i : Nat) (ty : FieldType) : Prop := mm_Y f = .inr (ty, mm_len f) ∧ f ≠ 999 ∧ M.2.2.2 f i
def mm_okV (M : mm_M) : mm_V → Prop
  | .inr (.inr (some q)) => M.2.2.2 q.1 q.2
  | _ => True
def mm_okS (M : mm_M) : List mm_V → Prop
  | [] => True
  | v :: r => mm_okV M v ∧ mm_okS M r
def mm_okL (M : mm_M) : List (Option mm_V) → Prop
  | [] => True
  | some v :: r => mm_okV M v ∧ mm_okL M r
  | none :: r => mm_okL M r
def mm_jmp (pc : Nat) (off : Int) : Nat := ((pc : Int) + off).toNat
def mm_c0 (c : Jvm.ClassFile.Cond) (x : Int32) : Prop := match c with
  | .eq => x = 0
  | .ne => ¬ x = 0
  | .lt => x < 0
  | .ge => 0 ≤ x
  | .gt => 0 < x
  | .le => x ≤ 0
def mm_c2 (c : Jvm.ClassFile.Cond) (x y : Int32) : Prop := match c with
  | .eq => x = y
  | .ne => ¬ x = y
  | .lt => x < y
  | .ge => y ≤ x
  | .gt => y < x
  | .le => x ≤ y
def mm_ts (x : Int32) : Int → List Int → (Int → Prop) → Prop → Prop
  | _, [], _, d => d
  | lo, o :: r, k, d => (x = Int32.ofInt lo → k o) ∧ (¬ x = Int32.ofInt lo → mm_ts x (lo + 1) r k d)
def mm_ks (x : Int32) : List (Int × Int) → (Int → Prop) → Prop → Prop
  | [], _, d => d
  | q :: r, k, d => (x = Int32.ofInt q.1 → k q.2) ∧ (¬ x = Int32.ofInt q.1 → mm_ks x r k d)
/-- a final field: in its own init alone -/
def mm_pf (g : mm_F) (ci k : Nat) : Prop := mm_fin ci k = false ∨ (g.1 = ci ∧ g.2.2.2.2.2.2.2 = true)
def mm_isR : FieldType → Bool
  | .object _ => true
  | .array _ => true
  | _ => false
def mm_put (M : mm_M) (ty : FieldType) (f i k : Nat) (v : mm_V) (kk : mm_M → Prop) : Prop := match v with
  | .inl x => (ty = .int ∨ ty = .boolean) ∧ narrow ty (.int x) = .int x ∧ fits ty (.int x) = true ∧ kk (mm_sI M f i k x)
  | .inr (.inl x) => ty = .long ∧ kk (mm_sL M f i k x)
  | .inr (.inr r) => mm_isR ty = true ∧ kk (mm_sR M f i k r)
def mm_lk (ps : Array (Int × Int)) : Prop := (ps.toList.zip (ps.toList.drop 1)).all (fun (a, next) => a.1 < next.1) = true ∧ ∀ q ∈ ps.toList, -2147483648 ≤ q.1 ∧ q.1 < 2147483648
def mm_tk (lo hi : Int) (offs : Array Int) : Prop := hi = lo + (offs.toList.length : Int) - 1 ∧ -2147483648 ≤ lo ∧ lo + (offs.toList.length : Int) ≤ 2147483648
def mm_at0 (t : ArrayType) : Prop := newarray.typeOf t ∈ mm_prt
/-- Math's members -/
def mm_jm (j : Nat) (st : List mm_V) (k : mm_V → List mm_V → Prop) : Prop := match j with
  | 0 => mm_pI st fun y r => mm_pI r fun x r => k (.inl (if x < y then y else x)) r
  | 1 => mm_pI st fun x r => k (.inl (if 0 ≤ x then x else 0 - x)) r
  | 2 => mm_pL st fun y r => mm_pL r fun x r => k (.inr (.inl (if y < x then x else y))) r
  | 3 => mm_pL st fun y r => mm_pL r fun x r => k (.inr (.inl (if y < x then y else x))) r
  | _ => False
def mm_call (g : mm_F) (Γ : mm_G) (K : mm_K0) (id : Nat) (As r : List mm_V) (pc : Nat) (ls : List (Option mm_V)) (M : mm_M) (u w : Nat) : Prop :=
  mm_sm r ≤ 8 ∧ u + mm_mc id ≤ g.2.2.2.2.1 ∧ w + mm_ms id ≤ g.2.2.2.2.2.1 ∧ (mm_al id = true → g.2.2.2.1 = true ∧ mm_okL M ls ∧ mm_okS M r) ∧ Γ id As M fun v M' => K (pc + 3) ls (v.toList ++ r) M' (u + mm_mc id) (w + mm_ms id)
def mm_i (g : mm_F) (Γ : mm_G) (Q : Option mm_V → mm_M → Prop) (K : mm_K0) (ins : Instr) (len pc : Nat) (ls : List (Option mm_V)) (st : List mm_V) (M : mm_M) (u w : Nat) : Prop :=
  match ins with
  | .iconst n => len = 1 ∧ K (pc + 1) ls (.inl (Int32.ofInt n) :: st) M u w
  | .bipush n => len = 2 ∧ K (pc + 2) ls (.inl (Int8.ofInt n).toInt32 :: st) M u w
  | .sipush n => len = 3 ∧ K (pc + 3) ls (.inl (Int16.ofInt n).toInt32 :: st) M u w
  | .lconst n => len = 1 ∧ K (pc + 1) ls (.inr (.inl (Int64.ofNat (n : Nat))) :: st) M u w
  | .ldc i => len = 2 ∧ mm_o (mm_CI g.1 i) fun v => K (pc + 2) ls (.inl v :: st) M u w
  | .ldc2_w i => len = 3 ∧ mm_o (mm_CL g.1 i) fun v => K (pc + 3) ls (.inr (.inl v) :: st) M u w
  | .iload_n k => len = 1 ∧ mm_lV ls (k : Nat) fun v => mm_vI v fun x => K (pc + 1) ls (.inl x :: st) M u w
  | .iload k => len = 2 ∧ mm_lV ls k fun v => mm_vI v fun x => K (pc + 2) ls (.inl x :: st) M u w
  | .lload_n k => len = 1 ∧ mm_lV ls (k : Nat) fun v => mm_vL v fun x => K (pc + 1) ls (.inr (.inl x) :: st) M u w
  | .lload k => len = 2 ∧ mm_lV ls k fun v => mm_vL v fun x => K (pc + 2) ls (.inr (.inl x) :: st) M u w
  | .aload_n k => len = 1 ∧ mm_lV ls (k : Nat) fun v => mm_vQ v fun x => K (pc + 1) ls (.inr (.inr x) :: st) M u w
  | .aload k => len = 2 ∧ mm_lV ls k fun v => mm_vQ v fun x => K (pc + 2) ls (.inr (.inr x) :: st) M u w
  | .istore_n k => len = 1 ∧ (k : Nat) < g.2.1 ∧ mm_pI st fun x r => K (pc + 1) (mm_st1 ls (k : Nat) (.inl x)) r M u w
  | .istore k => len = 2 ∧ k < g.2.1 ∧ mm_pI st fun x r => K (pc + 2) (mm_st1 ls k (.inl x)) r M u w
  | .lstore_n k => len = 1 ∧ (k : Nat) + 1 < g.2.1 ∧ mm_pL st fun x r => K (pc + 1) (mm_st2 ls (k : Nat) (.inr (.inl x))) r M u w
  | .lstore k => len = 2 ∧ k + 1 < g.2.1 ∧ mm_pL st fun x r => K (pc + 2) (mm_st2 ls k (.inr (.inl x))) r M u w
  | .astore_n k => len = 1 ∧ (k : Nat) < g.2.1 ∧ mm_pR st fun f i r => K (pc + 1) (mm_st1 ls (k : Nat) (.inr (.inr (some (f, i))))) r M u w
  | .astore k => len = 2 ∧ k < g.2.1 ∧ mm_pR st fun f i r => K (pc + 2) (mm_st1 ls k (.inr (.inr (some (f, i))))) r M u w
  | .iinc k n => len = 3 ∧ k < g.2.1 ∧ mm_lV ls k fun v => mm_vI v fun x => K (pc + 3) (mm_st1 ls k (.inl (x + Int32.ofInt n))) st M u w
  | .iadd => len = 1 ∧ mm_pI st fun y r => mm_pI r fun x r => K (pc + 1) ls (.inl (x + y) :: r) M u w
  | .isub => len = 1 ∧ mm_pI st fun y r => mm_pI r fun x r => K (pc + 1) ls (.inl (x - y) :: r) M u w
  | .imul => len = 1 ∧ mm_pI st fun y r => mm_pI r fun x r => K (pc + 1) ls (.inl (x * y) :: r) M u w
  | .iand => len = 1 ∧ mm_pI st fun y r => mm_pI r fun x r => K (pc + 1) ls (.inl (x &&& y) :: r) M u w
  | .ior => len = 1 ∧ mm_pI st fun y r => mm_pI r fun x r => K (pc + 1) ls (.inl (x ||| y) :: r) M u w
  | .ixor => len = 1 ∧ mm_pI st fun y r => mm_pI r fun x r => K (pc + 1) ls (.inl (x ^^^ y) :: r) M u w
  | .idiv => len = 1 ∧ mm_pI st fun y r => mm_pI r fun x r => ¬ y = 0 ∧ K (pc + 1) ls (.inl (x / y) :: r) M u w
  | .irem => len = 1 ∧ mm_pI st fun y r => mm_pI r fun x r => ¬ y = 0 ∧ K (pc + 1) ls (.inl (x - x / y * y) :: r) M u w
  | .ineg => len = 1 ∧ mm_pI st fun x r => K (pc + 1) ls (.inl (-x) :: r) M u w
  | .ladd => len = 1 ∧ mm_pL st fun y r => mm_pL r fun x r => K (pc + 1) ls (.inr (.inl (x + y)) :: r) M u w
  | .lsub => len = 1 ∧ mm_pL st fun y r => mm_pL r fun x r => K (pc + 1) ls (.inr (.inl (x - y)) :: r) M u w
  | .lmul => len = 1 ∧ mm_pL st fun y r => mm_pL r fun x r => K (pc + 1) ls (.inr (.inl (x * y)) :: r) M u w
  | .land => len = 1 ∧ mm_pL st fun y r => mm_pL r fun x r => K (pc + 1) ls (.inr (.inl (x &&& y)) :: r) M u w
  | .lor => len = 1 ∧ mm_pL st fun y r => mm_pL r fun x r => K (pc + 1) ls (.inr (.inl (x ||| y)) :: r) M u w
  | .lxor => len = 1 ∧ mm_pL st fun y r => mm_pL r fun x r => K (pc + 1) ls (.inr (.inl (x ^^^ y)) :: r) M u w
  | .ldiv => len = 1 ∧ mm_pL st fun y r => mm_pL r fun x r => ¬ y = 0 ∧ K (pc + 1) ls (.inr (.inl (x / y)) :: r) M u w
  | .lrem => len = 1 ∧ mm_pL st fun y r => mm_pL r fun x r => ¬ y = 0 ∧ K (pc + 1) ls (.inr (.inl (x - x / y * y)) :: r) M u w
  | .lneg => len = 1 ∧ mm_pL st fun x r => K (pc + 1) ls (.inr (.inl (-x)) :: r) M u w
  | .ishl => len = 1 ∧ mm_pI st fun y r => mm_pI r fun x r => K (pc + 1) ls (.inl (x <<< (y &&& 31)) :: r) M u w
  | .ishr => len = 1 ∧ mm_pI st fun y r => mm_pI r fun x r => K (pc + 1) ls (.inl (x >>> (y &&& 31)) :: r) M u w
  | .iushr => len = 1 ∧ mm_pI st fun y r => mm_pI r fun x r => K (pc + 1) ls (.inl (x.toUInt32 >>> (y.toUInt32 &&& Int32.toUInt32 31)).toInt32 :: r) M u w
  | .lshl => len = 1 ∧ mm_pI st fun y r => mm_pL r fun x r => K (pc + 1) ls (.inr (.inl (x <<< (y.toInt64 &&& 63))) :: r) M u w
  | .lshr => len = 1 ∧ mm_pI st fun y r => mm_pL r fun x r => K (pc + 1) ls (.inr (.inl (x >>> (y.toInt64 &&& 63))) :: r) M u w
  | .lushr => len = 1 ∧ mm_pI st fun y r => mm_pL r fun x r => K (pc + 1) ls (.inr (.inl (x.toUInt64 >>> (y.toInt64.toUInt64 &&& Int64.toUInt64 63)).toInt64) :: r) M u w
  | .i2l => len = 1 ∧ mm_pI st fun x r => K (pc + 1) ls (.inr (.inl x.toInt64) :: r) M u w
  | .l2i => len = 1 ∧ mm_pL st fun x r => K (pc + 1) ls (.inl x.toInt32 :: r) M u w
  | .lcmp => len = 1 ∧ mm_pL st fun y r => mm_pL r fun x r => K (pc + 1) ls (.inl (lg_cmp x y) :: r) M u w
  | .dup => len = 1 ∧ mm_p1 st fun v r => mm_cat v = 1 ∧ K (pc + 1) ls (v :: v :: r) M u w
  | .pop => len = 1 ∧ mm_p1 st fun v r => mm_cat v = 1 ∧ K (pc + 1) ls r M u w
  | .dup_x1 => len = 1 ∧ mm_p1 st fun v r => mm_p1 r fun v2 r => mm_cat v = 1 ∧ mm_cat v2 = 1 ∧ K (pc + 1) ls (v :: v2 :: v :: r) M u w
  | .dup2 => len = 1 ∧ mm_p1 st fun v r => mm_p1 r fun v2 r => mm_cat v = 1 ∧ mm_cat v2 = 1 ∧ K (pc + 1) ls (v :: v2 :: v :: v2 :: r) M u w
  | .ifCond c off => len = 3 ∧ 0 ≤ (pc : Int) + off ∧ mm_pI st fun x r => (mm_c0 c x → K (mm_jmp pc off) ls r M u w) ∧ (¬ mm_c0 c x → K (pc + 3) ls r M u w)
  | .if_icmp c off => len = 3 ∧ 0 ≤ (pc : Int) + off ∧ mm_pI st fun y r => mm_pI r fun x r => (mm_c2 c x y → K (mm_jmp pc off) ls r M u w) ∧ (¬ mm_c2 c x y → K (pc + 3) ls r M u w)
  | .goto off => len = 3 ∧ 0 ≤ (pc : Int) + off ∧ K (mm_jmp pc off) ls st M u w
  | .tableswitch d lo hi offs => mm_tk lo hi offs ∧ mm_pI st fun x r => mm_ts x lo offs.toList (fun off => 0 ≤ (pc : Int) + off ∧ K (mm_jmp pc off) ls r M u w) (0 ≤ (pc : Int) + d ∧ K (mm_jmp pc d) ls r M u w)
  | .lookupswitch d ps => mm_lk ps ∧ mm_pI st fun x r => mm_ks x ps.toList (fun off => 0 ≤ (pc : Int) + off ∧ K (mm_jmp pc off) ls r M u w) (0 ≤ (pc : Int) + d ∧ K (mm_jmp pc d) ls r M u w)
  | .getfield ix => len = 3 ∧ mm_pR st fun f i r => mm_o (mm_FL g.1 ix) fun q => mm_is M f i q.1 ∧ K (pc + 3) ls (mm_get M (mm_ft q.1 q.2) f i q.2 :: r) M u w
  | .putfield ix => len = 3 ∧ mm_o (mm_FL g.1 ix) fun q => mm_p1 st fun v r => mm_pR r fun f i r => mm_is M f i q.1 ∧ mm_pf g q.1 q.2 ∧ mm_put M (mm_ft q.1 q.2) f i q.2 v fun M' => K (pc + 3) ls r M' u w
  | .iaload => len = 1 ∧ mm_pI st fun j r => mm_pR r fun f i r => if f = 999 then mm_o g.2.2.2.2.2.2.1 fun q => i = 0 ∧ vp_in j q.1 ∧ K (pc + 1) ls (.inl (q.2 j.toNatClampNeg) :: r) M u w else mm_ia M f i .int ∧ vp_in j (mm_len f) ∧ K (pc + 1) ls (.inl (M.1 f i j.toNatClampNeg) :: r) M u w
  | .baload => len = 1 ∧ mm_pI st fun j r => mm_pR r fun f i r => mm_ia M f i .boolean ∧ vp_in j (mm_len f) ∧ K (pc + 1) ls (.inl (M.1 f i j.toNatClampNeg) :: r) M u w
  | .laload => len = 1 ∧ mm_pI st fun j r => mm_pR r fun f i r => mm_ia M f i .long ∧ vp_in j (mm_len f) ∧ K (pc + 1) ls (.inr (.inl (M.2.1 f i j.toNatClampNeg)) :: r) M u w
  | .aaload => len = 1 ∧ mm_pI st fun j r => mm_pR r fun f i r => ∃ C, mm_ia M f i (.object C) ∧ vp_in j (mm_len f) ∧ K (pc + 1) ls (.inr (.inr (M.2.2.1 f i j.toNatClampNeg)) :: r) M u w
  | .iastore => len = 1 ∧ mm_pI st fun x r => mm_pI r fun j r => mm_pR r fun f i r => mm_ia M f i .int ∧ vp_in j (mm_len f) ∧ K (pc + 1) ls r (mm_sI M f i j.toNatClampNeg x) u w
  | .bastore => len = 1 ∧ mm_pI st fun x r => mm_pI r fun j r => mm_pR r fun f i r => mm_ia M f i .boolean ∧ vp_in j (mm_len f) ∧ K (pc + 1) ls r (mm_sI M f i j.toNatClampNeg (x &&& 1)) u w
  | .lastore => len = 1 ∧ mm_pL st fun x r => mm_pI r fun j r => mm_pR r fun f i r => mm_ia M f i .long ∧ vp_in j (mm_len f) ∧ K (pc + 1) ls r (mm_sL M f i j.toNatClampNeg x) u w
  | .arraylength => len = 1 ∧ mm_pR st fun f i r => if f = 999 then mm_o g.2.2.2.2.2.2.1 fun q => i = 0 ∧ K (pc + 1) ls (.inl (Int32.ofNat q.1) :: r) M u w else ∃ ty, mm_ia M f i ty ∧ K (pc + 1) ls (.inl (Int32.ofNat (mm_len f)) :: r) M u w
  | .invokestatic ix => len = 3 ∧ match mm_JM g.1 ix with
    | some j => u ≤ g.2.2.2.2.1 ∧ w ≤ g.2.2.2.2.2.1 ∧ mm_jm j st fun v r => mm_sm r ≤ 8 ∧ K (pc + 3) ls (v :: r) M u w
    | none => mm_o (mm_MT g.1 ix) fun q => q.2.2 = 0 ∧ mm_pN q.2.1 [] st fun As r => mm_call g Γ K q.1 As r pc ls M u w
  | .invokevirtual ix => len = 3 ∧ mm_o (mm_MT g.1 ix) fun q => q.2.2 = 1 ∧ mm_pN q.2.1 [] st fun As r => mm_pR r fun f i r => mm_is M f i (mm_mk q.1) ∧ mm_call g Γ K q.1 (.inr (.inr (some (f, i))) :: As) r pc ls M u w
  | .invokespecial ix => len = 3 ∧ mm_o (mm_MT g.1 ix) fun q => if q.2.2 = 3 then mm_pR st fun f i r => mm_sm r ≤ 8 ∧ K (pc + 3) ls r M u w else q.2.2 = 2 ∧ mm_pN q.2.1 [] st fun As r => mm_pR r fun f i r => mm_is M f i (mm_mk q.1) ∧ mm_call g Γ K q.1 (.inr (.inr (some (f, i))) :: As) r pc ls M u w
  | .new ix => len = 3 ∧ g.2.2.2.1 = true ∧ mm_o (mm_CC g.1 ix) fun ci => ∃ f i, mm_Y f = .inl ci ∧ f ≠ 999 ∧ ¬ M.2.2.2 f i ∧ (∀ a b c, M.2.2.1 a b c ≠ some (f, i)) ∧ mm_okL M ls ∧ mm_okS M st ∧ u + 1 ≤ g.2.2.2.2.1 ∧ w + mm_N ci ≤ g.2.2.2.2.2.1 ∧ K (pc + 3) ls (.inr (.inr (some (f, i))) :: st) (mm_new M f i) (u + 1) (w + mm_N ci)
  | .newarray at_ => len = 2 ∧ g.2.2.2.1 = true ∧ mm_pI st fun n r => ¬ n < 0 ∧ n.toNatClampNeg ≤ 60000 ∧ mm_at0 at_ ∧ ∃ f i, mm_Y f = .inr (newarray.typeOf at_, n.toNatClampNeg) ∧ f ≠ 999 ∧ ¬ M.2.2.2 f i ∧ (∀ a b c, M.2.2.1 a b c ≠ some (f, i)) ∧ mm_okL M ls ∧ mm_okS M r ∧ u + 1 ≤ g.2.2.2.2.1 ∧ w + n.toNatClampNeg ≤ g.2.2.2.2.2.1 ∧ K (pc + 2) ls (.inr (.inr (some (f, i))) :: r) (mm_new M f i) (u + 1) (w + n.toNatClampNeg)
  | .anewarray ix => len = 3 ∧ g.2.2.2.1 = true ∧ mm_o (mm_CO g.1 ix) fun C => mm_pI st fun n r => ¬ n < 0 ∧ n.toNatClampNeg ≤ 60000 ∧ ∃ f i, mm_Y f = .inr (.object C, n.toNatClampNeg) ∧ f ≠ 999 ∧ ¬ M.2.2.2 f i ∧ (∀ a b c, M.2.2.1 a b c ≠ some (f, i)) ∧ mm_okL M ls ∧ mm_okS M r ∧ u + 1 ≤ g.2.2.2.2.1 ∧ w + n.toNatClampNeg ≤ g.2.2.2.2.2.1 ∧ K (pc + 3) ls (.inr (.inr (some (f, i))) :: r) (mm_new M f i) (u + 1) (w + n.toNatClampNeg)
  | .aastore => len = 1 ∧ mm_pR st fun f2 i2 r => mm_pI r fun j r => mm_pR r fun f i r => ∃ ci, mm_is M f2 i2 ci ∧ mm_ia M f i (.object (mm_nm ci)) ∧ vp_in j (mm_len f) ∧ K (pc + 1) ls r (mm_sR M f i j.toNatClampNeg (some (f2, i2))) u w
  | .ireturn => len = 1 ∧ u ≤ g.2.2.2.2.1 ∧ w ≤ g.2.2.2.2.2.1 ∧ mm_o g.2.2.1 fun ty => mm_pI st fun x r => r = [] ∧ narrow ty (.int x) = .int x ∧ Q (some (.inl x)) M
  | .lreturn => len = 1 ∧ u ≤ g.2.2.2.2.1 ∧ w ≤ g.2.2.2.2.2.1 ∧ g.2.2.1 = some .long ∧ mm_pL st fun x r => r = [] ∧ Q (some (.inr (.inl x))) M
  | .return_ => len = 1 ∧ u ≤ g.2.2.2.2.1 ∧ w ≤ g.2.2.2.2.2.1 ∧ g.2.2.1 = none ∧ st = [] ∧ Q none M
  | _ => False
def mm_s (g : mm_F) (Γ : mm_G) (Q : Option mm_V → mm_M → Prop) (K : mm_K0) (d : Except DecodeError (Instr × Nat)) (pc : Nat) (ls : List (Option mm_V)) (st : List mm_V) (M : mm_M) (u w : Nat) : Prop :=
  match d with
  | .ok q => mm_i g Γ Q K q.1 q.2 pc ls st M u w
  | .error _ => False
abbrev mm_X : Type := List (Option mm_V) → List mm_V → mm_M → Nat → Nat → Prop
def mm_cut (x : Option mm_X) (ls : List (Option mm_V)) (st : List mm_V) (M : mm_M) (u w : Nat) (d : Prop) : Prop := match x with
  | some X => X ls st M u w
  | none => d
def mm_x (g : mm_F) (cc : ByteArray) (Γ : mm_G) (cut : Nat → Option mm_X) (Q : Option mm_V → mm_M → Prop) : Nat → Nat → List (Option mm_V) → List mm_V → mm_M → Nat → Nat → Prop
  | 0, _, _, _, _, _, _ => False
  | n + 1, pc, ls, st, M, u, w => mm_s g Γ Q (fun pc ls st M u w => mm_cut (cut pc) ls st M u w (mm_x g cc Γ cut Q n pc ls st M u w)) (decode cc pc) pc ls st M u w
end
section
/-! what the tables say of these -/
def mm_clP (ci : Nat) (r : vw_C) : Prop := r.1 = mm_nm ci ∧ r.2.2 = mm_N ci ∧ (∀ w ∈ u_ws r.1 r.2.1 r.2.2, w ∈ mm_T) ∧ (∀ k, k < r.2.2 → parseFieldDescriptor (r.2.1 k).2.2.1 = some (mm_ft ci k)) ∧ (∀ a, a < r.2.2 → ∀ b, b < r.2.2 → a ≠ b → (r.2.1 a).2.1 ≠ (r.2.1 b).2.1) ∧ ∀ k, k < r.2.2 → (r.2.1 k).2.2.2 = mm_fin ci k ∧ (r.2.1 k).1 = mm_nm ci
theorem ly_0_0 : u_lay (mm_own 0) mm_tb0 0 ∈ mm_T := (mm_mem 182 (by decide +kernel) (by decide +kernel))
theorem ly_0_1 : u_lay (mm_own 0) mm_tb0 1 ∈ mm_T := (mm_mem 184 (by decide +kernel) (by decide +kernel))
theorem ly_0_2 : u_lay (mm_own 0) mm_tb0 2 ∈ mm_T := (mm_mem 186 (by decide +kernel) (by decide +kernel))
theorem lp_0 : ∀ k, k < 3 → u_lay (mm_own 0) mm_tb0 k ∈ mm_T
  | 0, _ => ly_0_0
  | 1, _ => ly_0_1
  | 2, _ => ly_0_2
  | j + 3, h => absurd h (by omega)
theorem cp_0 : mm_clP 0 (mm_own 0, mm_tb0, 3) := by
  refine ⟨rfl, rfl, fun w hw => ?_, by decide +kernel, by decide +kernel, by decide +kernel⟩
  obtain ⟨k, hk, rfl⟩ := List.mem_map.mp hw
  exact lp_0 k (List.mem_range.mp hk)
theorem ly_1_0 : u_lay (mm_own 1) mm_tb1 0 ∈ mm_T := (mm_mem 54 (by decide +kernel) (by decide +kernel))
theorem ly_1_1 : u_lay (mm_own 1) mm_tb1 1 ∈ mm_T := (mm_mem 56 (by decide +kernel) (by decide +kernel))
theorem ly_1_2 : u_lay (mm_own 1) mm_tb1 2 ∈ mm_T := (mm_mem 58 (by decide +kernel) (by decide +kernel))
theorem ly_1_3 : u_lay (mm_own 1) mm_tb1 3 ∈ mm_T := (mm_mem 60 (by decide +kernel) (by decide +kernel))
theorem ly_1_4 : u_lay (mm_own 1) mm_tb1 4 ∈ mm_T := (mm_mem 62 (by decide +kernel) (by decide +kernel))
theorem ly_1_5 : u_lay (mm_own 1) mm_tb1 5 ∈ mm_T := (mm_mem 64 (by decide +kernel) (by decide +kernel))
theorem ly_1_6 : u_lay (mm_own 1) mm_tb1 6 ∈ mm_T := (mm_mem 66 (by decide +kernel) (by decide +kernel))
theorem ly_1_7 : u_lay (mm_own 1) mm_tb1 7 ∈ mm_T := (mm_mem 68 (by decide +kernel) (by decide +kernel))
theorem ly_1_8 : u_lay (mm_own 1) mm_tb1 8 ∈ mm_T := (mm_mem 70 (by decide +kernel) (by decide +kernel))
theorem ly_1_9 : u_lay (mm_own 1) mm_tb1 9 ∈ mm_T := (mm_mem 72 (by decide +kernel) (by decide +kernel))
theorem ly_1_10 : u_lay (mm_own 1) mm_tb1 10 ∈ mm_T := (mm_mem 74 (by decide +kernel) (by decide +kernel))
theorem ly_1_11 : u_lay (mm_own 1) mm_tb1 11 ∈ mm_T := (mm_mem 76 (by decide +kernel) (by decide +kernel))
theorem lp_1 : ∀ k, k < 12 → u_lay (mm_own 1) mm_tb1 k ∈ mm_T
  | 0, _ => ly_1_0
  | 1, _ => ly_1_1
  | 2, _ => ly_1_2
  | 3, _ => ly_1_3
  | 4, _ => ly_1_4
  | 5, _ => ly_1_5
  | 6, _ => ly_1_6
  | 7, _ => ly_1_7
  | 8, _ => ly_1_8
  | 9, _ => ly_1_9
  | 10, _ => ly_1_10
  | 11, _ => ly_1_11
  | j + 12, h => absurd h (by omega)
theorem cp_1 : mm_clP 1 (mm_own 1, mm_tb1, 12) := by
  refine ⟨rfl, rfl, fun w hw => ?_, by decide +kernel, by decide +kernel, by decide +kernel⟩
  obtain ⟨k, hk, rfl⟩ := List.mem_map.mp hw
  exact lp_1 k (List.mem_range.mp hk)
theorem ly_2_0 : u_lay (mm_own 2) mm_tb2 0 ∈ mm_T := (mm_mem 148 (by decide +kernel) (by decide +kernel))
theorem ly_2_1 : u_lay (mm_own 2) mm_tb2 1 ∈ mm_T := (mm_mem 150 (by decide +kernel) (by decide +kernel))
theorem ly_2_2 : u_lay (mm_own 2) mm_tb2 2 ∈ mm_T := (mm_mem 152 (by decide +kernel) (by decide +kernel))
theorem ly_2_3 : u_lay (mm_own 2) mm_tb2 3 ∈ mm_T := (mm_mem 154 (by decide +kernel) (by decide +kernel))
theorem ly_2_4 : u_lay (mm_own 2) mm_tb2 4 ∈ mm_T := (mm_mem 156 (by decide +kernel) (by decide +kernel))
theorem lp_2 : ∀ k, k < 5 → u_lay (mm_own 2) mm_tb2 k ∈ mm_T
  | 0, _ => ly_2_0
  | 1, _ => ly_2_1
  | 2, _ => ly_2_2
  | 3, _ => ly_2_3
  | 4, _ => ly_2_4
  | j + 5, h => absurd h (by omega)
theorem cp_2 : mm_clP 2 (mm_own 2, mm_tb2, 5) := by
  refine ⟨rfl, rfl, fun w hw => ?_, by decide +kernel, by decide +kernel, by decide +kernel⟩
  obtain ⟨k, hk, rfl⟩ := List.mem_map.mp hw
  exact lp_2 k (List.mem_range.mp hk)
theorem ly_3_0 : u_lay (mm_own 3) mm_tb3 0 ∈ mm_T := (mm_mem 122 (by decide +kernel) (by decide +kernel))
theorem ly_3_1 : u_lay (mm_own 3) mm_tb3 1 ∈ mm_T := (mm_mem 124 (by decide +kernel) (by decide +kernel))
theorem ly_3_2 : u_lay (mm_own 3) mm_tb3 2 ∈ mm_T := (mm_mem 126 (by decide +kernel) (by decide +kernel))
theorem ly_3_3 : u_lay (mm_own 3) mm_tb3 3 ∈ mm_T := (mm_mem 128 (by decide +kernel) (by decide +kernel))
theorem ly_3_4 : u_lay (mm_own 3) mm_tb3 4 ∈ mm_T := (mm_mem 130 (by decide +kernel) (by decide +kernel))
theorem ly_3_5 : u_lay (mm_own 3) mm_tb3 5 ∈ mm_T := (mm_mem 132 (by decide +kernel) (by decide +kernel))
theorem ly_3_6 : u_lay (mm_own 3) mm_tb3 6 ∈ mm_T := (mm_mem 134 (by decide +kernel) (by decide +kernel))
theorem ly_3_7 : u_lay (mm_own 3) mm_tb3 7 ∈ mm_T := (mm_mem 136 (by decide +kernel) (by decide +kernel))
theorem lp_3 : ∀ k, k < 8 → u_lay (mm_own 3) mm_tb3 k ∈ mm_T
  | 0, _ => ly_3_0
  | 1, _ => ly_3_1
  | 2, _ => ly_3_2
  | 3, _ => ly_3_3
  | 4, _ => ly_3_4
  | 5, _ => ly_3_5
  | 6, _ => ly_3_6
  | 7, _ => ly_3_7
  | j + 8, h => absurd h (by omega)
theorem cp_3 : mm_clP 3 (mm_own 3, mm_tb3, 8) := by
  refine ⟨rfl, rfl, fun w hw => ?_, by decide +kernel, by decide +kernel, by decide +kernel⟩
  obtain ⟨k, hk, rfl⟩ := List.mem_map.mp hw
  exact lp_3 k (List.mem_range.mp hk)
theorem ly_4_0 : u_lay (mm_own 4) mm_tb4 0 ∈ mm_T := (mm_mem 170 (by decide +kernel) (by decide +kernel))
theorem ly_4_1 : u_lay (mm_own 4) mm_tb4 1 ∈ mm_T := (mm_mem 172 (by decide +kernel) (by decide +kernel))
theorem ly_4_2 : u_lay (mm_own 4) mm_tb4 2 ∈ mm_T := (mm_mem 174 (by decide +kernel) (by decide +kernel))
theorem ly_4_3 : u_lay (mm_own 4) mm_tb4 3 ∈ mm_T := (mm_mem 176 (by decide +kernel) (by decide +kernel))
theorem lp_4 : ∀ k, k < 4 → u_lay (mm_own 4) mm_tb4 k ∈ mm_T
  | 0, _ => ly_4_0
  | 1, _ => ly_4_1
  | 2, _ => ly_4_2
  | 3, _ => ly_4_3
  | j + 4, h => absurd h (by omega)
theorem cp_4 : mm_clP 4 (mm_own 4, mm_tb4, 4) := by
  refine ⟨rfl, rfl, fun w hw => ?_, by decide +kernel, by decide +kernel, by decide +kernel⟩
  obtain ⟨k, hk, rfl⟩ := List.mem_map.mp hw
  exact lp_4 k (List.mem_range.mp hk)
theorem ly_5_0 : u_lay (mm_own 5) mm_tb5 0 ∈ mm_T := (mm_mem 538 (by decide +kernel) (by decide +kernel))
theorem ly_5_1 : u_lay (mm_own 5) mm_tb5 1 ∈ mm_T := (mm_mem 540 (by decide +kernel) (by decide +kernel))
theorem ly_5_2 : u_lay (mm_own 5) mm_tb5 2 ∈ mm_T := (mm_mem 542 (by decide +kernel) (by decide +kernel))
theorem ly_5_3 : u_lay (mm_own 5) mm_tb5 3 ∈ mm_T := (mm_mem 544 (by decide +kernel) (by decide +kernel))
theorem ly_5_4 : u_lay (mm_own 5) mm_tb5 4 ∈ mm_T := (mm_mem 546 (by decide +kernel) (by decide +kernel))
theorem ly_5_5 : u_lay (mm_own 5) mm_tb5 5 ∈ mm_T := (mm_mem 548 (by decide +kernel) (by decide +kernel))
theorem ly_5_6 : u_lay (mm_own 5) mm_tb5 6 ∈ mm_T := (mm_mem 550 (by decide +kernel) (by decide +kernel))
theorem ly_5_7 : u_lay (mm_own 5) mm_tb5 7 ∈ mm_T := (mm_mem 552 (by decide +kernel) (by decide +kernel))
theorem ly_5_8 : u_lay (mm_own 5) mm_tb5 8 ∈ mm_T := (mm_mem 554 (by decide +kernel) (by decide +kernel))
theorem ly_5_9 : u_lay (mm_own 5) mm_tb5 9 ∈ mm_T := (mm_mem 556 (by decide +kernel) (by decide +kernel))
theorem ly_5_10 : u_lay (mm_own 5) mm_tb5 10 ∈ mm_T := (mm_mem 558 (by decide +kernel) (by decide +kernel))
theorem ly_5_11 : u_lay (mm_own 5) mm_tb5 11 ∈ mm_T := (mm_mem 560 (by decide +kernel) (by decide +kernel))
theorem ly_5_12 : u_lay (mm_own 5) mm_tb5 12 ∈ mm_T := (mm_mem 562 (by decide +kernel) (by decide +kernel))
theorem ly_5_13 : u_lay (mm_own 5) mm_tb5 13 ∈ mm_T := (mm_mem 564 (by decide +kernel) (by decide +kernel))
theorem ly_5_14 : u_lay (mm_own 5) mm_tb5 14 ∈ mm_T := (mm_mem 566 (by decide +kernel) (by decide +kernel))
theorem ly_5_15 : u_lay (mm_own 5) mm_tb5 15 ∈ mm_T := (mm_mem 568 (by decide +kernel) (by decide +kernel))
theorem ly_5_16 : u_lay (mm_own 5) mm_tb5 16 ∈ mm_T := (mm_mem 570 (by decide +kernel) (by decide +kernel))
theorem ly_5_17 : u_lay (mm_own 5) mm_tb5 17 ∈ mm_T := (mm_mem 572 (by decide +kernel) (by decide +kernel))
theorem ly_5_18 : u_lay (mm_own 5) mm_tb5 18 ∈ mm_T := (mm_mem 574 (by decide +kernel) (by decide +kernel))
theorem ly_5_19 : u_lay (mm_own 5) mm_tb5 19 ∈ mm_T := (mm_mem 576 (by decide +kernel) (by decide +kernel))
theorem ly_5_20 : u_lay (mm_own 5) mm_tb5 20 ∈ mm_T := (mm_mem 578 (by decide +kernel) (by decide +kernel))
theorem ly_5_21 : u_lay (mm_own 5) mm_tb5 21 ∈ mm_T := (mm_mem 580 (by decide +kernel) (by decide +kernel))
theorem ly_5_22 : u_lay (mm_own 5) mm_tb5 22 ∈ mm_T := (mm_mem 582 (by decide +kernel) (by decide +kernel))
theorem ly_5_23 : u_lay (mm_own 5) mm_tb5 23 ∈ mm_T := (mm_mem 584 (by decide +kernel) (by decide +kernel))
theorem ly_5_24 : u_lay (mm_own 5) mm_tb5 24 ∈ mm_T := (mm_mem 586 (by decide +kernel) (by decide +kernel))
theorem ly_5_25 : u_lay (mm_own 5) mm_tb5 25 ∈ mm_T := (mm_mem 588 (by decide +kernel) (by decide +kernel))
theorem ly_5_26 : u_lay (mm_own 5) mm_tb5 26 ∈ mm_T := (mm_mem 590 (by decide +kernel) (by decide +kernel))
theorem ly_5_27 : u_lay (mm_own 5) mm_tb5 27 ∈ mm_T := (mm_mem 592 (by decide +kernel) (by decide +kernel))
theorem ly_5_28 : u_lay (mm_own 5) mm_tb5 28 ∈ mm_T := (mm_mem 594 (by decide +kernel) (by decide +kernel))
theorem ly_5_29 : u_lay (mm_own 5) mm_tb5 29 ∈ mm_T := (mm_mem 596 (by decide +kernel) (by decide +kernel))
theorem ly_5_30 : u_lay (mm_own 5) mm_tb5 30 ∈ mm_T := (mm_mem 598 (by decide +kernel) (by decide +kernel))
theorem ly_5_31 : u_lay (mm_own 5) mm_tb5 31 ∈ mm_T := (mm_mem 600 (by decide +kernel) (by decide +kernel))
theorem ly_5_32 : u_lay (mm_own 5) mm_tb5 32 ∈ mm_T := (mm_mem 602 (by decide +kernel) (by decide +kernel))
theorem ly_5_33 : u_lay (mm_own 5) mm_tb5 33 ∈ mm_T := (mm_mem 604 (by decide +kernel) (by decide +kernel))
theorem ly_5_34 : u_lay (mm_own 5) mm_tb5 34 ∈ mm_T := (mm_mem 606 (by decide +kernel) (by decide +kernel))
theorem ly_5_35 : u_lay (mm_own 5) mm_tb5 35 ∈ mm_T := (mm_mem 608 (by decide +kernel) (by decide +kernel))
theorem ly_5_36 : u_lay (mm_own 5) mm_tb5 36 ∈ mm_T := (mm_mem 610 (by decide +kernel) (by decide +kernel))
theorem lp_5 : ∀ k, k < 37 → u_lay (mm_own 5) mm_tb5 k ∈ mm_T
  | 0, _ => ly_5_0
  | 1, _ => ly_5_1
  | 2, _ => ly_5_2
  | 3, _ => ly_5_3
  | 4, _ => ly_5_4
  | 5, _ => ly_5_5
  | 6, _ => ly_5_6
  | 7, _ => ly_5_7
  | 8, _ => ly_5_8
  | 9, _ => ly_5_9
  | 10, _ => ly_5_10
  | 11, _ => ly_5_11
  | 12, _ => ly_5_12
  | 13, _ => ly_5_13
  | 14, _ => ly_5_14
  | 15, _ => ly_5_15
  | 16, _ => ly_5_16
  | 17, _ => ly_5_17
  | 18, _ => ly_5_18
  | 19, _ => ly_5_19
  | 20, _ => ly_5_20
  | 21, _ => ly_5_21
  | 22, _ => ly_5_22
  | 23, _ => ly_5_23
  | 24, _ => ly_5_24
  | 25, _ => ly_5_25
  | 26, _ => ly_5_26
  | 27, _ => ly_5_27
  | 28, _ => ly_5_28
  | 29, _ => ly_5_29
  | 30, _ => ly_5_30
  | 31, _ => ly_5_31
  | 32, _ => ly_5_32
  | 33, _ => ly_5_33
  | 34, _ => ly_5_34
  | 35, _ => ly_5_35
  | 36, _ => ly_5_36
  | j + 37, h => absurd h (by omega)
theorem cp_5 : mm_clP 5 (mm_own 5, mm_tb5, 37) := by
  refine ⟨rfl, rfl, fun w hw => ?_, by decide +kernel, by decide +kernel, by decide +kernel⟩
  obtain ⟨k, hk, rfl⟩ := List.mem_map.mp hw
  exact lp_5 k (List.mem_range.mp hk)
theorem mm_Ylt {f ci : Nat} (h : mm_Y f = .inl ci) : ci < 6 := by
  unfold mm_Y at h
  split at h <;> cases h <;> decide
theorem mm_clok {f ci : Nat} (h : mm_Y f = .inl ci) : ∃ r, mm_cl[ci]? = some r ∧ mm_clP ci r :=
  match ci, mm_Ylt h with
  | 0, _ => ⟨_, rfl, cp_0⟩
  | 1, _ => ⟨_, rfl, cp_1⟩
  | 2, _ => ⟨_, rfl, cp_2⟩
  | 3, _ => ⟨_, rfl, cp_3⟩
  | 4, _ => ⟨_, rfl, cp_4⟩
  | 5, _ => ⟨_, rfl, cp_5⟩
theorem mm_ownI {f ci : Nat} (_ : mm_Y f = .inl ci) : mm_own ci = mm_nm ci := rfl
theorem mm_ftok {f ci k : Nat} (h : mm_Y f = .inl ci) (hk : k < mm_N ci) : mm_ft ci k ≠ .float ∧ mm_ft ci k ≠ .double := by
  have h2 : ∀ c, c < 6 → ∀ k, k < mm_N c → mm_ft c k ≠ .float ∧ mm_ft c k ≠ .double := by decide +kernel
  exact h2 ci (mm_Ylt h) k hk
theorem mm_Yok {f n : Nat} {ty : FieldType} (h : mm_Y f = .inr (ty, n)) : ty ∈ mm_tyl := by
  unfold mm_Y at h
  split at h <;> cases h <;> decide
theorem mm_prtok {ty : FieldType} (h : ty ∈ mm_prt) : Cond.arrayClass ty ∈ mm_T ∧ ty ∈ mm_tyl := by
  unfold mm_prt at h
  simp at h
  rcases h with rfl | rfl | rfl
  · exact ⟨(mm_mem 79 (by decide +kernel) (by decide +kernel)), by decide⟩
  · exact ⟨(mm_mem 80 (by decide +kernel) (by decide +kernel)), by decide⟩
  · exact ⟨(mm_mem 139 (by decide +kernel) (by decide +kernel)), by decide⟩
def mm_FLp (q : Nat × Nat × Nat × Nat) : Prop := ∀ r, mm_cl[q.2.2.1]? = some r → q.2.2.2 < r.2.2 ∧ (Cond.fieldLink (mm_own q.1) q.2.1 (r.2.1 q.2.2.2).1 (r.2.1 q.2.2.2).2.1 (r.2.1 q.2.2.2).2.2.1 ∈ mm_T ∨ ∃ h, (mm_own q.1, q.2.1, (r.2.1 q.2.2.2).1, (r.2.1 q.2.2.2).2.1, (r.2.1 q.2.2.2).2.2.1, h) ∈ mm_nF)
theorem flp_0_15 : mm_FLp (0, 15, 0, 0) := by
  intro r hr
  obtain rfl := Option.some.inj hr
  exact ⟨by decide +kernel, Or.inl (mm_mem 179 (by decide +kernel) (by decide +kernel))⟩
theorem flp_0_21 : mm_FLp (0, 21, 0, 1) := by
  intro r hr
  obtain rfl := Option.some.inj hr
  exact ⟨by decide +kernel, Or.inl (mm_mem 180 (by decide +kernel) (by decide +kernel))⟩
theorem flp_0_27 : mm_FLp (0, 27, 2, 1) := by
  intro r hr
  obtain rfl := Option.some.inj hr
  exact ⟨by decide +kernel, Or.inr ⟨"StagedCompiler", List.mem_of_getElem? (i := 0) (by decide +kernel)⟩⟩
theorem flp_0_34 : mm_FLp (0, 34, 0, 2) := by
  intro r hr
  obtain rfl := Option.some.inj hr
  exact ⟨by decide +kernel, Or.inl (mm_mem 181 (by decide +kernel) (by decide +kernel))⟩
theorem flp_1_9 : mm_FLp (1, 9, 1, 0) := by
  intro r hr
  obtain rfl := Option.some.inj hr
  exact ⟨by decide +kernel, Or.inl (mm_mem 25 (by decide +kernel) (by decide +kernel))⟩
theorem flp_1_15 : mm_FLp (1, 15, 1, 1) := by
  intro r hr
  obtain rfl := Option.some.inj hr
  exact ⟨by decide +kernel, Or.inl (mm_mem 28 (by decide +kernel) (by decide +kernel))⟩
theorem flp_1_18 : mm_FLp (1, 18, 1, 2) := by
  intro r hr
  obtain rfl := Option.some.inj hr
  exact ⟨by decide +kernel, Or.inl (mm_mem 31 (by decide +kernel) (by decide +kernel))⟩
theorem flp_1_21 : mm_FLp (1, 21, 1, 3) := by
  intro r hr
  obtain rfl := Option.some.inj hr
  exact ⟨by decide +kernel, Or.inl (mm_mem 34 (by decide +kernel) (by decide +kernel))⟩
theorem flp_1_24 : mm_FLp (1, 24, 1, 4) := by
  intro r hr
  obtain rfl := Option.some.inj hr
  exact ⟨by decide +kernel, Or.inl (mm_mem 37 (by decide +kernel) (by decide +kernel))⟩
theorem flp_1_27 : mm_FLp (1, 27, 1, 5) := by
  intro r hr
  obtain rfl := Option.some.inj hr
  exact ⟨by decide +kernel, Or.inl (mm_mem 38 (by decide +kernel) (by decide +kernel))⟩
theorem flp_1_31 : mm_FLp (1, 31, 1, 6) := by
  intro r hr
  obtain rfl := Option.some.inj hr
  exact ⟨by decide +kernel, Or.inl (mm_mem 39 (by decide +kernel) (by decide +kernel))⟩
theorem flp_1_34 : mm_FLp (1, 34, 1, 7) := by
  intro r hr
  obtain rfl := Option.some.inj hr
  exact ⟨by decide +kernel, Or.inl (mm_mem 42 (by decide +kernel) (by decide +kernel))⟩
theorem flp_1_37 : mm_FLp (1, 37, 1, 8) := by
  intro r hr
  obtain rfl := Option.some.inj hr
  exact ⟨by decide +kernel, Or.inl (mm_mem 45 (by decide +kernel) (by decide +kernel))⟩
theorem flp_1_40 : mm_FLp (1, 40, 1, 9) := by
  intro r hr
  obtain rfl := Option.some.inj hr
  exact ⟨by decide +kernel, Or.inl (mm_mem 47 (by decide +kernel) (by decide +kernel))⟩
theorem flp_1_43 : mm_FLp (1, 43, 1, 10) := by
  intro r hr
  obtain rfl := Option.some.inj hr
  exact ⟨by decide +kernel, Or.inl (mm_mem 50 (by decide +kernel) (by decide +kernel))⟩
theorem flp_1_47 : mm_FLp (1, 47, 1, 11) := by
  intro r hr
  obtain rfl := Option.some.inj hr
  exact ⟨by decide +kernel, Or.inl (mm_mem 52 (by decide +kernel) (by decide +kernel))⟩
theorem flp_2_9 : mm_FLp (2, 9, 2, 0) := by
  intro r hr
  obtain rfl := Option.some.inj hr
  exact ⟨by decide +kernel, Or.inl (mm_mem 140 (by decide +kernel) (by decide +kernel))⟩
theorem flp_2_17 : mm_FLp (2, 17, 2, 1) := by
  intro r hr
  obtain rfl := Option.some.inj hr
  exact ⟨by decide +kernel, Or.inl (mm_mem 141 (by decide +kernel) (by decide +kernel))⟩
theorem flp_2_22 : mm_FLp (2, 22, 2, 2) := by
  intro r hr
  obtain rfl := Option.some.inj hr
  exact ⟨by decide +kernel, Or.inl (mm_mem 143 (by decide +kernel) (by decide +kernel))⟩
theorem flp_2_26 : mm_FLp (2, 26, 2, 3) := by
  intro r hr
  obtain rfl := Option.some.inj hr
  exact ⟨by decide +kernel, Or.inl (mm_mem 145 (by decide +kernel) (by decide +kernel))⟩
theorem flp_2_29 : mm_FLp (2, 29, 2, 4) := by
  intro r hr
  obtain rfl := Option.some.inj hr
  exact ⟨by decide +kernel, Or.inl (mm_mem 146 (by decide +kernel) (by decide +kernel))⟩
theorem flp_3_9 : mm_FLp (3, 9, 3, 2) := by
  intro r hr
  obtain rfl := Option.some.inj hr
  exact ⟨by decide +kernel, Or.inl (mm_mem 100 (by decide +kernel) (by decide +kernel))⟩
theorem flp_3_15 : mm_FLp (3, 15, 3, 3) := by
  intro r hr
  obtain rfl := Option.some.inj hr
  exact ⟨by decide +kernel, Or.inl (mm_mem 103 (by decide +kernel) (by decide +kernel))⟩
theorem flp_3_19 : mm_FLp (3, 19, 3, 4) := by
  intro r hr
  obtain rfl := Option.some.inj hr
  exact ⟨by decide +kernel, Or.inl (mm_mem 106 (by decide +kernel) (by decide +kernel))⟩
theorem flp_3_22 : mm_FLp (3, 22, 3, 5) := by
  intro r hr
  obtain rfl := Option.some.inj hr
  exact ⟨by decide +kernel, Or.inl (mm_mem 110 (by decide +kernel) (by decide +kernel))⟩
theorem flp_3_26 : mm_FLp (3, 26, 3, 6) := by
  intro r hr
  obtain rfl := Option.some.inj hr
  exact ⟨by decide +kernel, Or.inl (mm_mem 115 (by decide +kernel) (by decide +kernel))⟩
theorem flp_3_29 : mm_FLp (3, 29, 3, 7) := by
  intro r hr
  obtain rfl := Option.some.inj hr
  exact ⟨by decide +kernel, Or.inl (mm_mem 119 (by decide +kernel) (by decide +kernel))⟩
theorem flp_3_32 : mm_FLp (3, 32, 3, 0) := by
  intro r hr
  obtain rfl := Option.some.inj hr
  exact ⟨by decide +kernel, Or.inl (mm_mem 94 (by decide +kernel) (by decide +kernel))⟩
theorem flp_3_38 : mm_FLp (3, 38, 3, 1) := by
  intro r hr
  obtain rfl := Option.some.inj hr
  exact ⟨by decide +kernel, Or.inl (mm_mem 98 (by decide +kernel) (by decide +kernel))⟩
theorem flp_4_9 : mm_FLp (4, 9, 4, 0) := by
  intro r hr
  obtain rfl := Option.some.inj hr
  exact ⟨by decide +kernel, Or.inl (mm_mem 165 (by decide +kernel) (by decide +kernel))⟩
theorem flp_4_15 : mm_FLp (4, 15, 4, 1) := by
  intro r hr
  obtain rfl := Option.some.inj hr
  exact ⟨by decide +kernel, Or.inl (mm_mem 166 (by decide +kernel) (by decide +kernel))⟩
theorem flp_4_19 : mm_FLp (4, 19, 4, 2) := by
  intro r hr
  obtain rfl := Option.some.inj hr
  exact ⟨by decide +kernel, Or.inl (mm_mem 167 (by decide +kernel) (by decide +kernel))⟩
theorem flp_4_23 : mm_FLp (4, 23, 4, 3) := by
  intro r hr
  obtain rfl := Option.some.inj hr
  exact ⟨by decide +kernel, Or.inl (mm_mem 168 (by decide +kernel) (by decide +kernel))⟩
theorem flp_5_7 : mm_FLp (5, 7, 5, 0) := by
  intro r hr
  obtain rfl := Option.some.inj hr
  exact ⟨by decide +kernel, Or.inl (mm_mem 501 (by decide +kernel) (by decide +kernel))⟩
theorem flp_5_13 : mm_FLp (5, 13, 5, 1) := by
  intro r hr
  obtain rfl := Option.some.inj hr
  exact ⟨by decide +kernel, Or.inl (mm_mem 502 (by decide +kernel) (by decide +kernel))⟩
theorem flp_5_16 : mm_FLp (5, 16, 5, 2) := by
  intro r hr
  obtain rfl := Option.some.inj hr
  exact ⟨by decide +kernel, Or.inl (mm_mem 503 (by decide +kernel) (by decide +kernel))⟩
theorem flp_5_19 : mm_FLp (5, 19, 5, 3) := by
  intro r hr
  obtain rfl := Option.some.inj hr
  exact ⟨by decide +kernel, Or.inl (mm_mem 504 (by decide +kernel) (by decide +kernel))⟩
theorem flp_5_22 : mm_FLp (5, 22, 5, 4) := by
  intro r hr
  obtain rfl := Option.some.inj hr
  exact ⟨by decide +kernel, Or.inl (mm_mem 505 (by decide +kernel) (by decide +kernel))⟩
theorem flp_5_25 : mm_FLp (5, 25, 5, 5) := by
  intro r hr
  obtain rfl := Option.some.inj hr
  exact ⟨by decide +kernel, Or.inl (mm_mem 506 (by decide +kernel) (by decide +kernel))⟩
theorem flp_5_29 : mm_FLp (5, 29, 5, 6) := by
  intro r hr
  obtain rfl := Option.some.inj hr
  exact ⟨by decide +kernel, Or.inl (mm_mem 507 (by decide +kernel) (by decide +kernel))⟩
theorem flp_5_32 : mm_FLp (5, 32, 5, 7) := by
  intro r hr
  obtain rfl := Option.some.inj hr
  exact ⟨by decide +kernel, Or.inl (mm_mem 508 (by decide +kernel) (by decide +kernel))⟩
theorem flp_5_35 : mm_FLp (5, 35, 5, 8) := by
  intro r hr
  obtain rfl := Option.some.inj hr
  exact ⟨by decide +kernel, Or.inl (mm_mem 509 (by decide +kernel) (by decide +kernel))⟩
theorem flp_5_38 : mm_FLp (5, 38, 5, 9) := by
  intro r hr
  obtain rfl := Option.some.inj hr
  exact ⟨by decide +kernel, Or.inl (mm_mem 510 (by decide +kernel) (by decide +kernel))⟩
theorem flp_5_41 : mm_FLp (5, 41, 5, 10) := by
  intro r hr
  obtain rfl := Option.some.inj hr
  exact ⟨by decide +kernel, Or.inl (mm_mem 511 (by decide +kernel) (by decide +kernel))⟩
theorem flp_5_45 : mm_FLp (5, 45, 5, 11) := by
  intro r hr
  obtain rfl := Option.some.inj hr
  exact ⟨by decide +kernel, Or.inl (mm_mem 512 (by decide +kernel) (by decide +kernel))⟩
theorem flp_5_48 : mm_FLp (5, 48, 5, 12) := by
  intro r hr
  obtain rfl := Option.some.inj hr
  exact ⟨by decide +kernel, Or.inl (mm_mem 513 (by decide +kernel) (by decide +kernel))⟩
theorem flp_5_51 : mm_FLp (5, 51, 5, 13) := by
  intro r hr
  obtain rfl := Option.some.inj hr
  exact ⟨by decide +kernel, Or.inl (mm_mem 514 (by decide +kernel) (by decide +kernel))⟩
theorem flp_5_54 : mm_FLp (5, 54, 5, 14) := by
  intro r hr
  obtain rfl := Option.some.inj hr
  exact ⟨by decide +kernel, Or.inl (mm_mem 515 (by decide +kernel) (by decide +kernel))⟩
theorem flp_5_57 : mm_FLp (5, 57, 5, 15) := by
  intro r hr
  obtain rfl := Option.some.inj hr
  exact ⟨by decide +kernel, Or.inl (mm_mem 516 (by decide +kernel) (by decide +kernel))⟩
theorem flp_5_60 : mm_FLp (5, 60, 5, 16) := by
  intro r hr
  obtain rfl := Option.some.inj hr
  exact ⟨by decide +kernel, Or.inl (mm_mem 517 (by decide +kernel) (by decide +kernel))⟩
theorem flp_5_63 : mm_FLp (5, 63, 5, 17) := by
  intro r hr
  obtain rfl := Option.some.inj hr
  exact ⟨by decide +kernel, Or.inl (mm_mem 518 (by decide +kernel) (by decide +kernel))⟩
theorem flp_5_66 : mm_FLp (5, 66, 5, 18) := by
  intro r hr
  obtain rfl := Option.some.inj hr
  exact ⟨by decide +kernel, Or.inl (mm_mem 519 (by decide +kernel) (by decide +kernel))⟩
theorem flp_5_69 : mm_FLp (5, 69, 5, 19) := by
  intro r hr
  obtain rfl := Option.some.inj hr
  exact ⟨by decide +kernel, Or.inl (mm_mem 520 (by decide +kernel) (by decide +kernel))⟩
theorem flp_5_72 : mm_FLp (5, 72, 5, 20) := by
  intro r hr
  obtain rfl := Option.some.inj hr
  exact ⟨by decide +kernel, Or.inl (mm_mem 521 (by decide +kernel) (by decide +kernel))⟩
theorem flp_5_75 : mm_FLp (5, 75, 5, 21) := by
  intro r hr
  obtain rfl := Option.some.inj hr
  exact ⟨by decide +kernel, Or.inl (mm_mem 522 (by decide +kernel) (by decide +kernel))⟩
theorem flp_5_78 : mm_FLp (5, 78, 5, 22) := by
  intro r hr
  obtain rfl := Option.some.inj hr
  exact ⟨by decide +kernel, Or.inl (mm_mem 523 (by decide +kernel) (by decide +kernel))⟩
theorem flp_5_82 : mm_FLp (5, 82, 5, 23) := by
  intro r hr
  obtain rfl := Option.some.inj hr
  exact ⟨by decide +kernel, Or.inl (mm_mem 524 (by decide +kernel) (by decide +kernel))⟩
theorem flp_5_85 : mm_FLp (5, 85, 5, 24) := by
  intro r hr
  obtain rfl := Option.some.inj hr
  exact ⟨by decide +kernel, Or.inl (mm_mem 525 (by decide +kernel) (by decide +kernel))⟩
theorem flp_5_88 : mm_FLp (5, 88, 5, 25) := by
  intro r hr
  obtain rfl := Option.some.inj hr
  exact ⟨by decide +kernel, Or.inl (mm_mem 526 (by decide +kernel) (by decide +kernel))⟩
theorem flp_5_91 : mm_FLp (5, 91, 5, 26) := by
  intro r hr
  obtain rfl := Option.some.inj hr
  exact ⟨by decide +kernel, Or.inl (mm_mem 527 (by decide +kernel) (by decide +kernel))⟩
theorem flp_5_94 : mm_FLp (5, 94, 5, 27) := by
  intro r hr
  obtain rfl := Option.some.inj hr
  exact ⟨by decide +kernel, Or.inl (mm_mem 528 (by decide +kernel) (by decide +kernel))⟩
theorem flp_5_97 : mm_FLp (5, 97, 5, 28) := by
  intro r hr
  obtain rfl := Option.some.inj hr
  exact ⟨by decide +kernel, Or.inl (mm_mem 529 (by decide +kernel) (by decide +kernel))⟩
theorem flp_5_100 : mm_FLp (5, 100, 5, 29) := by
  intro r hr
  obtain rfl := Option.some.inj hr
  exact ⟨by decide +kernel, Or.inl (mm_mem 530 (by decide +kernel) (by decide +kernel))⟩
theorem flp_5_103 : mm_FLp (5, 103, 5, 30) := by
  intro r hr
  obtain rfl := Option.some.inj hr
  exact ⟨by decide +kernel, Or.inl (mm_mem 531 (by decide +kernel) (by decide +kernel))⟩
theorem flp_5_106 : mm_FLp (5, 106, 5, 31) := by
  intro r hr
  obtain rfl := Option.some.inj hr
  exact ⟨by decide +kernel, Or.inl (mm_mem 532 (by decide +kernel) (by decide +kernel))⟩
theorem flp_5_109 : mm_FLp (5, 109, 5, 32) := by
  intro r hr
  obtain rfl := Option.some.inj hr
  exact ⟨by decide +kernel, Or.inl (mm_mem 533 (by decide +kernel) (by decide +kernel))⟩
theorem flp_5_112 : mm_FLp (5, 112, 5, 33) := by
  intro r hr
  obtain rfl := Option.some.inj hr
  exact ⟨by decide +kernel, Or.inl (mm_mem 534 (by decide +kernel) (by decide +kernel))⟩
theorem flp_5_116 : mm_FLp (5, 116, 5, 34) := by
  intro r hr
  obtain rfl := Option.some.inj hr
  exact ⟨by decide +kernel, Or.inl (mm_mem 535 (by decide +kernel) (by decide +kernel))⟩
theorem flp_5_119 : mm_FLp (5, 119, 5, 35) := by
  intro r hr
  obtain rfl := Option.some.inj hr
  exact ⟨by decide +kernel, Or.inl (mm_mem 536 (by decide +kernel) (by decide +kernel))⟩
theorem flp_5_122 : mm_FLp (5, 122, 5, 36) := by
  intro r hr
  obtain rfl := Option.some.inj hr
  exact ⟨by decide +kernel, Or.inl (mm_mem 537 (by decide +kernel) (by decide +kernel))⟩
theorem flp_0_54 : mm_FLp (0, 54, 2, 4) := by
  intro r hr
  obtain rfl := Option.some.inj hr
  exact ⟨by decide +kernel, Or.inr ⟨"StagedCompiler", List.mem_of_getElem? (i := 1) (by decide +kernel)⟩⟩
theorem flp_0_61 : mm_FLp (0, 61, 3, 0) := by
  intro r hr
  obtain rfl := Option.some.inj hr
  exact ⟨by decide +kernel, Or.inr ⟨"StagedCompiler", List.mem_of_getElem? (i := 2) (by decide +kernel)⟩⟩
theorem flp_0_68 : mm_FLp (0, 68, 3, 2) := by
  intro r hr
  obtain rfl := Option.some.inj hr
  exact ⟨by decide +kernel, Or.inr ⟨"StagedCompiler", List.mem_of_getElem? (i := 3) (by decide +kernel)⟩⟩
theorem flp_0_74 : mm_FLp (0, 74, 3, 3) := by
  intro r hr
  obtain rfl := Option.some.inj hr
  exact ⟨by decide +kernel, Or.inr ⟨"StagedCompiler", List.mem_of_getElem? (i := 4) (by decide +kernel)⟩⟩
theorem flp_0_81 : mm_FLp (0, 81, 3, 4) := by
  intro r hr
  obtain rfl := Option.some.inj hr
  exact ⟨by decide +kernel, Or.inr ⟨"StagedCompiler", List.mem_of_getElem? (i := 5) (by decide +kernel)⟩⟩
theorem flp_0_84 : mm_FLp (0, 84, 3, 5) := by
  intro r hr
  obtain rfl := Option.some.inj hr
  exact ⟨by decide +kernel, Or.inr ⟨"StagedCompiler", List.mem_of_getElem? (i := 6) (by decide +kernel)⟩⟩
theorem flp_0_88 : mm_FLp (0, 88, 3, 6) := by
  intro r hr
  obtain rfl := Option.some.inj hr
  exact ⟨by decide +kernel, Or.inr ⟨"StagedCompiler", List.mem_of_getElem? (i := 7) (by decide +kernel)⟩⟩
theorem flp_0_103 : mm_FLp (0, 103, 1, 10) := by
  intro r hr
  obtain rfl := Option.some.inj hr
  exact ⟨by decide +kernel, Or.inr ⟨"StagedCompiler", List.mem_of_getElem? (i := 8) (by decide +kernel)⟩⟩
theorem flp_0_106 : mm_FLp (0, 106, 1, 11) := by
  intro r hr
  obtain rfl := Option.some.inj hr
  exact ⟨by decide +kernel, Or.inr ⟨"StagedCompiler", List.mem_of_getElem? (i := 9) (by decide +kernel)⟩⟩
theorem flp_0_109 : mm_FLp (0, 109, 2, 2) := by
  intro r hr
  obtain rfl := Option.some.inj hr
  exact ⟨by decide +kernel, Or.inr ⟨"StagedCompiler", List.mem_of_getElem? (i := 10) (by decide +kernel)⟩⟩
theorem flp_0_112 : mm_FLp (0, 112, 4, 3) := by
  intro r hr
  obtain rfl := Option.some.inj hr
  exact ⟨by decide +kernel, Or.inr ⟨"StagedCompiler", List.mem_of_getElem? (i := 11) (by decide +kernel)⟩⟩
theorem flp_1_99 : mm_FLp (1, 99, 3, 5) := by
  intro r hr
  obtain rfl := Option.some.inj hr
  exact ⟨by decide +kernel, Or.inr ⟨"StagedCompiler", List.mem_of_getElem? (i := 12) (by decide +kernel)⟩⟩
theorem flp_2_40 : mm_FLp (2, 40, 1, 9) := by
  intro r hr
  obtain rfl := Option.some.inj hr
  exact ⟨by decide +kernel, Or.inr ⟨"StagedCompiler", List.mem_of_getElem? (i := 13) (by decide +kernel)⟩⟩
theorem flp_2_46 : mm_FLp (2, 46, 3, 0) := by
  intro r hr
  obtain rfl := Option.some.inj hr
  exact ⟨by decide +kernel, Or.inr ⟨"StagedCompiler", List.mem_of_getElem? (i := 14) (by decide +kernel)⟩⟩
theorem flp_2_53 : mm_FLp (2, 53, 3, 1) := by
  intro r hr
  obtain rfl := Option.some.inj hr
  exact ⟨by decide +kernel, Or.inr ⟨"StagedCompiler", List.mem_of_getElem? (i := 15) (by decide +kernel)⟩⟩
theorem flp_2_68 : mm_FLp (2, 68, 3, 4) := by
  intro r hr
  obtain rfl := Option.some.inj hr
  exact ⟨by decide +kernel, Or.inr ⟨"StagedCompiler", List.mem_of_getElem? (i := 16) (by decide +kernel)⟩⟩
theorem flp_2_77 : mm_FLp (2, 77, 3, 6) := by
  intro r hr
  obtain rfl := Option.some.inj hr
  exact ⟨by decide +kernel, Or.inr ⟨"StagedCompiler", List.mem_of_getElem? (i := 17) (by decide +kernel)⟩⟩
theorem flp_2_88 : mm_FLp (2, 88, 1, 0) := by
  intro r hr
  obtain rfl := Option.some.inj hr
  exact ⟨by decide +kernel, Or.inr ⟨"StagedCompiler", List.mem_of_getElem? (i := 18) (by decide +kernel)⟩⟩
theorem flp_2_91 : mm_FLp (2, 91, 1, 1) := by
  intro r hr
  obtain rfl := Option.some.inj hr
  exact ⟨by decide +kernel, Or.inr ⟨"StagedCompiler", List.mem_of_getElem? (i := 19) (by decide +kernel)⟩⟩
theorem flp_2_116 : mm_FLp (2, 116, 3, 2) := by
  intro r hr
  obtain rfl := Option.some.inj hr
  exact ⟨by decide +kernel, Or.inr ⟨"StagedCompiler", List.mem_of_getElem? (i := 20) (by decide +kernel)⟩⟩
theorem flp_2_119 : mm_FLp (2, 119, 3, 3) := by
  intro r hr
  obtain rfl := Option.some.inj hr
  exact ⟨by decide +kernel, Or.inr ⟨"StagedCompiler", List.mem_of_getElem? (i := 21) (by decide +kernel)⟩⟩
theorem flp_2_126 : mm_FLp (2, 126, 1, 2) := by
  intro r hr
  obtain rfl := Option.some.inj hr
  exact ⟨by decide +kernel, Or.inr ⟨"StagedCompiler", List.mem_of_getElem? (i := 22) (by decide +kernel)⟩⟩
theorem flp_2_144 : mm_FLp (2, 144, 3, 5) := by
  intro r hr
  obtain rfl := Option.some.inj hr
  exact ⟨by decide +kernel, Or.inr ⟨"StagedCompiler", List.mem_of_getElem? (i := 23) (by decide +kernel)⟩⟩
theorem flp_2_160 : mm_FLp (2, 160, 1, 3) := by
  intro r hr
  obtain rfl := Option.some.inj hr
  exact ⟨by decide +kernel, Or.inr ⟨"StagedCompiler", List.mem_of_getElem? (i := 24) (by decide +kernel)⟩⟩
theorem flp_2_173 : mm_FLp (2, 173, 1, 6) := by
  intro r hr
  obtain rfl := Option.some.inj hr
  exact ⟨by decide +kernel, Or.inr ⟨"StagedCompiler", List.mem_of_getElem? (i := 25) (by decide +kernel)⟩⟩
theorem flp_2_179 : mm_FLp (2, 179, 1, 7) := by
  intro r hr
  obtain rfl := Option.some.inj hr
  exact ⟨by decide +kernel, Or.inr ⟨"StagedCompiler", List.mem_of_getElem? (i := 26) (by decide +kernel)⟩⟩
theorem flp_2_193 : mm_FLp (2, 193, 3, 7) := by
  intro r hr
  obtain rfl := Option.some.inj hr
  exact ⟨by decide +kernel, Or.inr ⟨"StagedCompiler", List.mem_of_getElem? (i := 27) (by decide +kernel)⟩⟩
theorem flp_3_41 : mm_FLp (3, 41, 1, 6) := by
  intro r hr
  obtain rfl := Option.some.inj hr
  exact ⟨by decide +kernel, Or.inr ⟨"StagedCompiler", List.mem_of_getElem? (i := 28) (by decide +kernel)⟩⟩
theorem flp_3_46 : mm_FLp (3, 46, 1, 7) := by
  intro r hr
  obtain rfl := Option.some.inj hr
  exact ⟨by decide +kernel, Or.inr ⟨"StagedCompiler", List.mem_of_getElem? (i := 29) (by decide +kernel)⟩⟩
theorem flp_3_53 : mm_FLp (3, 53, 1, 8) := by
  intro r hr
  obtain rfl := Option.some.inj hr
  exact ⟨by decide +kernel, Or.inr ⟨"StagedCompiler", List.mem_of_getElem? (i := 30) (by decide +kernel)⟩⟩
theorem flp_4_26 : mm_FLp (4, 26, 1, 9) := by
  intro r hr
  obtain rfl := Option.some.inj hr
  exact ⟨by decide +kernel, Or.inr ⟨"StagedCompiler", List.mem_of_getElem? (i := 31) (by decide +kernel)⟩⟩
theorem flp_4_32 : mm_FLp (4, 32, 3, 0) := by
  intro r hr
  obtain rfl := Option.some.inj hr
  exact ⟨by decide +kernel, Or.inr ⟨"StagedCompiler", List.mem_of_getElem? (i := 32) (by decide +kernel)⟩⟩
theorem flp_4_43 : mm_FLp (4, 43, 3, 5) := by
  intro r hr
  obtain rfl := Option.some.inj hr
  exact ⟨by decide +kernel, Or.inr ⟨"StagedCompiler", List.mem_of_getElem? (i := 33) (by decide +kernel)⟩⟩
theorem flp_4_47 : mm_FLp (4, 47, 3, 6) := by
  intro r hr
  obtain rfl := Option.some.inj hr
  exact ⟨by decide +kernel, Or.inr ⟨"StagedCompiler", List.mem_of_getElem? (i := 34) (by decide +kernel)⟩⟩
theorem flp_4_51 : mm_FLp (4, 51, 1, 0) := by
  intro r hr
  obtain rfl := Option.some.inj hr
  exact ⟨by decide +kernel, Or.inr ⟨"StagedCompiler", List.mem_of_getElem? (i := 35) (by decide +kernel)⟩⟩
theorem flp_4_54 : mm_FLp (4, 54, 1, 1) := by
  intro r hr
  obtain rfl := Option.some.inj hr
  exact ⟨by decide +kernel, Or.inr ⟨"StagedCompiler", List.mem_of_getElem? (i := 36) (by decide +kernel)⟩⟩
theorem flp_4_75 : mm_FLp (4, 75, 1, 2) := by
  intro r hr
  obtain rfl := Option.some.inj hr
  exact ⟨by decide +kernel, Or.inr ⟨"StagedCompiler", List.mem_of_getElem? (i := 37) (by decide +kernel)⟩⟩
theorem flp_4_78 : mm_FLp (4, 78, 3, 4) := by
  intro r hr
  obtain rfl := Option.some.inj hr
  exact ⟨by decide +kernel, Or.inr ⟨"StagedCompiler", List.mem_of_getElem? (i := 38) (by decide +kernel)⟩⟩
theorem flp_4_85 : mm_FLp (4, 85, 1, 3) := by
  intro r hr
  obtain rfl := Option.some.inj hr
  exact ⟨by decide +kernel, Or.inr ⟨"StagedCompiler", List.mem_of_getElem? (i := 39) (by decide +kernel)⟩⟩
theorem flp_4_94 : mm_FLp (4, 94, 3, 7) := by
  intro r hr
  obtain rfl := Option.some.inj hr
  exact ⟨by decide +kernel, Or.inr ⟨"StagedCompiler", List.mem_of_getElem? (i := 40) (by decide +kernel)⟩⟩
theorem flp_g0 : ∀ q ∈ ([(0, 15, 0, 0), (0, 21, 0, 1), (0, 27, 2, 1), (0, 34, 0, 2), (1, 9, 1, 0), (1, 15, 1, 1), (1, 18, 1, 2), (1, 21, 1, 3), (1, 24, 1, 4), (1, 27, 1, 5), (1, 31, 1, 6), (1, 34, 1, 7), (1, 37, 1, 8), (1, 40, 1, 9), (1, 43, 1, 10), (1, 47, 1, 11), (2, 9, 2, 0), (2, 17, 2, 1), (2, 22, 2, 2), (2, 26, 2, 3), (2, 29, 2, 4), (3, 9, 3, 2), (3, 15, 3, 3), (3, 19, 3, 4), (3, 22, 3, 5)] : List (Nat × Nat × Nat × Nat)), mm_FLp q := List.forall_mem_cons.mpr ⟨flp_0_15, List.forall_mem_cons.mpr ⟨flp_0_21, List.forall_mem_cons.mpr ⟨flp_0_27, List.forall_mem_cons.mpr ⟨flp_0_34, List.forall_mem_cons.mpr ⟨flp_1_9, List.forall_mem_cons.mpr ⟨flp_1_15, List.forall_mem_cons.mpr ⟨flp_1_18, List.forall_mem_cons.mpr ⟨flp_1_21, List.forall_mem_cons.mpr ⟨flp_1_24, List.forall_mem_cons.mpr ⟨flp_1_27, List.forall_mem_cons.mpr ⟨flp_1_31, List.forall_mem_cons.mpr ⟨flp_1_34, List.forall_mem_cons.mpr ⟨flp_1_37, List.forall_mem_cons.mpr ⟨flp_1_40, List.forall_mem_cons.mpr ⟨flp_1_43, List.forall_mem_cons.mpr ⟨flp_1_47, List.forall_mem_cons.mpr ⟨flp_2_9, List.forall_mem_cons.mpr ⟨flp_2_17, List.forall_mem_cons.mpr ⟨flp_2_22, List.forall_mem_cons.mpr ⟨flp_2_26, List.forall_mem_cons.mpr ⟨flp_2_29, List.forall_mem_cons.mpr ⟨flp_3_9, List.forall_mem_cons.mpr ⟨flp_3_15, List.forall_mem_cons.mpr ⟨flp_3_19, List.forall_mem_cons.mpr ⟨flp_3_22, fun _ h => absurd h List.not_mem_nil⟩⟩⟩⟩⟩⟩⟩⟩⟩⟩⟩⟩⟩⟩⟩⟩⟩⟩⟩⟩⟩⟩⟩⟩⟩
theorem flp_g1 : ∀ q ∈ ([(3, 26, 3, 6), (3, 29, 3, 7), (3, 32, 3, 0), (3, 38, 3, 1), (4, 9, 4, 0), (4, 15, 4, 1), (4, 19, 4, 2), (4, 23, 4, 3), (5, 7, 5, 0), (5, 13, 5, 1), (5, 16, 5, 2), (5, 19, 5, 3), (5, 22, 5, 4), (5, 25, 5, 5), (5, 29, 5, 6), (5, 32, 5, 7), (5, 35, 5, 8), (5, 38, 5, 9), (5, 41, 5, 10), (5, 45, 5, 11), (5, 48, 5, 12), (5, 51, 5, 13), (5, 54, 5, 14), (5, 57, 5, 15), (5, 60, 5, 16)] : List (Nat × Nat × Nat × Nat)), mm_FLp q := List.forall_mem_cons.mpr ⟨flp_3_26, List.forall_mem_cons.mpr ⟨flp_3_29, List.forall_mem_cons.mpr ⟨flp_3_32, List.forall_mem_cons.mpr ⟨flp_3_38, List.forall_mem_cons.mpr ⟨flp_4_9, List.forall_mem_cons.mpr ⟨flp_4_15, List.forall_mem_cons.mpr ⟨flp_4_19, List.forall_mem_cons.mpr ⟨flp_4_23, List.forall_mem_cons.mpr ⟨flp_5_7, List.forall_mem_cons.mpr ⟨flp_5_13, List.forall_mem_cons.mpr ⟨flp_5_16, List.forall_mem_cons.mpr ⟨flp_5_19, List.forall_mem_cons.mpr ⟨flp_5_22, List.forall_mem_cons.mpr ⟨flp_5_25, List.forall_mem_cons.mpr ⟨flp_5_29, List.forall_mem_cons.mpr ⟨flp_5_32, List.forall_mem_cons.mpr ⟨flp_5_35, List.forall_mem_cons.mpr ⟨flp_5_38, List.forall_mem_cons.mpr ⟨flp_5_41, List.forall_mem_cons.mpr ⟨flp_5_45, List.forall_mem_cons.mpr ⟨flp_5_48, List.forall_mem_cons.mpr ⟨flp_5_51, List.forall_mem_cons.mpr ⟨flp_5_54, List.forall_mem_cons.mpr ⟨flp_5_57, List.forall_mem_cons.mpr ⟨flp_5_60, fun _ h => absurd h List.not_mem_nil⟩⟩⟩⟩⟩⟩⟩⟩⟩⟩⟩⟩⟩⟩⟩⟩⟩⟩⟩⟩⟩⟩⟩⟩⟩
theorem flp_g2 : ∀ q ∈ ([(5, 63, 5, 17), (5, 66, 5, 18), (5, 69, 5, 19), (5, 72, 5, 20), (5, 75, 5, 21), (5, 78, 5, 22), (5, 82, 5, 23), (5, 85, 5, 24), (5, 88, 5, 25), (5, 91, 5, 26), (5, 94, 5, 27), (5, 97, 5, 28), (5, 100, 5, 29), (5, 103, 5, 30), (5, 106, 5, 31), (5, 109, 5, 32), (5, 112, 5, 33), (5, 116, 5, 34), (5, 119, 5, 35), (5, 122, 5, 36), (0, 54, 2, 4), (0, 61, 3, 0), (0, 68, 3, 2), (0, 74, 3, 3), (0, 81, 3, 4)] : List (Nat × Nat × Nat × Nat)), mm_FLp q := List.forall_mem_cons.mpr ⟨flp_5_63, List.forall_mem_cons.mpr ⟨flp_5_66, List.forall_mem_cons.mpr ⟨flp_5_69, List.forall_mem_cons.mpr ⟨flp_5_72, List.forall_mem_cons.mpr ⟨flp_5_75, List.forall_mem_cons.mpr ⟨flp_5_78, List.forall_mem_cons.mpr ⟨flp_5_82, List.forall_mem_cons.mpr ⟨flp_5_85, List.forall_mem_cons.mpr ⟨flp_5_88, List.forall_mem_cons.mpr ⟨flp_5_91, List.forall_mem_cons.mpr ⟨flp_5_94, List.forall_mem_cons.mpr ⟨flp_5_97, List.forall_mem_cons.mpr ⟨flp_5_100, List.forall_mem_cons.mpr ⟨flp_5_103, List.forall_mem_cons.mpr ⟨flp_5_106, List.forall_mem_cons.mpr ⟨flp_5_109, List.forall_mem_cons.mpr ⟨flp_5_112, List.forall_mem_cons.mpr ⟨flp_5_116, List.forall_mem_cons.mpr ⟨flp_5_119, List.forall_mem_cons.mpr ⟨flp_5_122, List.forall_mem_cons.mpr ⟨flp_0_54, List.forall_mem_cons.mpr ⟨flp_0_61, List.forall_mem_cons.mpr ⟨flp_0_68, List.forall_mem_cons.mpr ⟨flp_0_74, List.forall_mem_cons.mpr ⟨flp_0_81, fun _ h => absurd h List.not_mem_nil⟩⟩⟩⟩⟩⟩⟩⟩⟩⟩⟩⟩⟩⟩⟩⟩⟩⟩⟩⟩⟩⟩⟩⟩⟩
theorem flp_g3 : ∀ q ∈ ([(0, 84, 3, 5), (0, 88, 3, 6), (0, 103, 1, 10), (0, 106, 1, 11), (0, 109, 2, 2), (0, 112, 4, 3), (1, 99, 3, 5), (2, 40, 1, 9), (2, 46, 3, 0), (2, 53, 3, 1), (2, 68, 3, 4), (2, 77, 3, 6), (2, 88, 1, 0), (2, 91, 1, 1), (2, 116, 3, 2), (2, 119, 3, 3), (2, 126, 1, 2), (2, 144, 3, 5), (2, 160, 1, 3), (2, 173, 1, 6), (2, 179, 1, 7), (2, 193, 3, 7), (3, 41, 1, 6), (3, 46, 1, 7), (3, 53, 1, 8)] : List (Nat × Nat × Nat × Nat)), mm_FLp q := List.forall_mem_cons.mpr ⟨flp_0_84, List.forall_mem_cons.mpr ⟨flp_0_88, List.forall_mem_cons.mpr ⟨flp_0_103, List.forall_mem_cons.mpr ⟨flp_0_106, List.forall_mem_cons.mpr ⟨flp_0_109, List.forall_mem_cons.mpr ⟨flp_0_112, List.forall_mem_cons.mpr ⟨flp_1_99, List.forall_mem_cons.mpr ⟨flp_2_40, List.forall_mem_cons.mpr ⟨flp_2_46, List.forall_mem_cons.mpr ⟨flp_2_53, List.forall_mem_cons.mpr ⟨flp_2_68, List.forall_mem_cons.mpr ⟨flp_2_77, List.forall_mem_cons.mpr ⟨flp_2_88, List.forall_mem_cons.mpr ⟨flp_2_91, List.forall_mem_cons.mpr ⟨flp_2_116, List.forall_mem_cons.mpr ⟨flp_2_119, List.forall_mem_cons.mpr ⟨flp_2_126, List.forall_mem_cons.mpr ⟨flp_2_144, List.forall_mem_cons.mpr ⟨flp_2_160, List.forall_mem_cons.mpr ⟨flp_2_173, List.forall_mem_cons.mpr ⟨flp_2_179, List.forall_mem_cons.mpr ⟨flp_2_193, List.forall_mem_cons.mpr ⟨flp_3_41, List.forall_mem_cons.mpr ⟨flp_3_46, List.forall_mem_cons.mpr ⟨flp_3_53, fun _ h => absurd h List.not_mem_nil⟩⟩⟩⟩⟩⟩⟩⟩⟩⟩⟩⟩⟩⟩⟩⟩⟩⟩⟩⟩⟩⟩⟩⟩⟩
theorem flp_g4 : ∀ q ∈ ([(4, 26, 1, 9), (4, 32, 3, 0), (4, 43, 3, 5), (4, 47, 3, 6), (4, 51, 1, 0), (4, 54, 1, 1), (4, 75, 1, 2), (4, 78, 3, 4), (4, 85, 1, 3), (4, 94, 3, 7)] : List (Nat × Nat × Nat × Nat)), mm_FLp q := List.forall_mem_cons.mpr ⟨flp_4_26, List.forall_mem_cons.mpr ⟨flp_4_32, List.forall_mem_cons.mpr ⟨flp_4_43, List.forall_mem_cons.mpr ⟨flp_4_47, List.forall_mem_cons.mpr ⟨flp_4_51, List.forall_mem_cons.mpr ⟨flp_4_54, List.forall_mem_cons.mpr ⟨flp_4_75, List.forall_mem_cons.mpr ⟨flp_4_78, List.forall_mem_cons.mpr ⟨flp_4_85, List.forall_mem_cons.mpr ⟨flp_4_94, fun _ h => absurd h List.not_mem_nil⟩⟩⟩⟩⟩⟩⟩⟩⟩⟩
theorem flp_all : ∀ q ∈ mm_FLs, mm_FLp q := by
  intro q hq
  have e : mm_FLs = ([(0, 15, 0, 0), (0, 21, 0, 1), (0, 27, 2, 1), (0, 34, 0, 2), (1, 9, 1, 0), (1, 15, 1, 1), (1, 18, 1, 2), (1, 21, 1, 3), (1, 24, 1, 4), (1, 27, 1, 5), (1, 31, 1, 6), (1, 34, 1, 7), (1, 37, 1, 8), (1, 40, 1, 9), (1, 43, 1, 10), (1, 47, 1, 11), (2, 9, 2, 0), (2, 17, 2, 1), (2, 22, 2, 2), (2, 26, 2, 3), (2, 29, 2, 4), (3, 9, 3, 2), (3, 15, 3, 3), (3, 19, 3, 4), (3, 22, 3, 5)] : List (Nat × Nat × Nat × Nat)) ++ (([(3, 26, 3, 6), (3, 29, 3, 7), (3, 32, 3, 0), (3, 38, 3, 1), (4, 9, 4, 0), (4, 15, 4, 1), (4, 19, 4, 2), (4, 23, 4, 3), (5, 7, 5, 0), (5, 13, 5, 1), (5, 16, 5, 2), (5, 19, 5, 3), (5, 22, 5, 4), (5, 25, 5, 5), (5, 29, 5, 6), (5, 32, 5, 7), (5, 35, 5, 8), (5, 38, 5, 9), (5, 41, 5, 10), (5, 45, 5, 11), (5, 48, 5, 12), (5, 51, 5, 13), (5, 54, 5, 14), (5, 57, 5, 15), (5, 60, 5, 16)] : List (Nat × Nat × Nat × Nat)) ++ (([(5, 63, 5, 17), (5, 66, 5, 18), (5, 69, 5, 19), (5, 72, 5, 20), (5, 75, 5, 21), (5, 78, 5, 22), (5, 82, 5, 23), (5, 85, 5, 24), (5, 88, 5, 25), (5, 91, 5, 26), (5, 94, 5, 27), (5, 97, 5, 28), (5, 100, 5, 29), (5, 103, 5, 30), (5, 106, 5, 31), (5, 109, 5, 32), (5, 112, 5, 33), (5, 116, 5, 34), (5, 119, 5, 35), (5, 122, 5, 36), (0, 54, 2, 4), (0, 61, 3, 0), (0, 68, 3, 2), (0, 74, 3, 3), (0, 81, 3, 4)] : List (Nat × Nat × Nat × Nat)) ++ (([(0, 84, 3, 5), (0, 88, 3, 6), (0, 103, 1, 10), (0, 106, 1, 11), (0, 109, 2, 2), (0, 112, 4, 3), (1, 99, 3, 5), (2, 40, 1, 9), (2, 46, 3, 0), (2, 53, 3, 1), (2, 68, 3, 4), (2, 77, 3, 6), (2, 88, 1, 0), (2, 91, 1, 1), (2, 116, 3, 2), (2, 119, 3, 3), (2, 126, 1, 2), (2, 144, 3, 5), (2, 160, 1, 3), (2, 173, 1, 6), (2, 179, 1, 7), (2, 193, 3, 7), (3, 41, 1, 6), (3, 46, 1, 7), (3, 53, 1, 8)] : List (Nat × Nat × Nat × Nat)) ++ (([(4, 26, 1, 9), (4, 32, 3, 0), (4, 43, 3, 5), (4, 47, 3, 6), (4, 51, 1, 0), (4, 54, 1, 1), (4, 75, 1, 2), (4, 78, 3, 4), (4, 85, 1, 3), (4, 94, 3, 7)] : List (Nat × Nat × Nat × Nat)))))) := rfl
  rw [e] at hq
  rcases List.mem_append.mp hq with hq | hq
  · exact flp_g0 q hq
  rcases List.mem_append.mp hq with hq | hq
  · exact flp_g1 q hq
  rcases List.mem_append.mp hq with hq | hq
  · exact flp_g2 q hq
  rcases List.mem_append.mp hq with hq | hq
  · exact flp_g3 q hq
  exact flp_g4 q hq
theorem mm_FLok {o ix ci k : Nat} {r : vw_C} (h : mm_FL o ix = some (ci, k)) (hc : mm_cl[ci]? = some r) : k < r.2.2 ∧ (Cond.fieldLink (mm_own o) ix (r.2.1 k).1 (r.2.1 k).2.1 (r.2.1 k).2.2.1 ∈ mm_T ∨ ∃ h, (mm_own o, ix, (r.2.1 k).1, (r.2.1 k).2.1, (r.2.1 k).2.2.1, h) ∈ mm_nF) := flp_all (o, ix, ci, k) (mm_findI h) r hc
theorem mm_CIok {o ix : Nat} {x : Int32} (h : mm_CI o ix = some x) : Cond.constant (mm_own o) ix x ∈ mm_T := by
  have hm := mm_findI h
  exact absurd hm List.not_mem_nil
theorem mm_CLok {o ix : Nat} {x : Int64} (h : mm_CL o ix = some x) : Cond.constantLong (mm_own o) ix x ∈ mm_T := by
  have hm := mm_findI h
  unfold mm_CLs at hm
  simp only [List.mem_cons, List.not_mem_nil, or_false, Prod.mk.injEq] at hm
  rcases hm with ⟨rfl, rfl, rfl⟩ | ⟨rfl, rfl, rfl⟩ | ⟨rfl, rfl, rfl⟩ | ⟨rfl, rfl, rfl⟩ | ⟨rfl, rfl, rfl⟩ | ⟨rfl, rfl, rfl⟩ | ⟨rfl, rfl, rfl⟩ | ⟨rfl, rfl, rfl⟩ | ⟨rfl, rfl, rfl⟩ | ⟨rfl, rfl, rfl⟩ | ⟨rfl, rfl, rfl⟩ | ⟨rfl, rfl, rfl⟩ | ⟨rfl, rfl, rfl⟩ | ⟨rfl, rfl, rfl⟩ | ⟨rfl, rfl, rfl⟩ | ⟨rfl, rfl, rfl⟩ | ⟨rfl, rfl, rfl⟩ | ⟨rfl, rfl, rfl⟩
  · exact (mm_mem 426 (by decide +kernel) (by decide +kernel))
  · exact (mm_mem 409 (by decide +kernel) (by decide +kernel))
  · exact (mm_mem 281 (by decide +kernel) (by decide +kernel))
  · exact (mm_mem 469 (by decide +kernel) (by decide +kernel))
  · exact (mm_mem 484 (by decide +kernel) (by decide +kernel))
  · exact (mm_mem 665 (by decide +kernel) (by decide +kernel))
  · exact (mm_mem 710 (by decide +kernel) (by decide +kernel))
  · exact (mm_mem 715 (by decide +kernel) (by decide +kernel))
  · exact (mm_mem 720 (by decide +kernel) (by decide +kernel))
  · exact (mm_mem 721 (by decide +kernel) (by decide +kernel))
  · exact (mm_mem 755 (by decide +kernel) (by decide +kernel))
  · exact (mm_mem 776 (by decide +kernel) (by decide +kernel))
  · exact (mm_mem 750 (by decide +kernel) (by decide +kernel))
  · exact (mm_mem 329 (by decide +kernel) (by decide +kernel))
  · exact (mm_mem 333 (by decide +kernel) (by decide +kernel))
  · exact (mm_mem 408 (by decide +kernel) (by decide +kernel))
  · exact (mm_mem 389 (by decide +kernel) (by decide +kernel))
  · exact (mm_mem 388 (by decide +kernel) (by decide +kernel))
theorem mm_CCok {o ix : Nat} {x : Nat} (h : mm_CC o ix = some x) : Cond.classLink (mm_own o) ix (mm_nm x) ∈ mm_T ∧ Cond.instantiable (mm_nm x) (mm_N x) ∈ mm_T ∧ Cond.initialized (mm_nm x) ∈ mm_T := by
  have hm := mm_findI h
  unfold mm_CCs at hm
  simp only [List.mem_cons, List.not_mem_nil, or_false, Prod.mk.injEq] at hm
  rcases hm with ⟨rfl, rfl, rfl⟩ | ⟨rfl, rfl, rfl⟩ | ⟨rfl, rfl, rfl⟩ | ⟨rfl, rfl, rfl⟩ | ⟨rfl, rfl, rfl⟩ | ⟨rfl, rfl, rfl⟩
  · exact ⟨(mm_mem 19 (by decide +kernel) (by decide +kernel)), (mm_mem 20 (by decide +kernel) (by decide +kernel)), (mm_mem 2 (by decide +kernel) (by decide +kernel))⟩
  · exact ⟨(mm_mem 81 (by decide +kernel) (by decide +kernel)), (mm_mem 82 (by decide +kernel) (by decide +kernel)), (mm_mem 3 (by decide +kernel) (by decide +kernel))⟩
  · exact ⟨(mm_mem 159 (by decide +kernel) (by decide +kernel)), (mm_mem 160 (by decide +kernel) (by decide +kernel)), (mm_mem 5 (by decide +kernel) (by decide +kernel))⟩
  · exact ⟨(mm_mem 87 (by decide +kernel) (by decide +kernel)), (mm_mem 89 (by decide +kernel) (by decide +kernel)), (mm_mem 4 (by decide +kernel) (by decide +kernel))⟩
  · exact ⟨(mm_mem 11 (by decide +kernel) (by decide +kernel)), (mm_mem 12 (by decide +kernel) (by decide +kernel)), (mm_mem 1 (by decide +kernel) (by decide +kernel))⟩
  · exact ⟨(mm_mem 495 (by decide +kernel) (by decide +kernel)), (mm_mem 496 (by decide +kernel) (by decide +kernel)), (mm_mem 6 (by decide +kernel) (by decide +kernel))⟩
theorem mm_COok {o ix : Nat} {x : String} (h : mm_CO o ix = some x) : Cond.classLink (mm_own o) ix x ∈ mm_T ∧ x ∈ mm_ao := by
  have hm := mm_findI h
  unfold mm_COs at hm
  simp only [List.mem_cons, List.not_mem_nil, or_false, Prod.mk.injEq] at hm
  rcases hm with ⟨rfl, rfl, rfl⟩
  · exact ⟨(mm_mem 87 (by decide +kernel) (by decide +kernel)), by decide⟩
theorem mm_JM0 {o ix : Nat} (h : mm_JM o ix = some 0) : Cond.methodLink (mm_own o) ix Lib.Math.max.name ∈ mm_T ∧ Cond.static Lib.Math.max.name ∈ mm_T ∧ Cond.initialized "java/lang/Math" ∈ mm_T ∧ Cond.code Lib.Math.max.name Lib.Math.max.code 2 (some .int) ∈ mm_T := by
  have hm := mm_findI h
  unfold mm_JMs at hm
  simp only [List.mem_cons, List.not_mem_nil, or_false, Prod.mk.injEq] at hm
  have q1 : Cond.static Lib.Math.max.name ∈ mm_T := (mm_mem 226 (by decide +kernel) (by decide +kernel))
  have q2 : Cond.initialized "java/lang/Math" ∈ mm_T := (mm_mem 9 (by decide +kernel) (by decide +kernel))
  have q3 : Cond.code Lib.Math.max.name Lib.Math.max.code 2 (some .int) ∈ mm_T := (mm_mem 227 (by decide +kernel) (by decide +kernel))
  rcases hm with ⟨rfl, rfl, -⟩ | ⟨rfl, rfl, hj⟩ | ⟨rfl, rfl, hj⟩ | ⟨rfl, rfl, hj⟩ | ⟨rfl, rfl, hj⟩
  · exact ⟨(mm_mem 225 (by decide +kernel) (by decide +kernel)), q1, q2, q3⟩
  · exact absurd hj (by decide)
  · exact absurd hj (by decide)
  · exact absurd hj (by decide)
  · exact absurd hj (by decide)
theorem mm_JM1 {o ix : Nat} (h : mm_JM o ix = some 1) : Cond.methodLink (mm_own o) ix Lib.Math.abs.name ∈ mm_T ∧ Cond.static Lib.Math.abs.name ∈ mm_T ∧ Cond.initialized "java/lang/Math" ∈ mm_T ∧ Cond.code Lib.Math.abs.name Lib.Math.abs.code 1 (some .int) ∈ mm_T := by
  have hm := mm_findI h
  unfold mm_JMs at hm
  simp only [List.mem_cons, List.not_mem_nil, or_false, Prod.mk.injEq] at hm
  have q1 : Cond.static Lib.Math.abs.name ∈ mm_T := (mm_mem 369 (by decide +kernel) (by decide +kernel))
  have q2 : Cond.initialized "java/lang/Math" ∈ mm_T := (mm_mem 9 (by decide +kernel) (by decide +kernel))
  have q3 : Cond.code Lib.Math.abs.name Lib.Math.abs.code 1 (some .int) ∈ mm_T := (mm_mem 370 (by decide +kernel) (by decide +kernel))
  rcases hm with ⟨rfl, rfl, hj⟩ | ⟨rfl, rfl, -⟩ | ⟨rfl, rfl, -⟩ | ⟨rfl, rfl, hj⟩ | ⟨rfl, rfl, hj⟩
  · exact absurd hj (by decide)
  · exact ⟨(mm_mem 368 (by decide +kernel) (by decide +kernel)), q1, q2, q3⟩
  · exact ⟨(mm_mem 393 (by decide +kernel) (by decide +kernel)), q1, q2, q3⟩
  · exact absurd hj (by decide)
  · exact absurd hj (by decide)
theorem mm_JM2 {o ix : Nat} (h : mm_JM o ix = some 2) : Cond.methodLink (mm_own o) ix Lib.MathLoose.max_long.x ∈ mm_T ∧ Cond.static Lib.MathLoose.max_long.x ∈ mm_T ∧ Cond.initialized "java/lang/Math" ∈ mm_T ∧ Cond.code Lib.MathLoose.max_long.x Lib.MathLoose.max_long.code 4 (some .long) ∈ mm_T := by
  have hm := mm_findI h
  unfold mm_JMs at hm
  simp only [List.mem_cons, List.not_mem_nil, or_false, Prod.mk.injEq] at hm
  have q1 : Cond.static Lib.MathLoose.max_long.x ∈ mm_T := (mm_mem 403 (by decide +kernel) (by decide +kernel))
  have q2 : Cond.initialized "java/lang/Math" ∈ mm_T := (mm_mem 9 (by decide +kernel) (by decide +kernel))
  have q3 : Cond.code Lib.MathLoose.max_long.x Lib.MathLoose.max_long.code 4 (some .long) ∈ mm_T := (mm_mem 404 (by decide +kernel) (by decide +kernel))
  rcases hm with ⟨rfl, rfl, hj⟩ | ⟨rfl, rfl, hj⟩ | ⟨rfl, rfl, hj⟩ | ⟨rfl, rfl, hj⟩ | ⟨rfl, rfl, -⟩
  · exact absurd hj (by decide)
  · exact absurd hj (by decide)
  · exact absurd hj (by decide)
  · exact absurd hj (by decide)
  · exact ⟨(mm_mem 402 (by decide +kernel) (by decide +kernel)), q1, q2, q3⟩
theorem mm_JM3 {o ix : Nat} (h : mm_JM o ix = some 3) : Cond.methodLink (mm_own o) ix Lib.MathLoose.min_long.x ∈ mm_T ∧ Cond.static Lib.MathLoose.min_long.x ∈ mm_T ∧ Cond.initialized "java/lang/Math" ∈ mm_T ∧ Cond.code Lib.MathLoose.min_long.x Lib.MathLoose.min_long.code 4 (some .long) ∈ mm_T := by
  have hm := mm_findI h
  unfold mm_JMs at hm
  simp only [List.mem_cons, List.not_mem_nil, or_false, Prod.mk.injEq] at hm
  have q1 : Cond.static Lib.MathLoose.min_long.x ∈ mm_T := (mm_mem 400 (by decide +kernel) (by decide +kernel))
  have q2 : Cond.initialized "java/lang/Math" ∈ mm_T := (mm_mem 9 (by decide +kernel) (by decide +kernel))
  have q3 : Cond.code Lib.MathLoose.min_long.x Lib.MathLoose.min_long.code 4 (some .long) ∈ mm_T := (mm_mem 401 (by decide +kernel) (by decide +kernel))
  rcases hm with ⟨rfl, rfl, hj⟩ | ⟨rfl, rfl, hj⟩ | ⟨rfl, rfl, hj⟩ | ⟨rfl, rfl, -⟩ | ⟨rfl, rfl, hj⟩
  · exact absurd hj (by decide)
  · exact absurd hj (by decide)
  · exact absurd hj (by decide)
  · exact ⟨(mm_mem 399 (by decide +kernel) (by decide +kernel)), q1, q2, q3⟩
  · exact absurd hj (by decide)
end
section
/-! methods and calls -/
def mm_idP (id : Nat) : Prop := plainName (mm_y id).cls = true ∧ mm_own (mm_mo id) = (mm_y id).cls ∧ (mm_ic id = true → (mm_y id).name = "<init>") ∧ Cond.code (mm_y id) (mm_cc id) (mm_ml id) (mm_rt id) ∈ mm_T ∧ Cond.initialized (mm_y id).cls ∈ mm_T ∧ ((mm_y id).cls ≠ "java/lang/invoke/MethodHandle" ∧ (mm_y id).cls ≠ "java/lang/invoke/VarHandle")
theorem idp_0 : mm_idP 0 := ⟨by decide +kernel, by decide +kernel, by decide +kernel, (mm_mem 15 (by decide +kernel) (by decide +kernel)), (mm_mem 1 (by decide +kernel) (by decide +kernel)), by decide +kernel⟩
theorem idp_1 : mm_idP 1 := ⟨by decide +kernel, by decide +kernel, by decide +kernel, (mm_mem 23 (by decide +kernel) (by decide +kernel)), (mm_mem 2 (by decide +kernel) (by decide +kernel)), by decide +kernel⟩
theorem idp_2 : mm_idP 2 := ⟨by decide +kernel, by decide +kernel, by decide +kernel, (mm_mem 85 (by decide +kernel) (by decide +kernel)), (mm_mem 3 (by decide +kernel) (by decide +kernel)), by decide +kernel⟩
theorem idp_3 : mm_idP 3 := ⟨by decide +kernel, by decide +kernel, by decide +kernel, (mm_mem 92 (by decide +kernel) (by decide +kernel)), (mm_mem 4 (by decide +kernel) (by decide +kernel)), by decide +kernel⟩
theorem idp_4 : mm_idP 4 := ⟨by decide +kernel, by decide +kernel, by decide +kernel, (mm_mem 163 (by decide +kernel) (by decide +kernel)), (mm_mem 5 (by decide +kernel) (by decide +kernel)), by decide +kernel⟩
theorem idp_5 : mm_idP 5 := ⟨by decide +kernel, by decide +kernel, by decide +kernel, (mm_mem 499 (by decide +kernel) (by decide +kernel)), (mm_mem 6 (by decide +kernel) (by decide +kernel)), by decide +kernel⟩
theorem idp_6 : mm_idP 6 := ⟨by decide +kernel, by decide +kernel, by decide +kernel, (mm_mem 15 (by decide +kernel) (by decide +kernel)), (mm_mem 1 (by decide +kernel) (by decide +kernel)), by decide +kernel⟩
theorem idp_7 : mm_idP 7 := ⟨by decide +kernel, by decide +kernel, by decide +kernel, (mm_mem 15 (by decide +kernel) (by decide +kernel)), (mm_mem 1 (by decide +kernel) (by decide +kernel)), by decide +kernel⟩
theorem idp_8 : mm_idP 8 := ⟨by decide +kernel, by decide +kernel, by decide +kernel, (mm_mem 192 (by decide +kernel) (by decide +kernel)), (mm_mem 1 (by decide +kernel) (by decide +kernel)), by decide +kernel⟩
theorem idp_9 : mm_idP 9 := ⟨by decide +kernel, by decide +kernel, by decide +kernel, (mm_mem 235 (by decide +kernel) (by decide +kernel)), (mm_mem 1 (by decide +kernel) (by decide +kernel)), by decide +kernel⟩
theorem idp_10 : mm_idP 10 := ⟨by decide +kernel, by decide +kernel, by decide +kernel, (mm_mem 251 (by decide +kernel) (by decide +kernel)), (mm_mem 1 (by decide +kernel) (by decide +kernel)), by decide +kernel⟩
theorem idp_11 : mm_idP 11 := ⟨by decide +kernel, by decide +kernel, by decide +kernel, (mm_mem 413 (by decide +kernel) (by decide +kernel)), (mm_mem 1 (by decide +kernel) (by decide +kernel)), by decide +kernel⟩
theorem idp_12 : mm_idP 12 := ⟨by decide +kernel, by decide +kernel, by decide +kernel, (mm_mem 417 (by decide +kernel) (by decide +kernel)), (mm_mem 1 (by decide +kernel) (by decide +kernel)), by decide +kernel⟩
theorem idp_13 : mm_idP 13 := ⟨by decide +kernel, by decide +kernel, by decide +kernel, (mm_mem 425 (by decide +kernel) (by decide +kernel)), (mm_mem 1 (by decide +kernel) (by decide +kernel)), by decide +kernel⟩
theorem idp_14 : mm_idP 14 := ⟨by decide +kernel, by decide +kernel, by decide +kernel, (mm_mem 430 (by decide +kernel) (by decide +kernel)), (mm_mem 1 (by decide +kernel) (by decide +kernel)), by decide +kernel⟩
theorem idp_15 : mm_idP 15 := ⟨by decide +kernel, by decide +kernel, by decide +kernel, (mm_mem 435 (by decide +kernel) (by decide +kernel)), (mm_mem 1 (by decide +kernel) (by decide +kernel)), by decide +kernel⟩
theorem idp_16 : mm_idP 16 := ⟨by decide +kernel, by decide +kernel, by decide +kernel, (mm_mem 439 (by decide +kernel) (by decide +kernel)), (mm_mem 1 (by decide +kernel) (by decide +kernel)), by decide +kernel⟩
theorem idp_17 : mm_idP 17 := ⟨by decide +kernel, by decide +kernel, by decide +kernel, (mm_mem 451 (by decide +kernel) (by decide +kernel)), (mm_mem 1 (by decide +kernel) (by decide +kernel)), by decide +kernel⟩
theorem idp_18 : mm_idP 18 := ⟨by decide +kernel, by decide +kernel, by decide +kernel, (mm_mem 494 (by decide +kernel) (by decide +kernel)), (mm_mem 1 (by decide +kernel) (by decide +kernel)), by decide +kernel⟩
theorem idp_19 : mm_idP 19 := ⟨by decide +kernel, by decide +kernel, by decide +kernel, (mm_mem 207 (by decide +kernel) (by decide +kernel)), (mm_mem 2 (by decide +kernel) (by decide +kernel)), by decide +kernel⟩
theorem idp_20 : mm_idP 20 := ⟨by decide +kernel, by decide +kernel, by decide +kernel, (mm_mem 255 (by decide +kernel) (by decide +kernel)), (mm_mem 2 (by decide +kernel) (by decide +kernel)), by decide +kernel⟩
theorem idp_21 : mm_idP 21 := ⟨by decide +kernel, by decide +kernel, by decide +kernel, (mm_mem 196 (by decide +kernel) (by decide +kernel)), (mm_mem 2 (by decide +kernel) (by decide +kernel)), by decide +kernel⟩
theorem idp_22 : mm_idP 22 := ⟨by decide +kernel, by decide +kernel, by decide +kernel, (mm_mem 203 (by decide +kernel) (by decide +kernel)), (mm_mem 2 (by decide +kernel) (by decide +kernel)), by decide +kernel⟩
theorem idp_23 : mm_idP 23 := ⟨by decide +kernel, by decide +kernel, by decide +kernel, (mm_mem 220 (by decide +kernel) (by decide +kernel)), (mm_mem 2 (by decide +kernel) (by decide +kernel)), by decide +kernel⟩
theorem idp_24 : mm_idP 24 := ⟨by decide +kernel, by decide +kernel, by decide +kernel, (mm_mem 224 (by decide +kernel) (by decide +kernel)), (mm_mem 2 (by decide +kernel) (by decide +kernel)), by decide +kernel⟩
theorem idp_25 : mm_idP 25 := ⟨by decide +kernel, by decide +kernel, by decide +kernel, (mm_mem 231 (by decide +kernel) (by decide +kernel)), (mm_mem 2 (by decide +kernel) (by decide +kernel)), by decide +kernel⟩
theorem idp_26 : mm_idP 26 := ⟨by decide +kernel, by decide +kernel, by decide +kernel, (mm_mem 239 (by decide +kernel) (by decide +kernel)), (mm_mem 2 (by decide +kernel) (by decide +kernel)), by decide +kernel⟩
theorem idp_27 : mm_idP 27 := ⟨by decide +kernel, by decide +kernel, by decide +kernel, (mm_mem 443 (by decide +kernel) (by decide +kernel)), (mm_mem 2 (by decide +kernel) (by decide +kernel)), by decide +kernel⟩
theorem idp_28 : mm_idP 28 := ⟨by decide +kernel, by decide +kernel, by decide +kernel, (mm_mem 421 (by decide +kernel) (by decide +kernel)), (mm_mem 3 (by decide +kernel) (by decide +kernel)), by decide +kernel⟩
theorem idp_29 : mm_idP 29 := ⟨by decide +kernel, by decide +kernel, by decide +kernel, (mm_mem 259 (by decide +kernel) (by decide +kernel)), (mm_mem 3 (by decide +kernel) (by decide +kernel)), by decide +kernel⟩
theorem idp_30 : mm_idP 30 := ⟨by decide +kernel, by decide +kernel, by decide +kernel, (mm_mem 285 (by decide +kernel) (by decide +kernel)), (mm_mem 3 (by decide +kernel) (by decide +kernel)), by decide +kernel⟩
theorem idp_31 : mm_idP 31 := ⟨by decide +kernel, by decide +kernel, by decide +kernel, (mm_mem 263 (by decide +kernel) (by decide +kernel)), (mm_mem 3 (by decide +kernel) (by decide +kernel)), by decide +kernel⟩
theorem idp_32 : mm_idP 32 := ⟨by decide +kernel, by decide +kernel, by decide +kernel, (mm_mem 321 (by decide +kernel) (by decide +kernel)), (mm_mem 3 (by decide +kernel) (by decide +kernel)), by decide +kernel⟩
theorem idp_33 : mm_idP 33 := ⟨by decide +kernel, by decide +kernel, by decide +kernel, (mm_mem 289 (by decide +kernel) (by decide +kernel)), (mm_mem 3 (by decide +kernel) (by decide +kernel)), by decide +kernel⟩
theorem idp_34 : mm_idP 34 := ⟨by decide +kernel, by decide +kernel, by decide +kernel, (mm_mem 301 (by decide +kernel) (by decide +kernel)), (mm_mem 3 (by decide +kernel) (by decide +kernel)), by decide +kernel⟩
theorem idp_35 : mm_idP 35 := ⟨by decide +kernel, by decide +kernel, by decide +kernel, (mm_mem 374 (by decide +kernel) (by decide +kernel)), (mm_mem 3 (by decide +kernel) (by decide +kernel)), by decide +kernel⟩
theorem idp_36 : mm_idP 36 := ⟨by decide +kernel, by decide +kernel, by decide +kernel, (mm_mem 317 (by decide +kernel) (by decide +kernel)), (mm_mem 3 (by decide +kernel) (by decide +kernel)), by decide +kernel⟩
theorem idp_37 : mm_idP 37 := ⟨by decide +kernel, by decide +kernel, by decide +kernel, (mm_mem 337 (by decide +kernel) (by decide +kernel)), (mm_mem 3 (by decide +kernel) (by decide +kernel)), by decide +kernel⟩
theorem idp_38 : mm_idP 38 := ⟨by decide +kernel, by decide +kernel, by decide +kernel, (mm_mem 309 (by decide +kernel) (by decide +kernel)), (mm_mem 3 (by decide +kernel) (by decide +kernel)), by decide +kernel⟩
theorem idp_39 : mm_idP 39 := ⟨by decide +kernel, by decide +kernel, by decide +kernel, (mm_mem 341 (by decide +kernel) (by decide +kernel)), (mm_mem 3 (by decide +kernel) (by decide +kernel)), by decide +kernel⟩
theorem idp_40 : mm_idP 40 := ⟨by decide +kernel, by decide +kernel, by decide +kernel, (mm_mem 346 (by decide +kernel) (by decide +kernel)), (mm_mem 3 (by decide +kernel) (by decide +kernel)), by decide +kernel⟩
theorem idp_41 : mm_idP 41 := ⟨by decide +kernel, by decide +kernel, by decide +kernel, (mm_mem 351 (by decide +kernel) (by decide +kernel)), (mm_mem 3 (by decide +kernel) (by decide +kernel)), by decide +kernel⟩
theorem idp_42 : mm_idP 42 := ⟨by decide +kernel, by decide +kernel, by decide +kernel, (mm_mem 355 (by decide +kernel) (by decide +kernel)), (mm_mem 3 (by decide +kernel) (by decide +kernel)), by decide +kernel⟩
theorem idp_43 : mm_idP 43 := ⟨by decide +kernel, by decide +kernel, by decide +kernel, (mm_mem 359 (by decide +kernel) (by decide +kernel)), (mm_mem 3 (by decide +kernel) (by decide +kernel)), by decide +kernel⟩
theorem idp_44 : mm_idP 44 := ⟨by decide +kernel, by decide +kernel, by decide +kernel, (mm_mem 363 (by decide +kernel) (by decide +kernel)), (mm_mem 3 (by decide +kernel) (by decide +kernel)), by decide +kernel⟩
theorem idp_45 : mm_idP 45 := ⟨by decide +kernel, by decide +kernel, by decide +kernel, (mm_mem 367 (by decide +kernel) (by decide +kernel)), (mm_mem 3 (by decide +kernel) (by decide +kernel)), by decide +kernel⟩
theorem idp_46 : mm_idP 46 := ⟨by decide +kernel, by decide +kernel, by decide +kernel, (mm_mem 275 (by decide +kernel) (by decide +kernel)), (mm_mem 4 (by decide +kernel) (by decide +kernel)), by decide +kernel⟩
theorem idp_47 : mm_idP 47 := ⟨by decide +kernel, by decide +kernel, by decide +kernel, (mm_mem 279 (by decide +kernel) (by decide +kernel)), (mm_mem 4 (by decide +kernel) (by decide +kernel)), by decide +kernel⟩
theorem idp_48 : mm_idP 48 := ⟨by decide +kernel, by decide +kernel, by decide +kernel, (mm_mem 267 (by decide +kernel) (by decide +kernel)), (mm_mem 4 (by decide +kernel) (by decide +kernel)), by decide +kernel⟩
theorem idp_49 : mm_idP 49 := ⟨by decide +kernel, by decide +kernel, by decide +kernel, (mm_mem 271 (by decide +kernel) (by decide +kernel)), (mm_mem 4 (by decide +kernel) (by decide +kernel)), by decide +kernel⟩
theorem idp_50 : mm_idP 50 := ⟨by decide +kernel, by decide +kernel, by decide +kernel, (mm_mem 459 (by decide +kernel) (by decide +kernel)), (mm_mem 4 (by decide +kernel) (by decide +kernel)), by decide +kernel⟩
theorem idp_51 : mm_idP 51 := ⟨by decide +kernel, by decide +kernel, by decide +kernel, (mm_mem 455 (by decide +kernel) (by decide +kernel)), (mm_mem 4 (by decide +kernel) (by decide +kernel)), by decide +kernel⟩
theorem idp_52 : mm_idP 52 := ⟨by decide +kernel, by decide +kernel, by decide +kernel, (mm_mem 293 (by decide +kernel) (by decide +kernel)), (mm_mem 4 (by decide +kernel) (by decide +kernel)), by decide +kernel⟩
theorem idp_53 : mm_idP 53 := ⟨by decide +kernel, by decide +kernel, by decide +kernel, (mm_mem 305 (by decide +kernel) (by decide +kernel)), (mm_mem 4 (by decide +kernel) (by decide +kernel)), by decide +kernel⟩
theorem idp_54 : mm_idP 54 := ⟨by decide +kernel, by decide +kernel, by decide +kernel, (mm_mem 297 (by decide +kernel) (by decide +kernel)), (mm_mem 4 (by decide +kernel) (by decide +kernel)), by decide +kernel⟩
theorem idp_55 : mm_idP 55 := ⟨by decide +kernel, by decide +kernel, by decide +kernel, (mm_mem 313 (by decide +kernel) (by decide +kernel)), (mm_mem 4 (by decide +kernel) (by decide +kernel)), by decide +kernel⟩
theorem idp_56 : mm_idP 56 := ⟨by decide +kernel, by decide +kernel, by decide +kernel, (mm_mem 464 (by decide +kernel) (by decide +kernel)), (mm_mem 5 (by decide +kernel) (by decide +kernel)), by decide +kernel⟩
theorem idp_57 : mm_idP 57 := ⟨by decide +kernel, by decide +kernel, by decide +kernel, (mm_mem 468 (by decide +kernel) (by decide +kernel)), (mm_mem 5 (by decide +kernel) (by decide +kernel)), by decide +kernel⟩
theorem idp_58 : mm_idP 58 := ⟨by decide +kernel, by decide +kernel, by decide +kernel, (mm_mem 489 (by decide +kernel) (by decide +kernel)), (mm_mem 5 (by decide +kernel) (by decide +kernel)), by decide +kernel⟩
theorem idp_59 : mm_idP 59 := ⟨by decide +kernel, by decide +kernel, by decide +kernel, (mm_mem 473 (by decide +kernel) (by decide +kernel)), (mm_mem 5 (by decide +kernel) (by decide +kernel)), by decide +kernel⟩
theorem idp_60 : mm_idP 60 := ⟨by decide +kernel, by decide +kernel, by decide +kernel, (mm_mem 478 (by decide +kernel) (by decide +kernel)), (mm_mem 5 (by decide +kernel) (by decide +kernel)), by decide +kernel⟩
theorem idp_61 : mm_idP 61 := ⟨by decide +kernel, by decide +kernel, by decide +kernel, (mm_mem 483 (by decide +kernel) (by decide +kernel)), (mm_mem 5 (by decide +kernel) (by decide +kernel)), by decide +kernel⟩
theorem idp_62 : mm_idP 62 := ⟨by decide +kernel, by decide +kernel, by decide +kernel, (mm_mem 628 (by decide +kernel) (by decide +kernel)), (mm_mem 6 (by decide +kernel) (by decide +kernel)), by decide +kernel⟩
theorem idp_63 : mm_idP 63 := ⟨by decide +kernel, by decide +kernel, by decide +kernel, (mm_mem 624 (by decide +kernel) (by decide +kernel)), (mm_mem 6 (by decide +kernel) (by decide +kernel)), by decide +kernel⟩
theorem idp_64 : mm_idP 64 := ⟨by decide +kernel, by decide +kernel, by decide +kernel, (mm_mem 644 (by decide +kernel) (by decide +kernel)), (mm_mem 6 (by decide +kernel) (by decide +kernel)), by decide +kernel⟩
theorem idp_65 : mm_idP 65 := ⟨by decide +kernel, by decide +kernel, by decide +kernel, (mm_mem 620 (by decide +kernel) (by decide +kernel)), (mm_mem 6 (by decide +kernel) (by decide +kernel)), by decide +kernel⟩
theorem idp_66 : mm_idP 66 := ⟨by decide +kernel, by decide +kernel, by decide +kernel, (mm_mem 636 (by decide +kernel) (by decide +kernel)), (mm_mem 6 (by decide +kernel) (by decide +kernel)), by decide +kernel⟩
theorem idp_67 : mm_idP 67 := ⟨by decide +kernel, by decide +kernel, by decide +kernel, (mm_mem 632 (by decide +kernel) (by decide +kernel)), (mm_mem 6 (by decide +kernel) (by decide +kernel)), by decide +kernel⟩
theorem idp_68 : mm_idP 68 := ⟨by decide +kernel, by decide +kernel, by decide +kernel, (mm_mem 616 (by decide +kernel) (by decide +kernel)), (mm_mem 6 (by decide +kernel) (by decide +kernel)), by decide +kernel⟩
theorem idp_69 : mm_idP 69 := ⟨by decide +kernel, by decide +kernel, by decide +kernel, (mm_mem 640 (by decide +kernel) (by decide +kernel)), (mm_mem 6 (by decide +kernel) (by decide +kernel)), by decide +kernel⟩
theorem idp_70 : mm_idP 70 := ⟨by decide +kernel, by decide +kernel, by decide +kernel, (mm_mem 664 (by decide +kernel) (by decide +kernel)), (mm_mem 6 (by decide +kernel) (by decide +kernel)), by decide +kernel⟩
theorem idp_71 : mm_idP 71 := ⟨by decide +kernel, by decide +kernel, by decide +kernel, (mm_mem 701 (by decide +kernel) (by decide +kernel)), (mm_mem 6 (by decide +kernel) (by decide +kernel)), by decide +kernel⟩
theorem idp_72 : mm_idP 72 := ⟨by decide +kernel, by decide +kernel, by decide +kernel, (mm_mem 709 (by decide +kernel) (by decide +kernel)), (mm_mem 6 (by decide +kernel) (by decide +kernel)), by decide +kernel⟩
theorem idp_73 : mm_idP 73 := ⟨by decide +kernel, by decide +kernel, by decide +kernel, (mm_mem 714 (by decide +kernel) (by decide +kernel)), (mm_mem 6 (by decide +kernel) (by decide +kernel)), by decide +kernel⟩
theorem idp_74 : mm_idP 74 := ⟨by decide +kernel, by decide +kernel, by decide +kernel, (mm_mem 705 (by decide +kernel) (by decide +kernel)), (mm_mem 6 (by decide +kernel) (by decide +kernel)), by decide +kernel⟩
theorem idp_75 : mm_idP 75 := ⟨by decide +kernel, by decide +kernel, by decide +kernel, (mm_mem 660 (by decide +kernel) (by decide +kernel)), (mm_mem 6 (by decide +kernel) (by decide +kernel)), by decide +kernel⟩
theorem idp_76 : mm_idP 76 := ⟨by decide +kernel, by decide +kernel, by decide +kernel, (mm_mem 689 (by decide +kernel) (by decide +kernel)), (mm_mem 6 (by decide +kernel) (by decide +kernel)), by decide +kernel⟩
theorem idp_77 : mm_idP 77 := ⟨by decide +kernel, by decide +kernel, by decide +kernel, (mm_mem 677 (by decide +kernel) (by decide +kernel)), (mm_mem 6 (by decide +kernel) (by decide +kernel)), by decide +kernel⟩
theorem idp_78 : mm_idP 78 := ⟨by decide +kernel, by decide +kernel, by decide +kernel, (mm_mem 673 (by decide +kernel) (by decide +kernel)), (mm_mem 6 (by decide +kernel) (by decide +kernel)), by decide +kernel⟩
theorem idp_79 : mm_idP 79 := ⟨by decide +kernel, by decide +kernel, by decide +kernel, (mm_mem 685 (by decide +kernel) (by decide +kernel)), (mm_mem 6 (by decide +kernel) (by decide +kernel)), by decide +kernel⟩
theorem idp_80 : mm_idP 80 := ⟨by decide +kernel, by decide +kernel, by decide +kernel, (mm_mem 697 (by decide +kernel) (by decide +kernel)), (mm_mem 6 (by decide +kernel) (by decide +kernel)), by decide +kernel⟩
theorem idp_81 : mm_idP 81 := ⟨by decide +kernel, by decide +kernel, by decide +kernel, (mm_mem 719 (by decide +kernel) (by decide +kernel)), (mm_mem 6 (by decide +kernel) (by decide +kernel)), by decide +kernel⟩
theorem idp_82 : mm_idP 82 := ⟨by decide +kernel, by decide +kernel, by decide +kernel, (mm_mem 693 (by decide +kernel) (by decide +kernel)), (mm_mem 6 (by decide +kernel) (by decide +kernel)), by decide +kernel⟩
theorem idp_83 : mm_idP 83 := ⟨by decide +kernel, by decide +kernel, by decide +kernel, (mm_mem 725 (by decide +kernel) (by decide +kernel)), (mm_mem 6 (by decide +kernel) (by decide +kernel)), by decide +kernel⟩
theorem idp_84 : mm_idP 84 := ⟨by decide +kernel, by decide +kernel, by decide +kernel, (mm_mem 729 (by decide +kernel) (by decide +kernel)), (mm_mem 6 (by decide +kernel) (by decide +kernel)), by decide +kernel⟩
theorem idp_85 : mm_idP 85 := ⟨by decide +kernel, by decide +kernel, by decide +kernel, (mm_mem 652 (by decide +kernel) (by decide +kernel)), (mm_mem 6 (by decide +kernel) (by decide +kernel)), by decide +kernel⟩
theorem idp_86 : mm_idP 86 := ⟨by decide +kernel, by decide +kernel, by decide +kernel, (mm_mem 656 (by decide +kernel) (by decide +kernel)), (mm_mem 6 (by decide +kernel) (by decide +kernel)), by decide +kernel⟩
theorem idp_87 : mm_idP 87 := ⟨by decide +kernel, by decide +kernel, by decide +kernel, (mm_mem 737 (by decide +kernel) (by decide +kernel)), (mm_mem 6 (by decide +kernel) (by decide +kernel)), by decide +kernel⟩
theorem idp_88 : mm_idP 88 := ⟨by decide +kernel, by decide +kernel, by decide +kernel, (mm_mem 733 (by decide +kernel) (by decide +kernel)), (mm_mem 6 (by decide +kernel) (by decide +kernel)), by decide +kernel⟩
theorem idp_89 : mm_idP 89 := ⟨by decide +kernel, by decide +kernel, by decide +kernel, (mm_mem 681 (by decide +kernel) (by decide +kernel)), (mm_mem 6 (by decide +kernel) (by decide +kernel)), by decide +kernel⟩
theorem idp_90 : mm_idP 90 := ⟨by decide +kernel, by decide +kernel, by decide +kernel, (mm_mem 669 (by decide +kernel) (by decide +kernel)), (mm_mem 6 (by decide +kernel) (by decide +kernel)), by decide +kernel⟩
theorem idp_91 : mm_idP 91 := ⟨by decide +kernel, by decide +kernel, by decide +kernel, (mm_mem 648 (by decide +kernel) (by decide +kernel)), (mm_mem 6 (by decide +kernel) (by decide +kernel)), by decide +kernel⟩
theorem idp_92 : mm_idP 92 := ⟨by decide +kernel, by decide +kernel, by decide +kernel, (mm_mem 741 (by decide +kernel) (by decide +kernel)), (mm_mem 6 (by decide +kernel) (by decide +kernel)), by decide +kernel⟩
theorem idp_93 : mm_idP 93 := ⟨by decide +kernel, by decide +kernel, by decide +kernel, (mm_mem 754 (by decide +kernel) (by decide +kernel)), (mm_mem 6 (by decide +kernel) (by decide +kernel)), by decide +kernel⟩
theorem idp_94 : mm_idP 94 := ⟨by decide +kernel, by decide +kernel, by decide +kernel, (mm_mem 763 (by decide +kernel) (by decide +kernel)), (mm_mem 6 (by decide +kernel) (by decide +kernel)), by decide +kernel⟩
theorem idp_95 : mm_idP 95 := ⟨by decide +kernel, by decide +kernel, by decide +kernel, (mm_mem 759 (by decide +kernel) (by decide +kernel)), (mm_mem 6 (by decide +kernel) (by decide +kernel)), by decide +kernel⟩
theorem idp_96 : mm_idP 96 := ⟨by decide +kernel, by decide +kernel, by decide +kernel, (mm_mem 767 (by decide +kernel) (by decide +kernel)), (mm_mem 6 (by decide +kernel) (by decide +kernel)), by decide +kernel⟩
theorem idp_97 : mm_idP 97 := ⟨by decide +kernel, by decide +kernel, by decide +kernel, (mm_mem 771 (by decide +kernel) (by decide +kernel)), (mm_mem 6 (by decide +kernel) (by decide +kernel)), by decide +kernel⟩
theorem idp_98 : mm_idP 98 := ⟨by decide +kernel, by decide +kernel, by decide +kernel, (mm_mem 775 (by decide +kernel) (by decide +kernel)), (mm_mem 6 (by decide +kernel) (by decide +kernel)), by decide +kernel⟩
theorem idp_99 : mm_idP 99 := ⟨by decide +kernel, by decide +kernel, by decide +kernel, (mm_mem 749 (by decide +kernel) (by decide +kernel)), (mm_mem 6 (by decide +kernel) (by decide +kernel)), by decide +kernel⟩
theorem idp_100 : mm_idP 100 := ⟨by decide +kernel, by decide +kernel, by decide +kernel, (mm_mem 745 (by decide +kernel) (by decide +kernel)), (mm_mem 6 (by decide +kernel) (by decide +kernel)), by decide +kernel⟩
theorem idp_101 : mm_idP 101 := ⟨by decide +kernel, by decide +kernel, by decide +kernel, (mm_mem 784 (by decide +kernel) (by decide +kernel)), (mm_mem 6 (by decide +kernel) (by decide +kernel)), by decide +kernel⟩
theorem idp_102 : mm_idP 102 := ⟨by decide +kernel, by decide +kernel, by decide +kernel, (mm_mem 780 (by decide +kernel) (by decide +kernel)), (mm_mem 6 (by decide +kernel) (by decide +kernel)), by decide +kernel⟩
theorem idp_103 : mm_idP 103 := ⟨by decide +kernel, by decide +kernel, by decide +kernel, (mm_mem 788 (by decide +kernel) (by decide +kernel)), (mm_mem 6 (by decide +kernel) (by decide +kernel)), by decide +kernel⟩
theorem idp_104 : mm_idP 104 := ⟨by decide +kernel, by decide +kernel, by decide +kernel, (mm_mem 792 (by decide +kernel) (by decide +kernel)), (mm_mem 6 (by decide +kernel) (by decide +kernel)), by decide +kernel⟩
theorem idp_105 : mm_idP 105 := ⟨by decide +kernel, by decide +kernel, by decide +kernel, (mm_mem 796 (by decide +kernel) (by decide +kernel)), (mm_mem 6 (by decide +kernel) (by decide +kernel)), by decide +kernel⟩
theorem idp_106 : mm_idP 106 := ⟨by decide +kernel, by decide +kernel, by decide +kernel, (mm_mem 800 (by decide +kernel) (by decide +kernel)), (mm_mem 6 (by decide +kernel) (by decide +kernel)), by decide +kernel⟩
theorem idp_107 : mm_idP 107 := ⟨by decide +kernel, by decide +kernel, by decide +kernel, (mm_mem 804 (by decide +kernel) (by decide +kernel)), (mm_mem 6 (by decide +kernel) (by decide +kernel)), by decide +kernel⟩
theorem idp_108 : mm_idP 108 := ⟨by decide +kernel, by decide +kernel, by decide +kernel, (mm_mem 199 (by decide +kernel) (by decide +kernel)), (mm_mem 7 (by decide +kernel) (by decide +kernel)), by decide +kernel⟩
theorem idp_109 : mm_idP 109 := ⟨by decide +kernel, by decide +kernel, by decide +kernel, (mm_mem 377 (by decide +kernel) (by decide +kernel)), (mm_mem 7 (by decide +kernel) (by decide +kernel)), by decide +kernel⟩
theorem idp_110 : mm_idP 110 := ⟨by decide +kernel, by decide +kernel, by decide +kernel, (mm_mem 380 (by decide +kernel) (by decide +kernel)), (mm_mem 7 (by decide +kernel) (by decide +kernel)), by decide +kernel⟩
theorem idp_111 : mm_idP 111 := ⟨by decide +kernel, by decide +kernel, by decide +kernel, (mm_mem 446 (by decide +kernel) (by decide +kernel)), (mm_mem 7 (by decide +kernel) (by decide +kernel)), by decide +kernel⟩
theorem idp_112 : mm_idP 112 := ⟨by decide +kernel, by decide +kernel, by decide +kernel, (mm_mem 213 (by decide +kernel) (by decide +kernel)), (mm_mem 8 (by decide +kernel) (by decide +kernel)), by decide +kernel⟩
theorem idp_113 : mm_idP 113 := ⟨by decide +kernel, by decide +kernel, by decide +kernel, (mm_mem 216 (by decide +kernel) (by decide +kernel)), (mm_mem 8 (by decide +kernel) (by decide +kernel)), by decide +kernel⟩
theorem idp_114 : mm_idP 114 := ⟨by decide +kernel, by decide +kernel, by decide +kernel, (mm_mem 210 (by decide +kernel) (by decide +kernel)), (mm_mem 8 (by decide +kernel) (by decide +kernel)), by decide +kernel⟩
theorem idp_115 : mm_idP 115 := ⟨by decide +kernel, by decide +kernel, by decide +kernel, (mm_mem 245 (by decide +kernel) (by decide +kernel)), (mm_mem 8 (by decide +kernel) (by decide +kernel)), by decide +kernel⟩
theorem idp_116 : mm_idP 116 := ⟨by decide +kernel, by decide +kernel, by decide +kernel, (mm_mem 242 (by decide +kernel) (by decide +kernel)), (mm_mem 8 (by decide +kernel) (by decide +kernel)), by decide +kernel⟩
theorem idp_117 : mm_idP 117 := ⟨by decide +kernel, by decide +kernel, by decide +kernel, (mm_mem 328 (by decide +kernel) (by decide +kernel)), (mm_mem 8 (by decide +kernel) (by decide +kernel)), by decide +kernel⟩
theorem idp_118 : mm_idP 118 := ⟨by decide +kernel, by decide +kernel, by decide +kernel, (mm_mem 332 (by decide +kernel) (by decide +kernel)), (mm_mem 8 (by decide +kernel) (by decide +kernel)), by decide +kernel⟩
theorem idp_119 : mm_idP 119 := ⟨by decide +kernel, by decide +kernel, by decide +kernel, (mm_mem 325 (by decide +kernel) (by decide +kernel)), (mm_mem 8 (by decide +kernel) (by decide +kernel)), by decide +kernel⟩
theorem idp_120 : mm_idP 120 := ⟨by decide +kernel, by decide +kernel, by decide +kernel, (mm_mem 407 (by decide +kernel) (by decide +kernel)), (mm_mem 10 (by decide +kernel) (by decide +kernel)), by decide +kernel⟩
theorem idp_121 : mm_idP 121 := ⟨by decide +kernel, by decide +kernel, by decide +kernel, (mm_mem 383 (by decide +kernel) (by decide +kernel)), (mm_mem 10 (by decide +kernel) (by decide +kernel)), by decide +kernel⟩
theorem idp_122 : mm_idP 122 := ⟨by decide +kernel, by decide +kernel, by decide +kernel, (mm_mem 386 (by decide +kernel) (by decide +kernel)), (mm_mem 10 (by decide +kernel) (by decide +kernel)), by decide +kernel⟩
theorem idp_123 : mm_idP 123 := ⟨by decide +kernel, by decide +kernel, by decide +kernel, (mm_mem 392 (by decide +kernel) (by decide +kernel)), (mm_mem 10 (by decide +kernel) (by decide +kernel)), by decide +kernel⟩
theorem idp_124 : mm_idP 124 := ⟨by decide +kernel, by decide +kernel, by decide +kernel, (mm_mem 396 (by decide +kernel) (by decide +kernel)), (mm_mem 10 (by decide +kernel) (by decide +kernel)), by decide +kernel⟩
theorem mm_idp : ∀ id, id < mm_nid → mm_idP id
  | 0, _ => idp_0
  | 1, _ => idp_1
  | 2, _ => idp_2
  | 3, _ => idp_3
  | 4, _ => idp_4
  | 5, _ => idp_5
  | 6, _ => idp_6
  | 7, _ => idp_7
  | 8, _ => idp_8
  | 9, _ => idp_9
  | 10, _ => idp_10
  | 11, _ => idp_11
  | 12, _ => idp_12
  | 13, _ => idp_13
  | 14, _ => idp_14
  | 15, _ => idp_15
  | 16, _ => idp_16
  | 17, _ => idp_17
  | 18, _ => idp_18
  | 19, _ => idp_19
  | 20, _ => idp_20
  | 21, _ => idp_21
  | 22, _ => idp_22
  | 23, _ => idp_23
  | 24, _ => idp_24
  | 25, _ => idp_25
  | 26, _ => idp_26
  | 27, _ => idp_27
  | 28, _ => idp_28
  | 29, _ => idp_29
  | 30, _ => idp_30
  | 31, _ => idp_31
  | 32, _ => idp_32
  | 33, _ => idp_33
  | 34, _ => idp_34
  | 35, _ => idp_35
  | 36, _ => idp_36
  | 37, _ => idp_37
  | 38, _ => idp_38
  | 39, _ => idp_39
  | 40, _ => idp_40
  | 41, _ => idp_41
  | 42, _ => idp_42
  | 43, _ => idp_43
  | 44, _ => idp_44
  | 45, _ => idp_45
  | 46, _ => idp_46
  | 47, _ => idp_47
  | 48, _ => idp_48
  | 49, _ => idp_49
  | 50, _ => idp_50
  | 51, _ => idp_51
  | 52, _ => idp_52
  | 53, _ => idp_53
  | 54, _ => idp_54
  | 55, _ => idp_55
  | 56, _ => idp_56
  | 57, _ => idp_57
  | 58, _ => idp_58
  | 59, _ => idp_59
  | 60, _ => idp_60
  | 61, _ => idp_61
  | 62, _ => idp_62
  | 63, _ => idp_63
  | 64, _ => idp_64
  | 65, _ => idp_65
  | 66, _ => idp_66
  | 67, _ => idp_67
  | 68, _ => idp_68
  | 69, _ => idp_69
  | 70, _ => idp_70
  | 71, _ => idp_71
  | 72, _ => idp_72
  | 73, _ => idp_73
  | 74, _ => idp_74
  | 75, _ => idp_75
  | 76, _ => idp_76
  | 77, _ => idp_77
  | 78, _ => idp_78
  | 79, _ => idp_79
  | 80, _ => idp_80
  | 81, _ => idp_81
  | 82, _ => idp_82
  | 83, _ => idp_83
  | 84, _ => idp_84
  | 85, _ => idp_85
  | 86, _ => idp_86
  | 87, _ => idp_87
  | 88, _ => idp_88
  | 89, _ => idp_89
  | 90, _ => idp_90
  | 91, _ => idp_91
  | 92, _ => idp_92
  | 93, _ => idp_93
  | 94, _ => idp_94
  | 95, _ => idp_95
  | 96, _ => idp_96
  | 97, _ => idp_97
  | 98, _ => idp_98
  | 99, _ => idp_99
  | 100, _ => idp_100
  | 101, _ => idp_101
  | 102, _ => idp_102
  | 103, _ => idp_103
  | 104, _ => idp_104
  | 105, _ => idp_105
  | 106, _ => idp_106
  | 107, _ => idp_107
  | 108, _ => idp_108
  | 109, _ => idp_109
  | 110, _ => idp_110
  | 111, _ => idp_111
  | 112, _ => idp_112
  | 113, _ => idp_113
  | 114, _ => idp_114
  | 115, _ => idp_115
  | 116, _ => idp_116
  | 117, _ => idp_117
  | 118, _ => idp_118
  | 119, _ => idp_119
  | 120, _ => idp_120
  | 121, _ => idp_121
  | 122, _ => idp_122
  | 123, _ => idp_123
  | 124, _ => idp_124
  | k + 125, h => absurd h (by unfold mm_nid; omega)
theorem mm_idok {id : Nat} (h : id < mm_nid) : plainName (mm_y id).cls = true ∧ mm_own (mm_mo id) = (mm_y id).cls ∧ (mm_ic id = true → (mm_y id).name = "<init>") := ⟨(mm_idp id h).1, (mm_idp id h).2.1, (mm_idp id h).2.2.1⟩
def mm_MTp (q : Nat × Nat × Nat × Nat × Nat) : Prop := q.2.2.1 < mm_nid ∧ (q.2.2.2.2 ≠ 3 → (parseMethodDescriptor (mm_y q.2.2.1).desc).map (fun d => d.parameters.length) = some q.2.2.2.1 ∧ (Cond.methodLink (mm_own q.1) q.2.1 (mm_y q.2.2.1) ∈ mm_T ∨ ∃ ho, (mm_own q.1, q.2.1, mm_y q.2.2.1, ho) ∈ mm_nM)) ∧ (q.2.2.2.2 = 0 → Cond.static (mm_y q.2.2.1) ∈ mm_T) ∧ (q.2.2.2.2 = 1 → Cond.instanceMethod (mm_y q.2.2.1) ∈ mm_T ∧ Cond.selects (mm_nm (mm_mk q.2.2.1)) (mm_y q.2.2.1) (mm_y q.2.2.1) ∈ mm_T) ∧ (q.2.2.2.2 = 2 → (mm_y q.2.2.1).name = "<init>" ∧ Cond.instanceMethod (mm_y q.2.2.1) ∈ mm_T ∧ mm_rt q.2.2.1 = none) ∧ (q.2.2.2.2 = 3 → Cond.methodLink (mm_own q.1) q.2.1 Lib.objectInit ∈ mm_T)
theorem mi_1 : Cond.instanceMethod (mm_y 1) ∈ mm_T := (mm_mem 22 (by decide +kernel) (by decide +kernel))
theorem mi_2 : Cond.instanceMethod (mm_y 2) ∈ mm_T := (mm_mem 84 (by decide +kernel) (by decide +kernel))
theorem mi_4 : Cond.instanceMethod (mm_y 4) ∈ mm_T := (mm_mem 162 (by decide +kernel) (by decide +kernel))
theorem mi_3 : Cond.instanceMethod (mm_y 3) ∈ mm_T := (mm_mem 91 (by decide +kernel) (by decide +kernel))
theorem mi_21 : Cond.instanceMethod (mm_y 21) ∈ mm_T := (mm_mem 195 (by decide +kernel) (by decide +kernel))
theorem me_21 : Cond.selects (mm_nm (mm_mk 21)) (mm_y 21) (mm_y 21) ∈ mm_T := mm_memS (List.mem_of_getElem? (i := 0) (by decide +kernel)) (by decide +kernel)
theorem mi_26 : Cond.instanceMethod (mm_y 26) ∈ mm_T := (mm_mem 238 (by decide +kernel) (by decide +kernel))
theorem me_26 : Cond.selects (mm_nm (mm_mk 26)) (mm_y 26) (mm_y 26) ∈ mm_T := mm_memS (List.mem_of_getElem? (i := 6) (by decide +kernel)) (by decide +kernel)
theorem mi_20 : Cond.instanceMethod (mm_y 20) ∈ mm_T := (mm_mem 254 (by decide +kernel) (by decide +kernel))
theorem me_20 : Cond.selects (mm_nm (mm_mk 20)) (mm_y 20) (mm_y 20) ∈ mm_T := mm_memS (List.mem_of_getElem? (i := 7) (by decide +kernel)) (by decide +kernel)
theorem mi_29 : Cond.instanceMethod (mm_y 29) ∈ mm_T := (mm_mem 258 (by decide +kernel) (by decide +kernel))
theorem me_29 : Cond.selects (mm_nm (mm_mk 29)) (mm_y 29) (mm_y 29) ∈ mm_T := mm_memS (List.mem_of_getElem? (i := 8) (by decide +kernel)) (by decide +kernel)
theorem mi_28 : Cond.instanceMethod (mm_y 28) ∈ mm_T := (mm_mem 420 (by decide +kernel) (by decide +kernel))
theorem me_28 : Cond.selects (mm_nm (mm_mk 28)) (mm_y 28) (mm_y 28) ∈ mm_T := mm_memS (List.mem_of_getElem? (i := 33) (by decide +kernel)) (by decide +kernel)
theorem mi_19 : Cond.instanceMethod (mm_y 19) ∈ mm_T := (mm_mem 206 (by decide +kernel) (by decide +kernel))
theorem me_19 : Cond.selects (mm_nm (mm_mk 19)) (mm_y 19) (mm_y 19) ∈ mm_T := mm_memS (List.mem_of_getElem? (i := 2) (by decide +kernel)) (by decide +kernel)
theorem mi_27 : Cond.instanceMethod (mm_y 27) ∈ mm_T := (mm_mem 442 (by decide +kernel) (by decide +kernel))
theorem me_27 : Cond.selects (mm_nm (mm_mk 27)) (mm_y 27) (mm_y 27) ∈ mm_T := mm_memS (List.mem_of_getElem? (i := 34) (by decide +kernel)) (by decide +kernel)
theorem mi_51 : Cond.instanceMethod (mm_y 51) ∈ mm_T := (mm_mem 454 (by decide +kernel) (by decide +kernel))
theorem me_51 : Cond.selects (mm_nm (mm_mk 51)) (mm_y 51) (mm_y 51) ∈ mm_T := mm_memS (List.mem_of_getElem? (i := 35) (by decide +kernel)) (by decide +kernel)
theorem mi_56 : Cond.instanceMethod (mm_y 56) ∈ mm_T := (mm_mem 463 (by decide +kernel) (by decide +kernel))
theorem me_56 : Cond.selects (mm_nm (mm_mk 56)) (mm_y 56) (mm_y 56) ∈ mm_T := mm_memS (List.mem_of_getElem? (i := 37) (by decide +kernel)) (by decide +kernel)
theorem ms_108 : Cond.static (mm_y 108) ∈ mm_T := (mm_mem 198 (by decide +kernel) (by decide +kernel))
theorem mi_22 : Cond.instanceMethod (mm_y 22) ∈ mm_T := (mm_mem 202 (by decide +kernel) (by decide +kernel))
theorem me_22 : Cond.selects (mm_nm (mm_mk 22)) (mm_y 22) (mm_y 22) ∈ mm_T := mm_memS (List.mem_of_getElem? (i := 1) (by decide +kernel)) (by decide +kernel)
theorem mi_24 : Cond.instanceMethod (mm_y 24) ∈ mm_T := (mm_mem 223 (by decide +kernel) (by decide +kernel))
theorem me_24 : Cond.selects (mm_nm (mm_mk 24)) (mm_y 24) (mm_y 24) ∈ mm_T := mm_memS (List.mem_of_getElem? (i := 4) (by decide +kernel)) (by decide +kernel)
theorem ms_114 : Cond.static (mm_y 114) ∈ mm_T := (mm_mem 209 (by decide +kernel) (by decide +kernel))
theorem mi_23 : Cond.instanceMethod (mm_y 23) ∈ mm_T := (mm_mem 219 (by decide +kernel) (by decide +kernel))
theorem me_23 : Cond.selects (mm_nm (mm_mk 23)) (mm_y 23) (mm_y 23) ∈ mm_T := mm_memS (List.mem_of_getElem? (i := 3) (by decide +kernel)) (by decide +kernel)
theorem mi_25 : Cond.instanceMethod (mm_y 25) ∈ mm_T := (mm_mem 230 (by decide +kernel) (by decide +kernel))
theorem me_25 : Cond.selects (mm_nm (mm_mk 25)) (mm_y 25) (mm_y 25) ∈ mm_T := mm_memS (List.mem_of_getElem? (i := 5) (by decide +kernel)) (by decide +kernel)
theorem ms_116 : Cond.static (mm_y 116) ∈ mm_T := (mm_mem 241 (by decide +kernel) (by decide +kernel))
theorem ms_115 : Cond.static (mm_y 115) ∈ mm_T := (mm_mem 244 (by decide +kernel) (by decide +kernel))
theorem ms_111 : Cond.static (mm_y 111) ∈ mm_T := (mm_mem 445 (by decide +kernel) (by decide +kernel))
theorem mi_52 : Cond.instanceMethod (mm_y 52) ∈ mm_T := (mm_mem 292 (by decide +kernel) (by decide +kernel))
theorem me_52 : Cond.selects (mm_nm (mm_mk 52)) (mm_y 52) (mm_y 52) ∈ mm_T := mm_memS (List.mem_of_getElem? (i := 16) (by decide +kernel)) (by decide +kernel)
theorem mi_31 : Cond.instanceMethod (mm_y 31) ∈ mm_T := (mm_mem 262 (by decide +kernel) (by decide +kernel))
theorem me_31 : Cond.selects (mm_nm (mm_mk 31)) (mm_y 31) (mm_y 31) ∈ mm_T := mm_memS (List.mem_of_getElem? (i := 9) (by decide +kernel)) (by decide +kernel)
theorem mi_30 : Cond.instanceMethod (mm_y 30) ∈ mm_T := (mm_mem 284 (by decide +kernel) (by decide +kernel))
theorem me_30 : Cond.selects (mm_nm (mm_mk 30)) (mm_y 30) (mm_y 30) ∈ mm_T := mm_memS (List.mem_of_getElem? (i := 14) (by decide +kernel)) (by decide +kernel)
theorem mi_33 : Cond.instanceMethod (mm_y 33) ∈ mm_T := (mm_mem 288 (by decide +kernel) (by decide +kernel))
theorem me_33 : Cond.selects (mm_nm (mm_mk 33)) (mm_y 33) (mm_y 33) ∈ mm_T := mm_memS (List.mem_of_getElem? (i := 15) (by decide +kernel)) (by decide +kernel)
theorem mi_32 : Cond.instanceMethod (mm_y 32) ∈ mm_T := (mm_mem 320 (by decide +kernel) (by decide +kernel))
theorem me_32 : Cond.selects (mm_nm (mm_mk 32)) (mm_y 32) (mm_y 32) ∈ mm_T := mm_memS (List.mem_of_getElem? (i := 23) (by decide +kernel)) (by decide +kernel)
theorem mi_48 : Cond.instanceMethod (mm_y 48) ∈ mm_T := (mm_mem 266 (by decide +kernel) (by decide +kernel))
theorem me_48 : Cond.selects (mm_nm (mm_mk 48)) (mm_y 48) (mm_y 48) ∈ mm_T := mm_memS (List.mem_of_getElem? (i := 10) (by decide +kernel)) (by decide +kernel)
theorem mi_46 : Cond.instanceMethod (mm_y 46) ∈ mm_T := (mm_mem 274 (by decide +kernel) (by decide +kernel))
theorem me_46 : Cond.selects (mm_nm (mm_mk 46)) (mm_y 46) (mm_y 46) ∈ mm_T := mm_memS (List.mem_of_getElem? (i := 12) (by decide +kernel)) (by decide +kernel)
theorem ms_112 : Cond.static (mm_y 112) ∈ mm_T := (mm_mem 212 (by decide +kernel) (by decide +kernel))
theorem ms_119 : Cond.static (mm_y 119) ∈ mm_T := (mm_mem 324 (by decide +kernel) (by decide +kernel))
theorem mi_54 : Cond.instanceMethod (mm_y 54) ∈ mm_T := (mm_mem 296 (by decide +kernel) (by decide +kernel))
theorem me_54 : Cond.selects (mm_nm (mm_mk 54)) (mm_y 54) (mm_y 54) ∈ mm_T := mm_memS (List.mem_of_getElem? (i := 17) (by decide +kernel)) (by decide +kernel)
theorem mi_34 : Cond.instanceMethod (mm_y 34) ∈ mm_T := (mm_mem 300 (by decide +kernel) (by decide +kernel))
theorem me_34 : Cond.selects (mm_nm (mm_mk 34)) (mm_y 34) (mm_y 34) ∈ mm_T := mm_memS (List.mem_of_getElem? (i := 18) (by decide +kernel)) (by decide +kernel)
theorem mi_38 : Cond.instanceMethod (mm_y 38) ∈ mm_T := (mm_mem 308 (by decide +kernel) (by decide +kernel))
theorem me_38 : Cond.selects (mm_nm (mm_mk 38)) (mm_y 38) (mm_y 38) ∈ mm_T := mm_memS (List.mem_of_getElem? (i := 20) (by decide +kernel)) (by decide +kernel)
theorem mi_39 : Cond.instanceMethod (mm_y 39) ∈ mm_T := (mm_mem 340 (by decide +kernel) (by decide +kernel))
theorem me_39 : Cond.selects (mm_nm (mm_mk 39)) (mm_y 39) (mm_y 39) ∈ mm_T := mm_memS (List.mem_of_getElem? (i := 25) (by decide +kernel)) (by decide +kernel)
theorem mi_40 : Cond.instanceMethod (mm_y 40) ∈ mm_T := (mm_mem 345 (by decide +kernel) (by decide +kernel))
theorem me_40 : Cond.selects (mm_nm (mm_mk 40)) (mm_y 40) (mm_y 40) ∈ mm_T := mm_memS (List.mem_of_getElem? (i := 26) (by decide +kernel)) (by decide +kernel)
theorem mi_45 : Cond.instanceMethod (mm_y 45) ∈ mm_T := (mm_mem 366 (by decide +kernel) (by decide +kernel))
theorem me_45 : Cond.selects (mm_nm (mm_mk 45)) (mm_y 45) (mm_y 45) ∈ mm_T := mm_memS (List.mem_of_getElem? (i := 31) (by decide +kernel)) (by decide +kernel)
theorem mi_35 : Cond.instanceMethod (mm_y 35) ∈ mm_T := (mm_mem 373 (by decide +kernel) (by decide +kernel))
theorem me_35 : Cond.selects (mm_nm (mm_mk 35)) (mm_y 35) (mm_y 35) ∈ mm_T := mm_memS (List.mem_of_getElem? (i := 32) (by decide +kernel)) (by decide +kernel)
theorem mi_53 : Cond.instanceMethod (mm_y 53) ∈ mm_T := (mm_mem 304 (by decide +kernel) (by decide +kernel))
theorem me_53 : Cond.selects (mm_nm (mm_mk 53)) (mm_y 53) (mm_y 53) ∈ mm_T := mm_memS (List.mem_of_getElem? (i := 19) (by decide +kernel)) (by decide +kernel)
theorem mi_36 : Cond.instanceMethod (mm_y 36) ∈ mm_T := (mm_mem 316 (by decide +kernel) (by decide +kernel))
theorem me_36 : Cond.selects (mm_nm (mm_mk 36)) (mm_y 36) (mm_y 36) ∈ mm_T := mm_memS (List.mem_of_getElem? (i := 22) (by decide +kernel)) (by decide +kernel)
theorem mi_37 : Cond.instanceMethod (mm_y 37) ∈ mm_T := (mm_mem 336 (by decide +kernel) (by decide +kernel))
theorem me_37 : Cond.selects (mm_nm (mm_mk 37)) (mm_y 37) (mm_y 37) ∈ mm_T := mm_memS (List.mem_of_getElem? (i := 24) (by decide +kernel)) (by decide +kernel)
theorem ms_109 : Cond.static (mm_y 109) ∈ mm_T := (mm_mem 376 (by decide +kernel) (by decide +kernel))
theorem ms_110 : Cond.static (mm_y 110) ∈ mm_T := (mm_mem 379 (by decide +kernel) (by decide +kernel))
theorem ms_121 : Cond.static (mm_y 121) ∈ mm_T := (mm_mem 382 (by decide +kernel) (by decide +kernel))
theorem ms_120 : Cond.static (mm_y 120) ∈ mm_T := (mm_mem 406 (by decide +kernel) (by decide +kernel))
theorem mi_55 : Cond.instanceMethod (mm_y 55) ∈ mm_T := (mm_mem 312 (by decide +kernel) (by decide +kernel))
theorem me_55 : Cond.selects (mm_nm (mm_mk 55)) (mm_y 55) (mm_y 55) ∈ mm_T := mm_memS (List.mem_of_getElem? (i := 21) (by decide +kernel)) (by decide +kernel)
theorem mi_47 : Cond.instanceMethod (mm_y 47) ∈ mm_T := (mm_mem 278 (by decide +kernel) (by decide +kernel))
theorem me_47 : Cond.selects (mm_nm (mm_mk 47)) (mm_y 47) (mm_y 47) ∈ mm_T := mm_memS (List.mem_of_getElem? (i := 13) (by decide +kernel)) (by decide +kernel)
theorem mi_41 : Cond.instanceMethod (mm_y 41) ∈ mm_T := (mm_mem 350 (by decide +kernel) (by decide +kernel))
theorem me_41 : Cond.selects (mm_nm (mm_mk 41)) (mm_y 41) (mm_y 41) ∈ mm_T := mm_memS (List.mem_of_getElem? (i := 27) (by decide +kernel)) (by decide +kernel)
theorem mi_42 : Cond.instanceMethod (mm_y 42) ∈ mm_T := (mm_mem 354 (by decide +kernel) (by decide +kernel))
theorem me_42 : Cond.selects (mm_nm (mm_mk 42)) (mm_y 42) (mm_y 42) ∈ mm_T := mm_memS (List.mem_of_getElem? (i := 28) (by decide +kernel)) (by decide +kernel)
theorem mi_43 : Cond.instanceMethod (mm_y 43) ∈ mm_T := (mm_mem 358 (by decide +kernel) (by decide +kernel))
theorem me_43 : Cond.selects (mm_nm (mm_mk 43)) (mm_y 43) (mm_y 43) ∈ mm_T := mm_memS (List.mem_of_getElem? (i := 29) (by decide +kernel)) (by decide +kernel)
theorem mi_44 : Cond.instanceMethod (mm_y 44) ∈ mm_T := (mm_mem 362 (by decide +kernel) (by decide +kernel))
theorem me_44 : Cond.selects (mm_nm (mm_mk 44)) (mm_y 44) (mm_y 44) ∈ mm_T := mm_memS (List.mem_of_getElem? (i := 30) (by decide +kernel)) (by decide +kernel)
theorem ms_113 : Cond.static (mm_y 113) ∈ mm_T := (mm_mem 215 (by decide +kernel) (by decide +kernel))
theorem mi_49 : Cond.instanceMethod (mm_y 49) ∈ mm_T := (mm_mem 270 (by decide +kernel) (by decide +kernel))
theorem me_49 : Cond.selects (mm_nm (mm_mk 49)) (mm_y 49) (mm_y 49) ∈ mm_T := mm_memS (List.mem_of_getElem? (i := 11) (by decide +kernel)) (by decide +kernel)
theorem mi_50 : Cond.instanceMethod (mm_y 50) ∈ mm_T := (mm_mem 458 (by decide +kernel) (by decide +kernel))
theorem me_50 : Cond.selects (mm_nm (mm_mk 50)) (mm_y 50) (mm_y 50) ∈ mm_T := mm_memS (List.mem_of_getElem? (i := 36) (by decide +kernel)) (by decide +kernel)
theorem mi_57 : Cond.instanceMethod (mm_y 57) ∈ mm_T := (mm_mem 467 (by decide +kernel) (by decide +kernel))
theorem me_57 : Cond.selects (mm_nm (mm_mk 57)) (mm_y 57) (mm_y 57) ∈ mm_T := mm_memS (List.mem_of_getElem? (i := 38) (by decide +kernel)) (by decide +kernel)
theorem mi_59 : Cond.instanceMethod (mm_y 59) ∈ mm_T := (mm_mem 472 (by decide +kernel) (by decide +kernel))
theorem me_59 : Cond.selects (mm_nm (mm_mk 59)) (mm_y 59) (mm_y 59) ∈ mm_T := mm_memS (List.mem_of_getElem? (i := 39) (by decide +kernel)) (by decide +kernel)
theorem mi_60 : Cond.instanceMethod (mm_y 60) ∈ mm_T := (mm_mem 477 (by decide +kernel) (by decide +kernel))
theorem me_60 : Cond.selects (mm_nm (mm_mk 60)) (mm_y 60) (mm_y 60) ∈ mm_T := mm_memS (List.mem_of_getElem? (i := 40) (by decide +kernel)) (by decide +kernel)
theorem mi_61 : Cond.instanceMethod (mm_y 61) ∈ mm_T := (mm_mem 482 (by decide +kernel) (by decide +kernel))
theorem me_61 : Cond.selects (mm_nm (mm_mk 61)) (mm_y 61) (mm_y 61) ∈ mm_T := mm_memS (List.mem_of_getElem? (i := 41) (by decide +kernel)) (by decide +kernel)
theorem mi_58 : Cond.instanceMethod (mm_y 58) ∈ mm_T := (mm_mem 488 (by decide +kernel) (by decide +kernel))
theorem me_58 : Cond.selects (mm_nm (mm_mk 58)) (mm_y 58) (mm_y 58) ∈ mm_T := mm_memS (List.mem_of_getElem? (i := 42) (by decide +kernel)) (by decide +kernel)
theorem ms_122 : Cond.static (mm_y 122) ∈ mm_T := (mm_mem 385 (by decide +kernel) (by decide +kernel))
theorem mi_62 : Cond.instanceMethod (mm_y 62) ∈ mm_T := (mm_mem 627 (by decide +kernel) (by decide +kernel))
theorem me_62 : Cond.selects (mm_nm (mm_mk 62)) (mm_y 62) (mm_y 62) ∈ mm_T := mm_memS (List.mem_of_getElem? (i := 45) (by decide +kernel)) (by decide +kernel)
theorem mi_63 : Cond.instanceMethod (mm_y 63) ∈ mm_T := (mm_mem 623 (by decide +kernel) (by decide +kernel))
theorem me_63 : Cond.selects (mm_nm (mm_mk 63)) (mm_y 63) (mm_y 63) ∈ mm_T := mm_memS (List.mem_of_getElem? (i := 44) (by decide +kernel)) (by decide +kernel)
theorem mi_66 : Cond.instanceMethod (mm_y 66) ∈ mm_T := (mm_mem 635 (by decide +kernel) (by decide +kernel))
theorem me_66 : Cond.selects (mm_nm (mm_mk 66)) (mm_y 66) (mm_y 66) ∈ mm_T := mm_memS (List.mem_of_getElem? (i := 47) (by decide +kernel)) (by decide +kernel)
theorem mi_65 : Cond.instanceMethod (mm_y 65) ∈ mm_T := (mm_mem 619 (by decide +kernel) (by decide +kernel))
theorem me_65 : Cond.selects (mm_nm (mm_mk 65)) (mm_y 65) (mm_y 65) ∈ mm_T := mm_memS (List.mem_of_getElem? (i := 43) (by decide +kernel)) (by decide +kernel)
theorem mi_67 : Cond.instanceMethod (mm_y 67) ∈ mm_T := (mm_mem 631 (by decide +kernel) (by decide +kernel))
theorem me_67 : Cond.selects (mm_nm (mm_mk 67)) (mm_y 67) (mm_y 67) ∈ mm_T := mm_memS (List.mem_of_getElem? (i := 46) (by decide +kernel)) (by decide +kernel)
theorem mi_64 : Cond.instanceMethod (mm_y 64) ∈ mm_T := (mm_mem 643 (by decide +kernel) (by decide +kernel))
theorem me_64 : Cond.selects (mm_nm (mm_mk 64)) (mm_y 64) (mm_y 64) ∈ mm_T := mm_memS (List.mem_of_getElem? (i := 48) (by decide +kernel)) (by decide +kernel)
theorem mi_72 : Cond.instanceMethod (mm_y 72) ∈ mm_T := (mm_mem 708 (by decide +kernel) (by decide +kernel))
theorem me_72 : Cond.selects (mm_nm (mm_mk 72)) (mm_y 72) (mm_y 72) ∈ mm_T := mm_memS (List.mem_of_getElem? (i := 63) (by decide +kernel)) (by decide +kernel)
theorem mi_73 : Cond.instanceMethod (mm_y 73) ∈ mm_T := (mm_mem 713 (by decide +kernel) (by decide +kernel))
theorem me_73 : Cond.selects (mm_nm (mm_mk 73)) (mm_y 73) (mm_y 73) ∈ mm_T := mm_memS (List.mem_of_getElem? (i := 64) (by decide +kernel)) (by decide +kernel)
theorem mi_77 : Cond.instanceMethod (mm_y 77) ∈ mm_T := (mm_mem 676 (by decide +kernel) (by decide +kernel))
theorem me_77 : Cond.selects (mm_nm (mm_mk 77)) (mm_y 77) (mm_y 77) ∈ mm_T := mm_memS (List.mem_of_getElem? (i := 55) (by decide +kernel)) (by decide +kernel)
theorem mi_75 : Cond.instanceMethod (mm_y 75) ∈ mm_T := (mm_mem 659 (by decide +kernel) (by decide +kernel))
theorem me_75 : Cond.selects (mm_nm (mm_mk 75)) (mm_y 75) (mm_y 75) ∈ mm_T := mm_memS (List.mem_of_getElem? (i := 51) (by decide +kernel)) (by decide +kernel)
theorem mi_71 : Cond.instanceMethod (mm_y 71) ∈ mm_T := (mm_mem 700 (by decide +kernel) (by decide +kernel))
theorem me_71 : Cond.selects (mm_nm (mm_mk 71)) (mm_y 71) (mm_y 71) ∈ mm_T := mm_memS (List.mem_of_getElem? (i := 61) (by decide +kernel)) (by decide +kernel)
theorem mi_74 : Cond.instanceMethod (mm_y 74) ∈ mm_T := (mm_mem 704 (by decide +kernel) (by decide +kernel))
theorem me_74 : Cond.selects (mm_nm (mm_mk 74)) (mm_y 74) (mm_y 74) ∈ mm_T := mm_memS (List.mem_of_getElem? (i := 62) (by decide +kernel)) (by decide +kernel)
theorem mi_80 : Cond.instanceMethod (mm_y 80) ∈ mm_T := (mm_mem 696 (by decide +kernel) (by decide +kernel))
theorem me_80 : Cond.selects (mm_nm (mm_mk 80)) (mm_y 80) (mm_y 80) ∈ mm_T := mm_memS (List.mem_of_getElem? (i := 60) (by decide +kernel)) (by decide +kernel)
theorem mi_81 : Cond.instanceMethod (mm_y 81) ∈ mm_T := (mm_mem 718 (by decide +kernel) (by decide +kernel))
theorem me_81 : Cond.selects (mm_nm (mm_mk 81)) (mm_y 81) (mm_y 81) ∈ mm_T := mm_memS (List.mem_of_getElem? (i := 65) (by decide +kernel)) (by decide +kernel)
theorem mi_79 : Cond.instanceMethod (mm_y 79) ∈ mm_T := (mm_mem 684 (by decide +kernel) (by decide +kernel))
theorem me_79 : Cond.selects (mm_nm (mm_mk 79)) (mm_y 79) (mm_y 79) ∈ mm_T := mm_memS (List.mem_of_getElem? (i := 57) (by decide +kernel)) (by decide +kernel)
theorem mi_70 : Cond.instanceMethod (mm_y 70) ∈ mm_T := (mm_mem 663 (by decide +kernel) (by decide +kernel))
theorem me_70 : Cond.selects (mm_nm (mm_mk 70)) (mm_y 70) (mm_y 70) ∈ mm_T := mm_memS (List.mem_of_getElem? (i := 52) (by decide +kernel)) (by decide +kernel)
theorem mi_86 : Cond.instanceMethod (mm_y 86) ∈ mm_T := (mm_mem 655 (by decide +kernel) (by decide +kernel))
theorem me_86 : Cond.selects (mm_nm (mm_mk 86)) (mm_y 86) (mm_y 86) ∈ mm_T := mm_memS (List.mem_of_getElem? (i := 50) (by decide +kernel)) (by decide +kernel)
theorem mi_85 : Cond.instanceMethod (mm_y 85) ∈ mm_T := (mm_mem 651 (by decide +kernel) (by decide +kernel))
theorem me_85 : Cond.selects (mm_nm (mm_mk 85)) (mm_y 85) (mm_y 85) ∈ mm_T := mm_memS (List.mem_of_getElem? (i := 49) (by decide +kernel)) (by decide +kernel)
theorem mi_87 : Cond.instanceMethod (mm_y 87) ∈ mm_T := (mm_mem 736 (by decide +kernel) (by decide +kernel))
theorem me_87 : Cond.selects (mm_nm (mm_mk 87)) (mm_y 87) (mm_y 87) ∈ mm_T := mm_memS (List.mem_of_getElem? (i := 69) (by decide +kernel)) (by decide +kernel)
theorem mi_76 : Cond.instanceMethod (mm_y 76) ∈ mm_T := (mm_mem 688 (by decide +kernel) (by decide +kernel))
theorem me_76 : Cond.selects (mm_nm (mm_mk 76)) (mm_y 76) (mm_y 76) ∈ mm_T := mm_memS (List.mem_of_getElem? (i := 58) (by decide +kernel)) (by decide +kernel)
theorem mi_82 : Cond.instanceMethod (mm_y 82) ∈ mm_T := (mm_mem 692 (by decide +kernel) (by decide +kernel))
theorem me_82 : Cond.selects (mm_nm (mm_mk 82)) (mm_y 82) (mm_y 82) ∈ mm_T := mm_memS (List.mem_of_getElem? (i := 59) (by decide +kernel)) (by decide +kernel)
theorem mi_83 : Cond.instanceMethod (mm_y 83) ∈ mm_T := (mm_mem 724 (by decide +kernel) (by decide +kernel))
theorem me_83 : Cond.selects (mm_nm (mm_mk 83)) (mm_y 83) (mm_y 83) ∈ mm_T := mm_memS (List.mem_of_getElem? (i := 66) (by decide +kernel)) (by decide +kernel)
theorem mi_84 : Cond.instanceMethod (mm_y 84) ∈ mm_T := (mm_mem 728 (by decide +kernel) (by decide +kernel))
theorem me_84 : Cond.selects (mm_nm (mm_mk 84)) (mm_y 84) (mm_y 84) ∈ mm_T := mm_memS (List.mem_of_getElem? (i := 67) (by decide +kernel)) (by decide +kernel)
theorem mi_88 : Cond.instanceMethod (mm_y 88) ∈ mm_T := (mm_mem 732 (by decide +kernel) (by decide +kernel))
theorem me_88 : Cond.selects (mm_nm (mm_mk 88)) (mm_y 88) (mm_y 88) ∈ mm_T := mm_memS (List.mem_of_getElem? (i := 68) (by decide +kernel)) (by decide +kernel)
theorem mi_78 : Cond.instanceMethod (mm_y 78) ∈ mm_T := (mm_mem 672 (by decide +kernel) (by decide +kernel))
theorem me_78 : Cond.selects (mm_nm (mm_mk 78)) (mm_y 78) (mm_y 78) ∈ mm_T := mm_memS (List.mem_of_getElem? (i := 54) (by decide +kernel)) (by decide +kernel)
theorem mi_89 : Cond.instanceMethod (mm_y 89) ∈ mm_T := (mm_mem 680 (by decide +kernel) (by decide +kernel))
theorem me_89 : Cond.selects (mm_nm (mm_mk 89)) (mm_y 89) (mm_y 89) ∈ mm_T := mm_memS (List.mem_of_getElem? (i := 56) (by decide +kernel)) (by decide +kernel)
theorem mi_90 : Cond.instanceMethod (mm_y 90) ∈ mm_T := (mm_mem 668 (by decide +kernel) (by decide +kernel))
theorem me_90 : Cond.selects (mm_nm (mm_mk 90)) (mm_y 90) (mm_y 90) ∈ mm_T := mm_memS (List.mem_of_getElem? (i := 53) (by decide +kernel)) (by decide +kernel)
theorem mi_93 : Cond.instanceMethod (mm_y 93) ∈ mm_T := (mm_mem 753 (by decide +kernel) (by decide +kernel))
theorem me_93 : Cond.selects (mm_nm (mm_mk 93)) (mm_y 93) (mm_y 93) ∈ mm_T := mm_memS (List.mem_of_getElem? (i := 71) (by decide +kernel)) (by decide +kernel)
theorem mi_94 : Cond.instanceMethod (mm_y 94) ∈ mm_T := (mm_mem 762 (by decide +kernel) (by decide +kernel))
theorem me_94 : Cond.selects (mm_nm (mm_mk 94)) (mm_y 94) (mm_y 94) ∈ mm_T := mm_memS (List.mem_of_getElem? (i := 73) (by decide +kernel)) (by decide +kernel)
theorem mi_99 : Cond.instanceMethod (mm_y 99) ∈ mm_T := (mm_mem 748 (by decide +kernel) (by decide +kernel))
theorem me_99 : Cond.selects (mm_nm (mm_mk 99)) (mm_y 99) (mm_y 99) ∈ mm_T := mm_memS (List.mem_of_getElem? (i := 70) (by decide +kernel)) (by decide +kernel)
theorem mi_95 : Cond.instanceMethod (mm_y 95) ∈ mm_T := (mm_mem 758 (by decide +kernel) (by decide +kernel))
theorem me_95 : Cond.selects (mm_nm (mm_mk 95)) (mm_y 95) (mm_y 95) ∈ mm_T := mm_memS (List.mem_of_getElem? (i := 72) (by decide +kernel)) (by decide +kernel)
theorem mi_96 : Cond.instanceMethod (mm_y 96) ∈ mm_T := (mm_mem 766 (by decide +kernel) (by decide +kernel))
theorem me_96 : Cond.selects (mm_nm (mm_mk 96)) (mm_y 96) (mm_y 96) ∈ mm_T := mm_memS (List.mem_of_getElem? (i := 74) (by decide +kernel)) (by decide +kernel)
theorem mi_97 : Cond.instanceMethod (mm_y 97) ∈ mm_T := (mm_mem 770 (by decide +kernel) (by decide +kernel))
theorem me_97 : Cond.selects (mm_nm (mm_mk 97)) (mm_y 97) (mm_y 97) ∈ mm_T := mm_memS (List.mem_of_getElem? (i := 75) (by decide +kernel)) (by decide +kernel)
theorem mi_98 : Cond.instanceMethod (mm_y 98) ∈ mm_T := (mm_mem 774 (by decide +kernel) (by decide +kernel))
theorem me_98 : Cond.selects (mm_nm (mm_mk 98)) (mm_y 98) (mm_y 98) ∈ mm_T := mm_memS (List.mem_of_getElem? (i := 76) (by decide +kernel)) (by decide +kernel)
theorem mi_101 : Cond.instanceMethod (mm_y 101) ∈ mm_T := (mm_mem 783 (by decide +kernel) (by decide +kernel))
theorem me_101 : Cond.selects (mm_nm (mm_mk 101)) (mm_y 101) (mm_y 101) ∈ mm_T := mm_memS (List.mem_of_getElem? (i := 77) (by decide +kernel)) (by decide +kernel)
theorem ms_117 : Cond.static (mm_y 117) ∈ mm_T := (mm_mem 327 (by decide +kernel) (by decide +kernel))
theorem ms_118 : Cond.static (mm_y 118) ∈ mm_T := (mm_mem 331 (by decide +kernel) (by decide +kernel))
theorem ms_123 : Cond.static (mm_y 123) ∈ mm_T := (mm_mem 391 (by decide +kernel) (by decide +kernel))
theorem ms_124 : Cond.static (mm_y 124) ∈ mm_T := (mm_mem 395 (by decide +kernel) (by decide +kernel))
theorem mi_0 : Cond.instanceMethod (mm_y 0) ∈ mm_T := (mm_mem 14 (by decide +kernel) (by decide +kernel))
theorem mi_5 : Cond.instanceMethod (mm_y 5) ∈ mm_T := (mm_mem 498 (by decide +kernel) (by decide +kernel))
theorem mi_8 : Cond.instanceMethod (mm_y 8) ∈ mm_T := (mm_mem 190 (by decide +kernel) (by decide +kernel))
theorem me_8 : Cond.selects (mm_nm (mm_mk 8)) (mm_y 8) (mm_y 8) ∈ mm_T := (mm_mem 191 (by decide +kernel) (by decide +kernel))
theorem mi_68 : Cond.instanceMethod (mm_y 68) ∈ mm_T := (mm_mem 614 (by decide +kernel) (by decide +kernel))
theorem me_68 : Cond.selects (mm_nm (mm_mk 68)) (mm_y 68) (mm_y 68) ∈ mm_T := (mm_mem 615 (by decide +kernel) (by decide +kernel))
theorem mi_9 : Cond.instanceMethod (mm_y 9) ∈ mm_T := (mm_mem 233 (by decide +kernel) (by decide +kernel))
theorem me_9 : Cond.selects (mm_nm (mm_mk 9)) (mm_y 9) (mm_y 9) ∈ mm_T := (mm_mem 234 (by decide +kernel) (by decide +kernel))
theorem mi_69 : Cond.instanceMethod (mm_y 69) ∈ mm_T := (mm_mem 638 (by decide +kernel) (by decide +kernel))
theorem me_69 : Cond.selects (mm_nm (mm_mk 69)) (mm_y 69) (mm_y 69) ∈ mm_T := (mm_mem 639 (by decide +kernel) (by decide +kernel))
theorem mi_10 : Cond.instanceMethod (mm_y 10) ∈ mm_T := (mm_mem 249 (by decide +kernel) (by decide +kernel))
theorem me_10 : Cond.selects (mm_nm (mm_mk 10)) (mm_y 10) (mm_y 10) ∈ mm_T := (mm_mem 250 (by decide +kernel) (by decide +kernel))
theorem mi_91 : Cond.instanceMethod (mm_y 91) ∈ mm_T := (mm_mem 646 (by decide +kernel) (by decide +kernel))
theorem me_91 : Cond.selects (mm_nm (mm_mk 91)) (mm_y 91) (mm_y 91) ∈ mm_T := (mm_mem 647 (by decide +kernel) (by decide +kernel))
theorem mi_11 : Cond.instanceMethod (mm_y 11) ∈ mm_T := (mm_mem 411 (by decide +kernel) (by decide +kernel))
theorem me_11 : Cond.selects (mm_nm (mm_mk 11)) (mm_y 11) (mm_y 11) ∈ mm_T := (mm_mem 412 (by decide +kernel) (by decide +kernel))
theorem mi_92 : Cond.instanceMethod (mm_y 92) ∈ mm_T := (mm_mem 739 (by decide +kernel) (by decide +kernel))
theorem me_92 : Cond.selects (mm_nm (mm_mk 92)) (mm_y 92) (mm_y 92) ∈ mm_T := (mm_mem 740 (by decide +kernel) (by decide +kernel))
theorem mi_12 : Cond.instanceMethod (mm_y 12) ∈ mm_T := (mm_mem 415 (by decide +kernel) (by decide +kernel))
theorem me_12 : Cond.selects (mm_nm (mm_mk 12)) (mm_y 12) (mm_y 12) ∈ mm_T := (mm_mem 416 (by decide +kernel) (by decide +kernel))
theorem mi_102 : Cond.instanceMethod (mm_y 102) ∈ mm_T := (mm_mem 778 (by decide +kernel) (by decide +kernel))
theorem me_102 : Cond.selects (mm_nm (mm_mk 102)) (mm_y 102) (mm_y 102) ∈ mm_T := (mm_mem 779 (by decide +kernel) (by decide +kernel))
theorem mi_13 : Cond.instanceMethod (mm_y 13) ∈ mm_T := (mm_mem 423 (by decide +kernel) (by decide +kernel))
theorem me_13 : Cond.selects (mm_nm (mm_mk 13)) (mm_y 13) (mm_y 13) ∈ mm_T := (mm_mem 424 (by decide +kernel) (by decide +kernel))
theorem mi_103 : Cond.instanceMethod (mm_y 103) ∈ mm_T := (mm_mem 786 (by decide +kernel) (by decide +kernel))
theorem me_103 : Cond.selects (mm_nm (mm_mk 103)) (mm_y 103) (mm_y 103) ∈ mm_T := (mm_mem 787 (by decide +kernel) (by decide +kernel))
theorem mi_14 : Cond.instanceMethod (mm_y 14) ∈ mm_T := (mm_mem 428 (by decide +kernel) (by decide +kernel))
theorem me_14 : Cond.selects (mm_nm (mm_mk 14)) (mm_y 14) (mm_y 14) ∈ mm_T := (mm_mem 429 (by decide +kernel) (by decide +kernel))
theorem mi_104 : Cond.instanceMethod (mm_y 104) ∈ mm_T := (mm_mem 790 (by decide +kernel) (by decide +kernel))
theorem me_104 : Cond.selects (mm_nm (mm_mk 104)) (mm_y 104) (mm_y 104) ∈ mm_T := (mm_mem 791 (by decide +kernel) (by decide +kernel))
theorem mi_15 : Cond.instanceMethod (mm_y 15) ∈ mm_T := (mm_mem 433 (by decide +kernel) (by decide +kernel))
theorem me_15 : Cond.selects (mm_nm (mm_mk 15)) (mm_y 15) (mm_y 15) ∈ mm_T := (mm_mem 434 (by decide +kernel) (by decide +kernel))
theorem mi_105 : Cond.instanceMethod (mm_y 105) ∈ mm_T := (mm_mem 794 (by decide +kernel) (by decide +kernel))
theorem me_105 : Cond.selects (mm_nm (mm_mk 105)) (mm_y 105) (mm_y 105) ∈ mm_T := (mm_mem 795 (by decide +kernel) (by decide +kernel))
theorem mi_16 : Cond.instanceMethod (mm_y 16) ∈ mm_T := (mm_mem 437 (by decide +kernel) (by decide +kernel))
theorem me_16 : Cond.selects (mm_nm (mm_mk 16)) (mm_y 16) (mm_y 16) ∈ mm_T := (mm_mem 438 (by decide +kernel) (by decide +kernel))
theorem mi_106 : Cond.instanceMethod (mm_y 106) ∈ mm_T := (mm_mem 798 (by decide +kernel) (by decide +kernel))
theorem me_106 : Cond.selects (mm_nm (mm_mk 106)) (mm_y 106) (mm_y 106) ∈ mm_T := (mm_mem 799 (by decide +kernel) (by decide +kernel))
theorem mi_17 : Cond.instanceMethod (mm_y 17) ∈ mm_T := (mm_mem 449 (by decide +kernel) (by decide +kernel))
theorem me_17 : Cond.selects (mm_nm (mm_mk 17)) (mm_y 17) (mm_y 17) ∈ mm_T := (mm_mem 450 (by decide +kernel) (by decide +kernel))
theorem mi_100 : Cond.instanceMethod (mm_y 100) ∈ mm_T := (mm_mem 743 (by decide +kernel) (by decide +kernel))
theorem me_100 : Cond.selects (mm_nm (mm_mk 100)) (mm_y 100) (mm_y 100) ∈ mm_T := (mm_mem 744 (by decide +kernel) (by decide +kernel))
theorem mi_18 : Cond.instanceMethod (mm_y 18) ∈ mm_T := (mm_mem 492 (by decide +kernel) (by decide +kernel))
theorem me_18 : Cond.selects (mm_nm (mm_mk 18)) (mm_y 18) (mm_y 18) ∈ mm_T := (mm_mem 493 (by decide +kernel) (by decide +kernel))
theorem mi_107 : Cond.instanceMethod (mm_y 107) ∈ mm_T := (mm_mem 802 (by decide +kernel) (by decide +kernel))
theorem me_107 : Cond.selects (mm_nm (mm_mk 107)) (mm_y 107) (mm_y 107) ∈ mm_T := (mm_mem 803 (by decide +kernel) (by decide +kernel))
theorem mtp_0_1 : mm_MTp (0, 1, 7, 0, 3) := ⟨by decide, fun h => absurd rfl h, fun h => absurd h (by decide), fun h => absurd h (by decide), fun h => absurd h (by decide), fun _ => (mm_mem 16 (by decide +kernel) (by decide +kernel))⟩
theorem mtp_0_9 : mm_MTp (0, 9, 1, 0, 2) := ⟨by decide, fun _ => ⟨by decide +kernel, Or.inr ⟨"StagedCompiler", List.mem_of_getElem? (i := 0) (by decide +kernel)⟩⟩, fun h => absurd h (by decide), fun h => absurd h (by decide), fun _ => ⟨rfl, mi_1, rfl⟩, fun h => absurd h (by decide)⟩
theorem mtp_0_12 : mm_MTp (0, 12, 2, 1, 2) := ⟨by decide, fun _ => ⟨by decide +kernel, Or.inr ⟨"StagedCompiler", List.mem_of_getElem? (i := 1) (by decide +kernel)⟩⟩, fun h => absurd h (by decide), fun h => absurd h (by decide), fun _ => ⟨rfl, mi_2, rfl⟩, fun h => absurd h (by decide)⟩
theorem mtp_0_31 : mm_MTp (0, 31, 4, 2, 2) := ⟨by decide, fun _ => ⟨by decide +kernel, Or.inr ⟨"StagedCompiler", List.mem_of_getElem? (i := 2) (by decide +kernel)⟩⟩, fun h => absurd h (by decide), fun h => absurd h (by decide), fun _ => ⟨rfl, mi_4, rfl⟩, fun h => absurd h (by decide)⟩
theorem mtp_1_3 : mm_MTp (1, 3, 7, 0, 3) := ⟨by decide, fun h => absurd rfl h, fun h => absurd h (by decide), fun h => absurd h (by decide), fun h => absurd h (by decide), fun _ => (mm_mem 24 (by decide +kernel) (by decide +kernel))⟩
theorem mtp_2_3 : mm_MTp (2, 3, 7, 0, 3) := ⟨by decide, fun h => absurd rfl h, fun h => absurd h (by decide), fun h => absurd h (by decide), fun h => absurd h (by decide), fun _ => (mm_mem 86 (by decide +kernel) (by decide +kernel))⟩
theorem mtp_2_21 : mm_MTp (2, 21, 3, 0, 2) := ⟨by decide, fun _ => ⟨by decide +kernel, Or.inr ⟨"StagedCompiler", List.mem_of_getElem? (i := 3) (by decide +kernel)⟩⟩, fun h => absurd h (by decide), fun h => absurd h (by decide), fun _ => ⟨rfl, mi_3, rfl⟩, fun h => absurd h (by decide)⟩
theorem mtp_3_3 : mm_MTp (3, 3, 7, 0, 3) := ⟨by decide, fun h => absurd rfl h, fun h => absurd h (by decide), fun h => absurd h (by decide), fun h => absurd h (by decide), fun _ => (mm_mem 93 (by decide +kernel) (by decide +kernel))⟩
theorem mtp_4_3 : mm_MTp (4, 3, 7, 0, 3) := ⟨by decide, fun h => absurd rfl h, fun h => absurd h (by decide), fun h => absurd h (by decide), fun h => absurd h (by decide), fun _ => (mm_mem 164 (by decide +kernel) (by decide +kernel))⟩
theorem mtp_5_1 : mm_MTp (5, 1, 7, 0, 3) := ⟨by decide, fun h => absurd rfl h, fun h => absurd h (by decide), fun h => absurd h (by decide), fun h => absurd h (by decide), fun _ => (mm_mem 500 (by decide +kernel) (by decide +kernel))⟩
theorem mtp_0_38 : mm_MTp (0, 38, 21, 4, 1) := ⟨by decide, fun _ => ⟨by decide +kernel, Or.inr ⟨"StagedCompiler", List.mem_of_getElem? (i := 4) (by decide +kernel)⟩⟩, fun h => absurd h (by decide), fun _ => ⟨mi_21, me_21⟩, fun h => absurd h (by decide), fun h => absurd h (by decide)⟩
theorem mtp_0_42 : mm_MTp (0, 42, 26, 5, 1) := ⟨by decide, fun _ => ⟨by decide +kernel, Or.inr ⟨"StagedCompiler", List.mem_of_getElem? (i := 5) (by decide +kernel)⟩⟩, fun h => absurd h (by decide), fun _ => ⟨mi_26, me_26⟩, fun h => absurd h (by decide), fun h => absurd h (by decide)⟩
theorem mtp_0_46 : mm_MTp (0, 46, 20, 1, 1) := ⟨by decide, fun _ => ⟨by decide +kernel, Or.inr ⟨"StagedCompiler", List.mem_of_getElem? (i := 6) (by decide +kernel)⟩⟩, fun h => absurd h (by decide), fun _ => ⟨mi_20, me_20⟩, fun h => absurd h (by decide), fun h => absurd h (by decide)⟩
theorem mtp_0_50 : mm_MTp (0, 50, 29, 3, 1) := ⟨by decide, fun _ => ⟨by decide +kernel, Or.inr ⟨"StagedCompiler", List.mem_of_getElem? (i := 7) (by decide +kernel)⟩⟩, fun h => absurd h (by decide), fun _ => ⟨mi_29, me_29⟩, fun h => absurd h (by decide), fun h => absurd h (by decide)⟩
theorem mtp_0_58 : mm_MTp (0, 58, 28, 1, 1) := ⟨by decide, fun _ => ⟨by decide +kernel, Or.inr ⟨"StagedCompiler", List.mem_of_getElem? (i := 8) (by decide +kernel)⟩⟩, fun h => absurd h (by decide), fun _ => ⟨mi_28, me_28⟩, fun h => absurd h (by decide), fun h => absurd h (by decide)⟩
theorem mtp_0_78 : mm_MTp (0, 78, 19, 1, 1) := ⟨by decide, fun _ => ⟨by decide +kernel, Or.inr ⟨"StagedCompiler", List.mem_of_getElem? (i := 9) (by decide +kernel)⟩⟩, fun h => absurd h (by decide), fun _ => ⟨mi_19, me_19⟩, fun h => absurd h (by decide), fun h => absurd h (by decide)⟩
theorem mtp_0_91 : mm_MTp (0, 91, 27, 1, 1) := ⟨by decide, fun _ => ⟨by decide +kernel, Or.inr ⟨"StagedCompiler", List.mem_of_getElem? (i := 10) (by decide +kernel)⟩⟩, fun h => absurd h (by decide), fun _ => ⟨mi_27, me_27⟩, fun h => absurd h (by decide), fun h => absurd h (by decide)⟩
theorem mtp_0_95 : mm_MTp (0, 95, 51, 2, 1) := ⟨by decide, fun _ => ⟨by decide +kernel, Or.inr ⟨"StagedCompiler", List.mem_of_getElem? (i := 11) (by decide +kernel)⟩⟩, fun h => absurd h (by decide), fun _ => ⟨mi_51, me_51⟩, fun h => absurd h (by decide), fun h => absurd h (by decide)⟩
theorem mtp_0_99 : mm_MTp (0, 99, 56, 3, 1) := ⟨by decide, fun _ => ⟨by decide +kernel, Or.inr ⟨"StagedCompiler", List.mem_of_getElem? (i := 12) (by decide +kernel)⟩⟩, fun h => absurd h (by decide), fun _ => ⟨mi_56, me_56⟩, fun h => absurd h (by decide), fun h => absurd h (by decide)⟩
theorem mtp_1_50 : mm_MTp (1, 50, 108, 1, 0) := ⟨by decide, fun _ => ⟨by decide +kernel, Or.inr ⟨"StagedCompiler", List.mem_of_getElem? (i := 13) (by decide +kernel)⟩⟩, fun _ => ms_108, fun h => absurd h (by decide), fun h => absurd h (by decide), fun h => absurd h (by decide)⟩
theorem mtp_1_56 : mm_MTp (1, 56, 22, 4, 1) := ⟨by decide, fun _ => ⟨by decide +kernel, Or.inl (mm_mem 200 (by decide +kernel) (by decide +kernel))⟩, fun h => absurd h (by decide), fun _ => ⟨mi_22, me_22⟩, fun h => absurd h (by decide), fun h => absurd h (by decide)⟩
theorem mtp_1_60 : mm_MTp (1, 60, 24, 4, 1) := ⟨by decide, fun _ => ⟨by decide +kernel, Or.inl (mm_mem 221 (by decide +kernel) (by decide +kernel))⟩, fun h => absurd h (by decide), fun _ => ⟨mi_24, me_24⟩, fun h => absurd h (by decide), fun h => absurd h (by decide)⟩
theorem mtp_1_64 : mm_MTp (1, 64, 19, 1, 1) := ⟨by decide, fun _ => ⟨by decide +kernel, Or.inl (mm_mem 204 (by decide +kernel) (by decide +kernel))⟩, fun h => absurd h (by decide), fun _ => ⟨mi_19, me_19⟩, fun h => absurd h (by decide), fun h => absurd h (by decide)⟩
theorem mtp_1_67 : mm_MTp (1, 67, 114, 1, 0) := ⟨by decide, fun _ => ⟨by decide +kernel, Or.inr ⟨"StagedCompiler", List.mem_of_getElem? (i := 14) (by decide +kernel)⟩⟩, fun _ => ms_114, fun h => absurd h (by decide), fun h => absurd h (by decide), fun h => absurd h (by decide)⟩
theorem mtp_1_72 : mm_MTp (1, 72, 23, 1, 1) := ⟨by decide, fun _ => ⟨by decide +kernel, Or.inl (mm_mem 217 (by decide +kernel) (by decide +kernel))⟩, fun h => absurd h (by decide), fun _ => ⟨mi_23, me_23⟩, fun h => absurd h (by decide), fun h => absurd h (by decide)⟩
theorem mtp_1_81 : mm_MTp (1, 81, 25, 1, 1) := ⟨by decide, fun _ => ⟨by decide +kernel, Or.inl (mm_mem 228 (by decide +kernel) (by decide +kernel))⟩, fun h => absurd h (by decide), fun _ => ⟨mi_25, me_25⟩, fun h => absurd h (by decide), fun h => absurd h (by decide)⟩
theorem mtp_1_85 : mm_MTp (1, 85, 116, 1, 0) := ⟨by decide, fun _ => ⟨by decide +kernel, Or.inr ⟨"StagedCompiler", List.mem_of_getElem? (i := 15) (by decide +kernel)⟩⟩, fun _ => ms_116, fun h => absurd h (by decide), fun h => absurd h (by decide), fun h => absurd h (by decide)⟩
theorem mtp_1_88 : mm_MTp (1, 88, 115, 1, 0) := ⟨by decide, fun _ => ⟨by decide +kernel, Or.inr ⟨"StagedCompiler", List.mem_of_getElem? (i := 16) (by decide +kernel)⟩⟩, fun _ => ms_115, fun h => absurd h (by decide), fun h => absurd h (by decide), fun h => absurd h (by decide)⟩
theorem mtp_1_91 : mm_MTp (1, 91, 111, 1, 0) := ⟨by decide, fun _ => ⟨by decide +kernel, Or.inr ⟨"StagedCompiler", List.mem_of_getElem? (i := 17) (by decide +kernel)⟩⟩, fun _ => ms_111, fun h => absurd h (by decide), fun h => absurd h (by decide), fun h => absurd h (by decide)⟩
theorem mtp_1_94 : mm_MTp (1, 94, 52, 1, 1) := ⟨by decide, fun _ => ⟨by decide +kernel, Or.inr ⟨"StagedCompiler", List.mem_of_getElem? (i := 18) (by decide +kernel)⟩⟩, fun h => absurd h (by decide), fun _ => ⟨mi_52, me_52⟩, fun h => absurd h (by decide), fun h => absurd h (by decide)⟩
theorem mtp_2_32 : mm_MTp (2, 32, 31, 3, 1) := ⟨by decide, fun _ => ⟨by decide +kernel, Or.inl (mm_mem 260 (by decide +kernel) (by decide +kernel))⟩, fun h => absurd h (by decide), fun _ => ⟨mi_31, me_31⟩, fun h => absurd h (by decide), fun h => absurd h (by decide)⟩
theorem mtp_2_36 : mm_MTp (2, 36, 30, 3, 1) := ⟨by decide, fun _ => ⟨by decide +kernel, Or.inl (mm_mem 282 (by decide +kernel) (by decide +kernel))⟩, fun h => absurd h (by decide), fun _ => ⟨mi_30, me_30⟩, fun h => absurd h (by decide), fun h => absurd h (by decide)⟩
theorem mtp_2_49 : mm_MTp (2, 49, 33, 2, 1) := ⟨by decide, fun _ => ⟨by decide +kernel, Or.inl (mm_mem 286 (by decide +kernel) (by decide +kernel))⟩, fun h => absurd h (by decide), fun _ => ⟨mi_33, me_33⟩, fun h => absurd h (by decide), fun h => absurd h (by decide)⟩
theorem mtp_2_56 : mm_MTp (2, 56, 32, 4, 1) := ⟨by decide, fun _ => ⟨by decide +kernel, Or.inl (mm_mem 318 (by decide +kernel) (by decide +kernel))⟩, fun h => absurd h (by decide), fun _ => ⟨mi_32, me_32⟩, fun h => absurd h (by decide), fun h => absurd h (by decide)⟩
theorem mtp_2_60 : mm_MTp (2, 60, 48, 3, 1) := ⟨by decide, fun _ => ⟨by decide +kernel, Or.inr ⟨"StagedCompiler", List.mem_of_getElem? (i := 19) (by decide +kernel)⟩⟩, fun h => absurd h (by decide), fun _ => ⟨mi_48, me_48⟩, fun h => absurd h (by decide), fun h => absurd h (by decide)⟩
theorem mtp_2_64 : mm_MTp (2, 64, 46, 4, 1) := ⟨by decide, fun _ => ⟨by decide +kernel, Or.inr ⟨"StagedCompiler", List.mem_of_getElem? (i := 20) (by decide +kernel)⟩⟩, fun h => absurd h (by decide), fun _ => ⟨mi_46, me_46⟩, fun h => absurd h (by decide), fun h => absurd h (by decide)⟩
theorem mtp_2_73 : mm_MTp (2, 73, 112, 1, 0) := ⟨by decide, fun _ => ⟨by decide +kernel, Or.inr ⟨"StagedCompiler", List.mem_of_getElem? (i := 21) (by decide +kernel)⟩⟩, fun _ => ms_112, fun h => absurd h (by decide), fun h => absurd h (by decide), fun h => absurd h (by decide)⟩
theorem mtp_2_81 : mm_MTp (2, 81, 119, 2, 0) := ⟨by decide, fun _ => ⟨by decide +kernel, Or.inr ⟨"StagedCompiler", List.mem_of_getElem? (i := 22) (by decide +kernel)⟩⟩, fun _ => ms_119, fun h => absurd h (by decide), fun h => absurd h (by decide), fun h => absurd h (by decide)⟩
theorem mtp_2_85 : mm_MTp (2, 85, 52, 1, 1) := ⟨by decide, fun _ => ⟨by decide +kernel, Or.inr ⟨"StagedCompiler", List.mem_of_getElem? (i := 23) (by decide +kernel)⟩⟩, fun h => absurd h (by decide), fun _ => ⟨mi_52, me_52⟩, fun h => absurd h (by decide), fun h => absurd h (by decide)⟩
theorem mtp_2_94 : mm_MTp (2, 94, 54, 3, 1) := ⟨by decide, fun _ => ⟨by decide +kernel, Or.inr ⟨"StagedCompiler", List.mem_of_getElem? (i := 24) (by decide +kernel)⟩⟩, fun h => absurd h (by decide), fun _ => ⟨mi_54, me_54⟩, fun h => absurd h (by decide), fun h => absurd h (by decide)⟩
theorem mtp_2_98 : mm_MTp (2, 98, 34, 2, 1) := ⟨by decide, fun _ => ⟨by decide +kernel, Or.inl (mm_mem 298 (by decide +kernel) (by decide +kernel))⟩, fun h => absurd h (by decide), fun _ => ⟨mi_34, me_34⟩, fun h => absurd h (by decide), fun h => absurd h (by decide)⟩
theorem mtp_2_101 : mm_MTp (2, 101, 38, 2, 1) := ⟨by decide, fun _ => ⟨by decide +kernel, Or.inl (mm_mem 306 (by decide +kernel) (by decide +kernel))⟩, fun h => absurd h (by decide), fun _ => ⟨mi_38, me_38⟩, fun h => absurd h (by decide), fun h => absurd h (by decide)⟩
theorem mtp_2_104 : mm_MTp (2, 104, 39, 2, 1) := ⟨by decide, fun _ => ⟨by decide +kernel, Or.inl (mm_mem 338 (by decide +kernel) (by decide +kernel))⟩, fun h => absurd h (by decide), fun _ => ⟨mi_39, me_39⟩, fun h => absurd h (by decide), fun h => absurd h (by decide)⟩
theorem mtp_2_107 : mm_MTp (2, 107, 40, 2, 1) := ⟨by decide, fun _ => ⟨by decide +kernel, Or.inl (mm_mem 343 (by decide +kernel) (by decide +kernel))⟩, fun h => absurd h (by decide), fun _ => ⟨mi_40, me_40⟩, fun h => absurd h (by decide), fun h => absurd h (by decide)⟩
theorem mtp_2_110 : mm_MTp (2, 110, 45, 2, 1) := ⟨by decide, fun _ => ⟨by decide +kernel, Or.inl (mm_mem 364 (by decide +kernel) (by decide +kernel))⟩, fun h => absurd h (by decide), fun _ => ⟨mi_45, me_45⟩, fun h => absurd h (by decide), fun h => absurd h (by decide)⟩
theorem mtp_2_113 : mm_MTp (2, 113, 35, 2, 1) := ⟨by decide, fun _ => ⟨by decide +kernel, Or.inl (mm_mem 371 (by decide +kernel) (by decide +kernel))⟩, fun h => absurd h (by decide), fun _ => ⟨mi_35, me_35⟩, fun h => absurd h (by decide), fun h => absurd h (by decide)⟩
theorem mtp_2_122 : mm_MTp (2, 122, 53, 2, 1) := ⟨by decide, fun _ => ⟨by decide +kernel, Or.inr ⟨"StagedCompiler", List.mem_of_getElem? (i := 25) (by decide +kernel)⟩⟩, fun h => absurd h (by decide), fun _ => ⟨mi_53, me_53⟩, fun h => absurd h (by decide), fun h => absurd h (by decide)⟩
theorem mtp_2_129 : mm_MTp (2, 129, 36, 4, 1) := ⟨by decide, fun _ => ⟨by decide +kernel, Or.inl (mm_mem 314 (by decide +kernel) (by decide +kernel))⟩, fun h => absurd h (by decide), fun _ => ⟨mi_36, me_36⟩, fun h => absurd h (by decide), fun h => absurd h (by decide)⟩
theorem mtp_2_132 : mm_MTp (2, 132, 37, 3, 1) := ⟨by decide, fun _ => ⟨by decide +kernel, Or.inl (mm_mem 334 (by decide +kernel) (by decide +kernel))⟩, fun h => absurd h (by decide), fun _ => ⟨mi_37, me_37⟩, fun h => absurd h (by decide), fun h => absurd h (by decide)⟩
theorem mtp_2_138 : mm_MTp (2, 138, 109, 1, 0) := ⟨by decide, fun _ => ⟨by decide +kernel, Or.inr ⟨"StagedCompiler", List.mem_of_getElem? (i := 26) (by decide +kernel)⟩⟩, fun _ => ms_109, fun h => absurd h (by decide), fun h => absurd h (by decide), fun h => absurd h (by decide)⟩
theorem mtp_2_141 : mm_MTp (2, 141, 110, 1, 0) := ⟨by decide, fun _ => ⟨by decide +kernel, Or.inr ⟨"StagedCompiler", List.mem_of_getElem? (i := 27) (by decide +kernel)⟩⟩, fun _ => ms_110, fun h => absurd h (by decide), fun h => absurd h (by decide), fun h => absurd h (by decide)⟩
theorem mtp_2_148 : mm_MTp (2, 148, 121, 4, 0) := ⟨by decide, fun _ => ⟨by decide +kernel, Or.inr ⟨"StagedCompiler", List.mem_of_getElem? (i := 28) (by decide +kernel)⟩⟩, fun _ => ms_121, fun h => absurd h (by decide), fun h => absurd h (by decide), fun h => absurd h (by decide)⟩
theorem mtp_2_154 : mm_MTp (2, 154, 120, 1, 0) := ⟨by decide, fun _ => ⟨by decide +kernel, Or.inr ⟨"StagedCompiler", List.mem_of_getElem? (i := 29) (by decide +kernel)⟩⟩, fun _ => ms_120, fun h => absurd h (by decide), fun h => absurd h (by decide), fun h => absurd h (by decide)⟩
theorem mtp_2_163 : mm_MTp (2, 163, 55, 2, 1) := ⟨by decide, fun _ => ⟨by decide +kernel, Or.inr ⟨"StagedCompiler", List.mem_of_getElem? (i := 30) (by decide +kernel)⟩⟩, fun h => absurd h (by decide), fun _ => ⟨mi_55, me_55⟩, fun h => absurd h (by decide), fun h => absurd h (by decide)⟩
theorem mtp_2_166 : mm_MTp (2, 166, 47, 1, 1) := ⟨by decide, fun _ => ⟨by decide +kernel, Or.inr ⟨"StagedCompiler", List.mem_of_getElem? (i := 31) (by decide +kernel)⟩⟩, fun h => absurd h (by decide), fun _ => ⟨mi_47, me_47⟩, fun h => absurd h (by decide), fun h => absurd h (by decide)⟩
theorem mtp_2_170 : mm_MTp (2, 170, 20, 1, 1) := ⟨by decide, fun _ => ⟨by decide +kernel, Or.inr ⟨"StagedCompiler", List.mem_of_getElem? (i := 32) (by decide +kernel)⟩⟩, fun h => absurd h (by decide), fun _ => ⟨mi_20, me_20⟩, fun h => absurd h (by decide), fun h => absurd h (by decide)⟩
theorem mtp_2_176 : mm_MTp (2, 176, 41, 2, 1) := ⟨by decide, fun _ => ⟨by decide +kernel, Or.inl (mm_mem 348 (by decide +kernel) (by decide +kernel))⟩, fun h => absurd h (by decide), fun _ => ⟨mi_41, me_41⟩, fun h => absurd h (by decide), fun h => absurd h (by decide)⟩
theorem mtp_2_182 : mm_MTp (2, 182, 42, 3, 1) := ⟨by decide, fun _ => ⟨by decide +kernel, Or.inl (mm_mem 352 (by decide +kernel) (by decide +kernel))⟩, fun h => absurd h (by decide), fun _ => ⟨mi_42, me_42⟩, fun h => absurd h (by decide), fun h => absurd h (by decide)⟩
theorem mtp_2_186 : mm_MTp (2, 186, 43, 2, 1) := ⟨by decide, fun _ => ⟨by decide +kernel, Or.inl (mm_mem 356 (by decide +kernel) (by decide +kernel))⟩, fun h => absurd h (by decide), fun _ => ⟨mi_43, me_43⟩, fun h => absurd h (by decide), fun h => absurd h (by decide)⟩
theorem mtp_2_190 : mm_MTp (2, 190, 44, 4, 1) := ⟨by decide, fun _ => ⟨by decide +kernel, Or.inl (mm_mem 360 (by decide +kernel) (by decide +kernel))⟩, fun h => absurd h (by decide), fun _ => ⟨mi_44, me_44⟩, fun h => absurd h (by decide), fun h => absurd h (by decide)⟩
theorem mtp_3_49 : mm_MTp (3, 49, 47, 1, 1) := ⟨by decide, fun _ => ⟨by decide +kernel, Or.inl (mm_mem 276 (by decide +kernel) (by decide +kernel))⟩, fun h => absurd h (by decide), fun _ => ⟨mi_47, me_47⟩, fun h => absurd h (by decide), fun h => absurd h (by decide)⟩
theorem mtp_3_56 : mm_MTp (3, 56, 113, 1, 0) := ⟨by decide, fun _ => ⟨by decide +kernel, Or.inr ⟨"StagedCompiler", List.mem_of_getElem? (i := 33) (by decide +kernel)⟩⟩, fun _ => ms_113, fun h => absurd h (by decide), fun h => absurd h (by decide), fun h => absurd h (by decide)⟩
theorem mtp_3_62 : mm_MTp (3, 62, 49, 2, 1) := ⟨by decide, fun _ => ⟨by decide +kernel, Or.inl (mm_mem 268 (by decide +kernel) (by decide +kernel))⟩, fun h => absurd h (by decide), fun _ => ⟨mi_49, me_49⟩, fun h => absurd h (by decide), fun h => absurd h (by decide)⟩
theorem mtp_3_66 : mm_MTp (3, 66, 50, 1, 1) := ⟨by decide, fun _ => ⟨by decide +kernel, Or.inl (mm_mem 456 (by decide +kernel) (by decide +kernel))⟩, fun h => absurd h (by decide), fun _ => ⟨mi_50, me_50⟩, fun h => absurd h (by decide), fun h => absurd h (by decide)⟩
theorem mtp_3_69 : mm_MTp (3, 69, 119, 2, 0) := ⟨by decide, fun _ => ⟨by decide +kernel, Or.inr ⟨"StagedCompiler", List.mem_of_getElem? (i := 34) (by decide +kernel)⟩⟩, fun _ => ms_119, fun h => absurd h (by decide), fun h => absurd h (by decide), fun h => absurd h (by decide)⟩
theorem mtp_4_37 : mm_MTp (4, 37, 57, 5, 1) := ⟨by decide, fun _ => ⟨by decide +kernel, Or.inl (mm_mem 465 (by decide +kernel) (by decide +kernel))⟩, fun h => absurd h (by decide), fun _ => ⟨mi_57, me_57⟩, fun h => absurd h (by decide), fun h => absurd h (by decide)⟩
theorem mtp_4_57 : mm_MTp (4, 57, 59, 5, 1) := ⟨by decide, fun _ => ⟨by decide +kernel, Or.inl (mm_mem 470 (by decide +kernel) (by decide +kernel))⟩, fun h => absurd h (by decide), fun _ => ⟨mi_59, me_59⟩, fun h => absurd h (by decide), fun h => absurd h (by decide)⟩
theorem mtp_4_60 : mm_MTp (4, 60, 60, 5, 1) := ⟨by decide, fun _ => ⟨by decide +kernel, Or.inl (mm_mem 475 (by decide +kernel) (by decide +kernel))⟩, fun h => absurd h (by decide), fun _ => ⟨mi_60, me_60⟩, fun h => absurd h (by decide), fun h => absurd h (by decide)⟩
theorem mtp_4_63 : mm_MTp (4, 63, 61, 5, 1) := ⟨by decide, fun _ => ⟨by decide +kernel, Or.inl (mm_mem 480 (by decide +kernel) (by decide +kernel))⟩, fun h => absurd h (by decide), fun _ => ⟨mi_61, me_61⟩, fun h => absurd h (by decide), fun h => absurd h (by decide)⟩
theorem mtp_4_66 : mm_MTp (4, 66, 58, 5, 1) := ⟨by decide, fun _ => ⟨by decide +kernel, Or.inl (mm_mem 486 (by decide +kernel) (by decide +kernel))⟩, fun h => absurd h (by decide), fun _ => ⟨mi_58, me_58⟩, fun h => absurd h (by decide), fun h => absurd h (by decide)⟩
theorem mtp_4_69 : mm_MTp (4, 69, 120, 1, 0) := ⟨by decide, fun _ => ⟨by decide +kernel, Or.inr ⟨"StagedCompiler", List.mem_of_getElem? (i := 35) (by decide +kernel)⟩⟩, fun _ => ms_120, fun h => absurd h (by decide), fun h => absurd h (by decide), fun h => absurd h (by decide)⟩
theorem mtp_4_81 : mm_MTp (4, 81, 121, 4, 0) := ⟨by decide, fun _ => ⟨by decide +kernel, Or.inr ⟨"StagedCompiler", List.mem_of_getElem? (i := 36) (by decide +kernel)⟩⟩, fun _ => ms_121, fun h => absurd h (by decide), fun h => absurd h (by decide), fun h => absurd h (by decide)⟩
theorem mtp_4_88 : mm_MTp (4, 88, 122, 2, 0) := ⟨by decide, fun _ => ⟨by decide +kernel, Or.inr ⟨"StagedCompiler", List.mem_of_getElem? (i := 37) (by decide +kernel)⟩⟩, fun _ => ms_122, fun h => absurd h (by decide), fun h => absurd h (by decide), fun h => absurd h (by decide)⟩
theorem mtp_4_97 : mm_MTp (4, 97, 50, 1, 1) := ⟨by decide, fun _ => ⟨by decide +kernel, Or.inr ⟨"StagedCompiler", List.mem_of_getElem? (i := 38) (by decide +kernel)⟩⟩, fun h => absurd h (by decide), fun _ => ⟨mi_50, me_50⟩, fun h => absurd h (by decide), fun h => absurd h (by decide)⟩
theorem mtp_5_125 : mm_MTp (5, 125, 62, 1, 1) := ⟨by decide, fun _ => ⟨by decide +kernel, Or.inl (mm_mem 625 (by decide +kernel) (by decide +kernel))⟩, fun h => absurd h (by decide), fun _ => ⟨mi_62, me_62⟩, fun h => absurd h (by decide), fun h => absurd h (by decide)⟩
theorem mtp_5_129 : mm_MTp (5, 129, 63, 1, 1) := ⟨by decide, fun _ => ⟨by decide +kernel, Or.inl (mm_mem 621 (by decide +kernel) (by decide +kernel))⟩, fun h => absurd h (by decide), fun _ => ⟨mi_63, me_63⟩, fun h => absurd h (by decide), fun h => absurd h (by decide)⟩
theorem mtp_5_132 : mm_MTp (5, 132, 66, 1, 1) := ⟨by decide, fun _ => ⟨by decide +kernel, Or.inl (mm_mem 633 (by decide +kernel) (by decide +kernel))⟩, fun h => absurd h (by decide), fun _ => ⟨mi_66, me_66⟩, fun h => absurd h (by decide), fun h => absurd h (by decide)⟩
theorem mtp_5_136 : mm_MTp (5, 136, 65, 1, 1) := ⟨by decide, fun _ => ⟨by decide +kernel, Or.inl (mm_mem 617 (by decide +kernel) (by decide +kernel))⟩, fun h => absurd h (by decide), fun _ => ⟨mi_65, me_65⟩, fun h => absurd h (by decide), fun h => absurd h (by decide)⟩
theorem mtp_5_139 : mm_MTp (5, 139, 67, 3, 1) := ⟨by decide, fun _ => ⟨by decide +kernel, Or.inl (mm_mem 629 (by decide +kernel) (by decide +kernel))⟩, fun h => absurd h (by decide), fun _ => ⟨mi_67, me_67⟩, fun h => absurd h (by decide), fun h => absurd h (by decide)⟩
theorem mtp_5_143 : mm_MTp (5, 143, 64, 1, 1) := ⟨by decide, fun _ => ⟨by decide +kernel, Or.inl (mm_mem 641 (by decide +kernel) (by decide +kernel))⟩, fun h => absurd h (by decide), fun _ => ⟨mi_64, me_64⟩, fun h => absurd h (by decide), fun h => absurd h (by decide)⟩
theorem mtp_5_152 : mm_MTp (5, 152, 72, 1, 1) := ⟨by decide, fun _ => ⟨by decide +kernel, Or.inl (mm_mem 706 (by decide +kernel) (by decide +kernel))⟩, fun h => absurd h (by decide), fun _ => ⟨mi_72, me_72⟩, fun h => absurd h (by decide), fun h => absurd h (by decide)⟩
theorem mtp_5_156 : mm_MTp (5, 156, 73, 1, 1) := ⟨by decide, fun _ => ⟨by decide +kernel, Or.inl (mm_mem 711 (by decide +kernel) (by decide +kernel))⟩, fun h => absurd h (by decide), fun _ => ⟨mi_73, me_73⟩, fun h => absurd h (by decide), fun h => absurd h (by decide)⟩
theorem mtp_5_159 : mm_MTp (5, 159, 77, 1, 1) := ⟨by decide, fun _ => ⟨by decide +kernel, Or.inl (mm_mem 674 (by decide +kernel) (by decide +kernel))⟩, fun h => absurd h (by decide), fun _ => ⟨mi_77, me_77⟩, fun h => absurd h (by decide), fun h => absurd h (by decide)⟩
theorem mtp_5_162 : mm_MTp (5, 162, 75, 3, 1) := ⟨by decide, fun _ => ⟨by decide +kernel, Or.inl (mm_mem 657 (by decide +kernel) (by decide +kernel))⟩, fun h => absurd h (by decide), fun _ => ⟨mi_75, me_75⟩, fun h => absurd h (by decide), fun h => absurd h (by decide)⟩
theorem mtp_5_165 : mm_MTp (5, 165, 71, 1, 1) := ⟨by decide, fun _ => ⟨by decide +kernel, Or.inl (mm_mem 698 (by decide +kernel) (by decide +kernel))⟩, fun h => absurd h (by decide), fun _ => ⟨mi_71, me_71⟩, fun h => absurd h (by decide), fun h => absurd h (by decide)⟩
theorem mtp_5_168 : mm_MTp (5, 168, 74, 2, 1) := ⟨by decide, fun _ => ⟨by decide +kernel, Or.inl (mm_mem 702 (by decide +kernel) (by decide +kernel))⟩, fun h => absurd h (by decide), fun _ => ⟨mi_74, me_74⟩, fun h => absurd h (by decide), fun h => absurd h (by decide)⟩
theorem mtp_5_176 : mm_MTp (5, 176, 80, 4, 1) := ⟨by decide, fun _ => ⟨by decide +kernel, Or.inl (mm_mem 694 (by decide +kernel) (by decide +kernel))⟩, fun h => absurd h (by decide), fun _ => ⟨mi_80, me_80⟩, fun h => absurd h (by decide), fun h => absurd h (by decide)⟩
theorem mtp_5_180 : mm_MTp (5, 180, 81, 4, 1) := ⟨by decide, fun _ => ⟨by decide +kernel, Or.inl (mm_mem 716 (by decide +kernel) (by decide +kernel))⟩, fun h => absurd h (by decide), fun _ => ⟨mi_81, me_81⟩, fun h => absurd h (by decide), fun h => absurd h (by decide)⟩
theorem mtp_5_184 : mm_MTp (5, 184, 79, 5, 1) := ⟨by decide, fun _ => ⟨by decide +kernel, Or.inl (mm_mem 682 (by decide +kernel) (by decide +kernel))⟩, fun h => absurd h (by decide), fun _ => ⟨mi_79, me_79⟩, fun h => absurd h (by decide), fun h => absurd h (by decide)⟩
theorem mtp_5_188 : mm_MTp (5, 188, 70, 2, 1) := ⟨by decide, fun _ => ⟨by decide +kernel, Or.inl (mm_mem 661 (by decide +kernel) (by decide +kernel))⟩, fun h => absurd h (by decide), fun _ => ⟨mi_70, me_70⟩, fun h => absurd h (by decide), fun h => absurd h (by decide)⟩
theorem mtp_5_192 : mm_MTp (5, 192, 86, 4, 1) := ⟨by decide, fun _ => ⟨by decide +kernel, Or.inl (mm_mem 653 (by decide +kernel) (by decide +kernel))⟩, fun h => absurd h (by decide), fun _ => ⟨mi_86, me_86⟩, fun h => absurd h (by decide), fun h => absurd h (by decide)⟩
theorem mtp_5_196 : mm_MTp (5, 196, 85, 5, 1) := ⟨by decide, fun _ => ⟨by decide +kernel, Or.inl (mm_mem 649 (by decide +kernel) (by decide +kernel))⟩, fun h => absurd h (by decide), fun _ => ⟨mi_85, me_85⟩, fun h => absurd h (by decide), fun h => absurd h (by decide)⟩
theorem mtp_5_200 : mm_MTp (5, 200, 87, 4, 1) := ⟨by decide, fun _ => ⟨by decide +kernel, Or.inl (mm_mem 734 (by decide +kernel) (by decide +kernel))⟩, fun h => absurd h (by decide), fun _ => ⟨mi_87, me_87⟩, fun h => absurd h (by decide), fun h => absurd h (by decide)⟩
theorem mtp_5_204 : mm_MTp (5, 204, 76, 2, 1) := ⟨by decide, fun _ => ⟨by decide +kernel, Or.inl (mm_mem 686 (by decide +kernel) (by decide +kernel))⟩, fun h => absurd h (by decide), fun _ => ⟨mi_76, me_76⟩, fun h => absurd h (by decide), fun h => absurd h (by decide)⟩
theorem mtp_5_207 : mm_MTp (5, 207, 82, 2, 1) := ⟨by decide, fun _ => ⟨by decide +kernel, Or.inl (mm_mem 690 (by decide +kernel) (by decide +kernel))⟩, fun h => absurd h (by decide), fun _ => ⟨mi_82, me_82⟩, fun h => absurd h (by decide), fun h => absurd h (by decide)⟩
theorem mtp_5_211 : mm_MTp (5, 211, 83, 2, 1) := ⟨by decide, fun _ => ⟨by decide +kernel, Or.inl (mm_mem 722 (by decide +kernel) (by decide +kernel))⟩, fun h => absurd h (by decide), fun _ => ⟨mi_83, me_83⟩, fun h => absurd h (by decide), fun h => absurd h (by decide)⟩
theorem mtp_5_214 : mm_MTp (5, 214, 84, 2, 1) := ⟨by decide, fun _ => ⟨by decide +kernel, Or.inl (mm_mem 726 (by decide +kernel) (by decide +kernel))⟩, fun h => absurd h (by decide), fun _ => ⟨mi_84, me_84⟩, fun h => absurd h (by decide), fun h => absurd h (by decide)⟩
theorem mtp_5_217 : mm_MTp (5, 217, 88, 2, 1) := ⟨by decide, fun _ => ⟨by decide +kernel, Or.inl (mm_mem 730 (by decide +kernel) (by decide +kernel))⟩, fun h => absurd h (by decide), fun _ => ⟨mi_88, me_88⟩, fun h => absurd h (by decide), fun h => absurd h (by decide)⟩
theorem mtp_5_220 : mm_MTp (5, 220, 78, 2, 1) := ⟨by decide, fun _ => ⟨by decide +kernel, Or.inl (mm_mem 670 (by decide +kernel) (by decide +kernel))⟩, fun h => absurd h (by decide), fun _ => ⟨mi_78, me_78⟩, fun h => absurd h (by decide), fun h => absurd h (by decide)⟩
theorem mtp_5_223 : mm_MTp (5, 223, 89, 2, 1) := ⟨by decide, fun _ => ⟨by decide +kernel, Or.inl (mm_mem 678 (by decide +kernel) (by decide +kernel))⟩, fun h => absurd h (by decide), fun _ => ⟨mi_89, me_89⟩, fun h => absurd h (by decide), fun h => absurd h (by decide)⟩
theorem mtp_5_226 : mm_MTp (5, 226, 90, 1, 1) := ⟨by decide, fun _ => ⟨by decide +kernel, Or.inl (mm_mem 666 (by decide +kernel) (by decide +kernel))⟩, fun h => absurd h (by decide), fun _ => ⟨mi_90, me_90⟩, fun h => absurd h (by decide), fun h => absurd h (by decide)⟩
theorem mtp_5_232 : mm_MTp (5, 232, 93, 1, 1) := ⟨by decide, fun _ => ⟨by decide +kernel, Or.inl (mm_mem 751 (by decide +kernel) (by decide +kernel))⟩, fun h => absurd h (by decide), fun _ => ⟨mi_93, me_93⟩, fun h => absurd h (by decide), fun h => absurd h (by decide)⟩
theorem mtp_5_235 : mm_MTp (5, 235, 94, 1, 1) := ⟨by decide, fun _ => ⟨by decide +kernel, Or.inl (mm_mem 760 (by decide +kernel) (by decide +kernel))⟩, fun h => absurd h (by decide), fun _ => ⟨mi_94, me_94⟩, fun h => absurd h (by decide), fun h => absurd h (by decide)⟩
theorem mtp_5_241 : mm_MTp (5, 241, 99, 3, 1) := ⟨by decide, fun _ => ⟨by decide +kernel, Or.inl (mm_mem 746 (by decide +kernel) (by decide +kernel))⟩, fun h => absurd h (by decide), fun _ => ⟨mi_99, me_99⟩, fun h => absurd h (by decide), fun h => absurd h (by decide)⟩
theorem mtp_5_247 : mm_MTp (5, 247, 95, 1, 1) := ⟨by decide, fun _ => ⟨by decide +kernel, Or.inl (mm_mem 756 (by decide +kernel) (by decide +kernel))⟩, fun h => absurd h (by decide), fun _ => ⟨mi_95, me_95⟩, fun h => absurd h (by decide), fun h => absurd h (by decide)⟩
theorem mtp_5_250 : mm_MTp (5, 250, 96, 1, 1) := ⟨by decide, fun _ => ⟨by decide +kernel, Or.inl (mm_mem 764 (by decide +kernel) (by decide +kernel))⟩, fun h => absurd h (by decide), fun _ => ⟨mi_96, me_96⟩, fun h => absurd h (by decide), fun h => absurd h (by decide)⟩
theorem mtp_5_253 : mm_MTp (5, 253, 97, 1, 1) := ⟨by decide, fun _ => ⟨by decide +kernel, Or.inl (mm_mem 768 (by decide +kernel) (by decide +kernel))⟩, fun h => absurd h (by decide), fun _ => ⟨mi_97, me_97⟩, fun h => absurd h (by decide), fun h => absurd h (by decide)⟩
theorem mtp_5_256 : mm_MTp (5, 256, 98, 1, 1) := ⟨by decide, fun _ => ⟨by decide +kernel, Or.inl (mm_mem 772 (by decide +kernel) (by decide +kernel))⟩, fun h => absurd h (by decide), fun _ => ⟨mi_98, me_98⟩, fun h => absurd h (by decide), fun h => absurd h (by decide)⟩
theorem mtp_5_259 : mm_MTp (5, 259, 101, 1, 1) := ⟨by decide, fun _ => ⟨by decide +kernel, Or.inl (mm_mem 781 (by decide +kernel) (by decide +kernel))⟩, fun h => absurd h (by decide), fun _ => ⟨mi_101, me_101⟩, fun h => absurd h (by decide), fun h => absurd h (by decide)⟩
theorem mtp_7_9 : mm_MTp (7, 9, 112, 1, 0) := ⟨by decide, fun _ => ⟨by decide +kernel, Or.inl (mm_mem 211 (by decide +kernel) (by decide +kernel))⟩, fun _ => ms_112, fun h => absurd h (by decide), fun h => absurd h (by decide), fun h => absurd h (by decide)⟩
theorem mtp_7_13 : mm_MTp (7, 13, 113, 1, 0) := ⟨by decide, fun _ => ⟨by decide +kernel, Or.inl (mm_mem 214 (by decide +kernel) (by decide +kernel))⟩, fun _ => ms_113, fun h => absurd h (by decide), fun h => absurd h (by decide), fun h => absurd h (by decide)⟩
theorem mtp_7_16 : mm_MTp (7, 16, 114, 1, 0) := ⟨by decide, fun _ => ⟨by decide +kernel, Or.inl (mm_mem 246 (by decide +kernel) (by decide +kernel))⟩, fun _ => ms_114, fun h => absurd h (by decide), fun h => absurd h (by decide), fun h => absurd h (by decide)⟩
theorem mtp_7_19 : mm_MTp (7, 19, 115, 1, 0) := ⟨by decide, fun _ => ⟨by decide +kernel, Or.inl (mm_mem 243 (by decide +kernel) (by decide +kernel))⟩, fun _ => ms_115, fun h => absurd h (by decide), fun h => absurd h (by decide), fun h => absurd h (by decide)⟩
theorem mtp_7_26 : mm_MTp (7, 26, 117, 1, 0) := ⟨by decide, fun _ => ⟨by decide +kernel, Or.inl (mm_mem 326 (by decide +kernel) (by decide +kernel))⟩, fun _ => ms_117, fun h => absurd h (by decide), fun h => absurd h (by decide), fun h => absurd h (by decide)⟩
theorem mtp_7_30 : mm_MTp (7, 30, 118, 1, 0) := ⟨by decide, fun _ => ⟨by decide +kernel, Or.inl (mm_mem 330 (by decide +kernel) (by decide +kernel))⟩, fun _ => ms_118, fun h => absurd h (by decide), fun h => absurd h (by decide), fun h => absurd h (by decide)⟩
theorem mtp_8_11 : mm_MTp (8, 11, 122, 2, 0) := ⟨by decide, fun _ => ⟨by decide +kernel, Or.inl (mm_mem 384 (by decide +kernel) (by decide +kernel))⟩, fun _ => ms_122, fun h => absurd h (by decide), fun h => absurd h (by decide), fun h => absurd h (by decide)⟩
theorem mtp_8_19 : mm_MTp (8, 19, 123, 2, 0) := ⟨by decide, fun _ => ⟨by decide +kernel, Or.inl (mm_mem 390 (by decide +kernel) (by decide +kernel))⟩, fun _ => ms_123, fun h => absurd h (by decide), fun h => absurd h (by decide), fun h => absurd h (by decide)⟩
theorem mtp_8_22 : mm_MTp (8, 22, 124, 2, 0) := ⟨by decide, fun _ => ⟨by decide +kernel, Or.inl (mm_mem 394 (by decide +kernel) (by decide +kernel))⟩, fun _ => ms_124, fun h => absurd h (by decide), fun h => absurd h (by decide), fun h => absurd h (by decide)⟩
theorem mtp_8_25 : mm_MTp (8, 25, 119, 2, 0) := ⟨by decide, fun _ => ⟨by decide +kernel, Or.inr ⟨"StagedCompiler", List.mem_of_getElem? (i := 39) (by decide +kernel)⟩⟩, fun _ => ms_119, fun h => absurd h (by decide), fun h => absurd h (by decide), fun h => absurd h (by decide)⟩
theorem mtp_8_39 : mm_MTp (8, 39, 117, 1, 0) := ⟨by decide, fun _ => ⟨by decide +kernel, Or.inr ⟨"StagedCompiler", List.mem_of_getElem? (i := 40) (by decide +kernel)⟩⟩, fun _ => ms_117, fun h => absurd h (by decide), fun h => absurd h (by decide), fun h => absurd h (by decide)⟩
theorem mtp_8_43 : mm_MTp (8, 43, 118, 1, 0) := ⟨by decide, fun _ => ⟨by decide +kernel, Or.inr ⟨"StagedCompiler", List.mem_of_getElem? (i := 41) (by decide +kernel)⟩⟩, fun _ => ms_118, fun h => absurd h (by decide), fun h => absurd h (by decide), fun h => absurd h (by decide)⟩
theorem mtp_9_9 : mm_MTp (9, 9, 0, 0, 2) := ⟨by decide, fun _ => ⟨by decide +kernel, Or.inl (mm_mem 13 (by decide +kernel) (by decide +kernel))⟩, fun h => absurd h (by decide), fun h => absurd h (by decide), fun _ => ⟨rfl, mi_0, rfl⟩, fun h => absurd h (by decide)⟩
theorem mtp_9_12 : mm_MTp (9, 12, 5, 0, 2) := ⟨by decide, fun _ => ⟨by decide +kernel, Or.inl (mm_mem 497 (by decide +kernel) (by decide +kernel))⟩, fun h => absurd h (by decide), fun h => absurd h (by decide), fun _ => ⟨rfl, mi_5, rfl⟩, fun h => absurd h (by decide)⟩
theorem mtp_9_13 : mm_MTp (9, 13, 8, 4, 1) := ⟨by decide, fun _ => ⟨by decide +kernel, Or.inl (mm_mem 189 (by decide +kernel) (by decide +kernel))⟩, fun h => absurd h (by decide), fun _ => ⟨mi_8, me_8⟩, fun h => absurd h (by decide), fun h => absurd h (by decide)⟩
theorem mtp_9_17 : mm_MTp (9, 17, 68, 4, 1) := ⟨by decide, fun _ => ⟨by decide +kernel, Or.inl (mm_mem 613 (by decide +kernel) (by decide +kernel))⟩, fun h => absurd h (by decide), fun _ => ⟨mi_68, me_68⟩, fun h => absurd h (by decide), fun h => absurd h (by decide)⟩
theorem mtp_9_18 : mm_MTp (9, 18, 9, 5, 1) := ⟨by decide, fun _ => ⟨by decide +kernel, Or.inl (mm_mem 232 (by decide +kernel) (by decide +kernel))⟩, fun h => absurd h (by decide), fun _ => ⟨mi_9, me_9⟩, fun h => absurd h (by decide), fun h => absurd h (by decide)⟩
theorem mtp_9_22 : mm_MTp (9, 22, 69, 5, 1) := ⟨by decide, fun _ => ⟨by decide +kernel, Or.inl (mm_mem 637 (by decide +kernel) (by decide +kernel))⟩, fun h => absurd h (by decide), fun _ => ⟨mi_69, me_69⟩, fun h => absurd h (by decide), fun h => absurd h (by decide)⟩
theorem mtp_9_23 : mm_MTp (9, 23, 10, 3, 1) := ⟨by decide, fun _ => ⟨by decide +kernel, Or.inl (mm_mem 248 (by decide +kernel) (by decide +kernel))⟩, fun h => absurd h (by decide), fun _ => ⟨mi_10, me_10⟩, fun h => absurd h (by decide), fun h => absurd h (by decide)⟩
theorem mtp_9_27 : mm_MTp (9, 27, 91, 3, 1) := ⟨by decide, fun _ => ⟨by decide +kernel, Or.inl (mm_mem 645 (by decide +kernel) (by decide +kernel))⟩, fun h => absurd h (by decide), fun _ => ⟨mi_91, me_91⟩, fun h => absurd h (by decide), fun h => absurd h (by decide)⟩
theorem mtp_9_28 : mm_MTp (9, 28, 11, 0, 1) := ⟨by decide, fun _ => ⟨by decide +kernel, Or.inl (mm_mem 410 (by decide +kernel) (by decide +kernel))⟩, fun h => absurd h (by decide), fun _ => ⟨mi_11, me_11⟩, fun h => absurd h (by decide), fun h => absurd h (by decide)⟩
theorem mtp_9_32 : mm_MTp (9, 32, 92, 0, 1) := ⟨by decide, fun _ => ⟨by decide +kernel, Or.inl (mm_mem 738 (by decide +kernel) (by decide +kernel))⟩, fun h => absurd h (by decide), fun _ => ⟨mi_92, me_92⟩, fun h => absurd h (by decide), fun h => absurd h (by decide)⟩
theorem mtp_9_33 : mm_MTp (9, 33, 12, 1, 1) := ⟨by decide, fun _ => ⟨by decide +kernel, Or.inl (mm_mem 414 (by decide +kernel) (by decide +kernel))⟩, fun h => absurd h (by decide), fun _ => ⟨mi_12, me_12⟩, fun h => absurd h (by decide), fun h => absurd h (by decide)⟩
theorem mtp_9_37 : mm_MTp (9, 37, 102, 1, 1) := ⟨by decide, fun _ => ⟨by decide +kernel, Or.inl (mm_mem 777 (by decide +kernel) (by decide +kernel))⟩, fun h => absurd h (by decide), fun _ => ⟨mi_102, me_102⟩, fun h => absurd h (by decide), fun h => absurd h (by decide)⟩
theorem mtp_9_38 : mm_MTp (9, 38, 13, 2, 1) := ⟨by decide, fun _ => ⟨by decide +kernel, Or.inl (mm_mem 422 (by decide +kernel) (by decide +kernel))⟩, fun h => absurd h (by decide), fun _ => ⟨mi_13, me_13⟩, fun h => absurd h (by decide), fun h => absurd h (by decide)⟩
theorem mtp_9_42 : mm_MTp (9, 42, 103, 2, 1) := ⟨by decide, fun _ => ⟨by decide +kernel, Or.inl (mm_mem 785 (by decide +kernel) (by decide +kernel))⟩, fun h => absurd h (by decide), fun _ => ⟨mi_103, me_103⟩, fun h => absurd h (by decide), fun h => absurd h (by decide)⟩
theorem mtp_9_43 : mm_MTp (9, 43, 14, 2, 1) := ⟨by decide, fun _ => ⟨by decide +kernel, Or.inl (mm_mem 427 (by decide +kernel) (by decide +kernel))⟩, fun h => absurd h (by decide), fun _ => ⟨mi_14, me_14⟩, fun h => absurd h (by decide), fun h => absurd h (by decide)⟩
theorem mtp_9_47 : mm_MTp (9, 47, 104, 2, 1) := ⟨by decide, fun _ => ⟨by decide +kernel, Or.inl (mm_mem 789 (by decide +kernel) (by decide +kernel))⟩, fun h => absurd h (by decide), fun _ => ⟨mi_104, me_104⟩, fun h => absurd h (by decide), fun h => absurd h (by decide)⟩
theorem mtp_9_48 : mm_MTp (9, 48, 15, 2, 1) := ⟨by decide, fun _ => ⟨by decide +kernel, Or.inl (mm_mem 432 (by decide +kernel) (by decide +kernel))⟩, fun h => absurd h (by decide), fun _ => ⟨mi_15, me_15⟩, fun h => absurd h (by decide), fun h => absurd h (by decide)⟩
theorem mtp_9_51 : mm_MTp (9, 51, 105, 2, 1) := ⟨by decide, fun _ => ⟨by decide +kernel, Or.inl (mm_mem 793 (by decide +kernel) (by decide +kernel))⟩, fun h => absurd h (by decide), fun _ => ⟨mi_105, me_105⟩, fun h => absurd h (by decide), fun h => absurd h (by decide)⟩
theorem mtp_9_52 : mm_MTp (9, 52, 16, 1, 1) := ⟨by decide, fun _ => ⟨by decide +kernel, Or.inl (mm_mem 436 (by decide +kernel) (by decide +kernel))⟩, fun h => absurd h (by decide), fun _ => ⟨mi_16, me_16⟩, fun h => absurd h (by decide), fun h => absurd h (by decide)⟩
theorem mtp_9_55 : mm_MTp (9, 55, 106, 1, 1) := ⟨by decide, fun _ => ⟨by decide +kernel, Or.inl (mm_mem 797 (by decide +kernel) (by decide +kernel))⟩, fun h => absurd h (by decide), fun _ => ⟨mi_106, me_106⟩, fun h => absurd h (by decide), fun h => absurd h (by decide)⟩
theorem mtp_9_56 : mm_MTp (9, 56, 17, 3, 1) := ⟨by decide, fun _ => ⟨by decide +kernel, Or.inl (mm_mem 448 (by decide +kernel) (by decide +kernel))⟩, fun h => absurd h (by decide), fun _ => ⟨mi_17, me_17⟩, fun h => absurd h (by decide), fun h => absurd h (by decide)⟩
theorem mtp_9_60 : mm_MTp (9, 60, 100, 3, 1) := ⟨by decide, fun _ => ⟨by decide +kernel, Or.inl (mm_mem 742 (by decide +kernel) (by decide +kernel))⟩, fun h => absurd h (by decide), fun _ => ⟨mi_100, me_100⟩, fun h => absurd h (by decide), fun h => absurd h (by decide)⟩
theorem mtp_9_61 : mm_MTp (9, 61, 18, 1, 1) := ⟨by decide, fun _ => ⟨by decide +kernel, Or.inl (mm_mem 491 (by decide +kernel) (by decide +kernel))⟩, fun h => absurd h (by decide), fun _ => ⟨mi_18, me_18⟩, fun h => absurd h (by decide), fun h => absurd h (by decide)⟩
theorem mtp_9_64 : mm_MTp (9, 64, 107, 1, 1) := ⟨by decide, fun _ => ⟨by decide +kernel, Or.inl (mm_mem 801 (by decide +kernel) (by decide +kernel))⟩, fun h => absurd h (by decide), fun _ => ⟨mi_107, me_107⟩, fun h => absurd h (by decide), fun h => absurd h (by decide)⟩
theorem mtp_g0 : ∀ q ∈ ([(0, 1, 7, 0, 3), (0, 9, 1, 0, 2), (0, 12, 2, 1, 2), (0, 31, 4, 2, 2), (1, 3, 7, 0, 3), (2, 3, 7, 0, 3), (2, 21, 3, 0, 2), (3, 3, 7, 0, 3), (4, 3, 7, 0, 3), (5, 1, 7, 0, 3), (0, 38, 21, 4, 1), (0, 42, 26, 5, 1), (0, 46, 20, 1, 1), (0, 50, 29, 3, 1), (0, 58, 28, 1, 1), (0, 78, 19, 1, 1), (0, 91, 27, 1, 1), (0, 95, 51, 2, 1), (0, 99, 56, 3, 1), (1, 50, 108, 1, 0), (1, 56, 22, 4, 1), (1, 60, 24, 4, 1), (1, 64, 19, 1, 1), (1, 67, 114, 1, 0), (1, 72, 23, 1, 1)] : List (Nat × Nat × Nat × Nat × Nat)), mm_MTp q := List.forall_mem_cons.mpr ⟨mtp_0_1, List.forall_mem_cons.mpr ⟨mtp_0_9, List.forall_mem_cons.mpr ⟨mtp_0_12, List.forall_mem_cons.mpr ⟨mtp_0_31, List.forall_mem_cons.mpr ⟨mtp_1_3, List.forall_mem_cons.mpr ⟨mtp_2_3, List.forall_mem_cons.mpr ⟨mtp_2_21, List.forall_mem_cons.mpr ⟨mtp_3_3, List.forall_mem_cons.mpr ⟨mtp_4_3, List.forall_mem_cons.mpr ⟨mtp_5_1, List.forall_mem_cons.mpr ⟨mtp_0_38, List.forall_mem_cons.mpr ⟨mtp_0_42, List.forall_mem_cons.mpr ⟨mtp_0_46, List.forall_mem_cons.mpr ⟨mtp_0_50, List.forall_mem_cons.mpr ⟨mtp_0_58, List.forall_mem_cons.mpr ⟨mtp_0_78, List.forall_mem_cons.mpr ⟨mtp_0_91, List.forall_mem_cons.mpr ⟨mtp_0_95, List.forall_mem_cons.mpr ⟨mtp_0_99, List.forall_mem_cons.mpr ⟨mtp_1_50, List.forall_mem_cons.mpr ⟨mtp_1_56, List.forall_mem_cons.mpr ⟨mtp_1_60, List.forall_mem_cons.mpr ⟨mtp_1_64, List.forall_mem_cons.mpr ⟨mtp_1_67, List.forall_mem_cons.mpr ⟨mtp_1_72, fun _ h => absurd h List.not_mem_nil⟩⟩⟩⟩⟩⟩⟩⟩⟩⟩⟩⟩⟩⟩⟩⟩⟩⟩⟩⟩⟩⟩⟩⟩⟩
theorem mtp_g1 : ∀ q ∈ ([(1, 81, 25, 1, 1), (1, 85, 116, 1, 0), (1, 88, 115, 1, 0), (1, 91, 111, 1, 0), (1, 94, 52, 1, 1), (2, 32, 31, 3, 1), (2, 36, 30, 3, 1), (2, 49, 33, 2, 1), (2, 56, 32, 4, 1), (2, 60, 48, 3, 1), (2, 64, 46, 4, 1), (2, 73, 112, 1, 0), (2, 81, 119, 2, 0), (2, 85, 52, 1, 1), (2, 94, 54, 3, 1), (2, 98, 34, 2, 1), (2, 101, 38, 2, 1), (2, 104, 39, 2, 1), (2, 107, 40, 2, 1), (2, 110, 45, 2, 1), (2, 113, 35, 2, 1), (2, 122, 53, 2, 1), (2, 129, 36, 4, 1), (2, 132, 37, 3, 1), (2, 138, 109, 1, 0)] : List (Nat × Nat × Nat × Nat × Nat)), mm_MTp q := List.forall_mem_cons.mpr ⟨mtp_1_81, List.forall_mem_cons.mpr ⟨mtp_1_85, List.forall_mem_cons.mpr ⟨mtp_1_88, List.forall_mem_cons.mpr ⟨mtp_1_91, List.forall_mem_cons.mpr ⟨mtp_1_94, List.forall_mem_cons.mpr ⟨mtp_2_32, List.forall_mem_cons.mpr ⟨mtp_2_36, List.forall_mem_cons.mpr ⟨mtp_2_49, List.forall_mem_cons.mpr ⟨mtp_2_56, List.forall_mem_cons.mpr ⟨mtp_2_60, List.forall_mem_cons.mpr ⟨mtp_2_64, List.forall_mem_cons.mpr ⟨mtp_2_73, List.forall_mem_cons.mpr ⟨mtp_2_81, List.forall_mem_cons.mpr ⟨mtp_2_85, List.forall_mem_cons.mpr ⟨mtp_2_94, List.forall_mem_cons.mpr ⟨mtp_2_98, List.forall_mem_cons.mpr ⟨mtp_2_101, List.forall_mem_cons.mpr ⟨mtp_2_104, List.forall_mem_cons.mpr ⟨mtp_2_107, List.forall_mem_cons.mpr ⟨mtp_2_110, List.forall_mem_cons.mpr ⟨mtp_2_113, List.forall_mem_cons.mpr ⟨mtp_2_122, List.forall_mem_cons.mpr ⟨mtp_2_129, List.forall_mem_cons.mpr ⟨mtp_2_132, List.forall_mem_cons.mpr ⟨mtp_2_138, fun _ h => absurd h List.not_mem_nil⟩⟩⟩⟩⟩⟩⟩⟩⟩⟩⟩⟩⟩⟩⟩⟩⟩⟩⟩⟩⟩⟩⟩⟩⟩
theorem mtp_g2 : ∀ q ∈ ([(2, 141, 110, 1, 0), (2, 148, 121, 4, 0), (2, 154, 120, 1, 0), (2, 163, 55, 2, 1), (2, 166, 47, 1, 1), (2, 170, 20, 1, 1), (2, 176, 41, 2, 1), (2, 182, 42, 3, 1), (2, 186, 43, 2, 1), (2, 190, 44, 4, 1), (3, 49, 47, 1, 1), (3, 56, 113, 1, 0), (3, 62, 49, 2, 1), (3, 66, 50, 1, 1), (3, 69, 119, 2, 0), (4, 37, 57, 5, 1), (4, 57, 59, 5, 1), (4, 60, 60, 5, 1), (4, 63, 61, 5, 1), (4, 66, 58, 5, 1), (4, 69, 120, 1, 0), (4, 81, 121, 4, 0), (4, 88, 122, 2, 0), (4, 97, 50, 1, 1), (5, 125, 62, 1, 1)] : List (Nat × Nat × Nat × Nat × Nat)), mm_MTp q := List.forall_mem_cons.mpr ⟨mtp_2_141, List.forall_mem_cons.mpr ⟨mtp_2_148, List.forall_mem_cons.mpr ⟨mtp_2_154, List.forall_mem_cons.mpr ⟨mtp_2_163, List.forall_mem_cons.mpr ⟨mtp_2_166, List.forall_mem_cons.mpr ⟨mtp_2_170, List.forall_mem_cons.mpr ⟨mtp_2_176, List.forall_mem_cons.mpr ⟨mtp_2_182, List.forall_mem_cons.mpr ⟨mtp_2_186, List.forall_mem_cons.mpr ⟨mtp_2_190, List.forall_mem_cons.mpr ⟨mtp_3_49, List.forall_mem_cons.mpr ⟨mtp_3_56, List.forall_mem_cons.mpr ⟨mtp_3_62, List.forall_mem_cons.mpr ⟨mtp_3_66, List.forall_mem_cons.mpr ⟨mtp_3_69, List.forall_mem_cons.mpr ⟨mtp_4_37, List.forall_mem_cons.mpr ⟨mtp_4_57, List.forall_mem_cons.mpr ⟨mtp_4_60, List.forall_mem_cons.mpr ⟨mtp_4_63, List.forall_mem_cons.mpr ⟨mtp_4_66, List.forall_mem_cons.mpr ⟨mtp_4_69, List.forall_mem_cons.mpr ⟨mtp_4_81, List.forall_mem_cons.mpr ⟨mtp_4_88, List.forall_mem_cons.mpr ⟨mtp_4_97, List.forall_mem_cons.mpr ⟨mtp_5_125, fun _ h => absurd h List.not_mem_nil⟩⟩⟩⟩⟩⟩⟩⟩⟩⟩⟩⟩⟩⟩⟩⟩⟩⟩⟩⟩⟩⟩⟩⟩⟩
theorem mtp_g3 : ∀ q ∈ ([(5, 129, 63, 1, 1), (5, 132, 66, 1, 1), (5, 136, 65, 1, 1), (5, 139, 67, 3, 1), (5, 143, 64, 1, 1), (5, 152, 72, 1, 1), (5, 156, 73, 1, 1), (5, 159, 77, 1, 1), (5, 162, 75, 3, 1), (5, 165, 71, 1, 1), (5, 168, 74, 2, 1), (5, 176, 80, 4, 1), (5, 180, 81, 4, 1), (5, 184, 79, 5, 1), (5, 188, 70, 2, 1), (5, 192, 86, 4, 1), (5, 196, 85, 5, 1), (5, 200, 87, 4, 1), (5, 204, 76, 2, 1), (5, 207, 82, 2, 1), (5, 211, 83, 2, 1), (5, 214, 84, 2, 1), (5, 217, 88, 2, 1), (5, 220, 78, 2, 1), (5, 223, 89, 2, 1)] : List (Nat × Nat × Nat × Nat × Nat)), mm_MTp q := List.forall_mem_cons.mpr ⟨mtp_5_129, List.forall_mem_cons.mpr ⟨mtp_5_132, List.forall_mem_cons.mpr ⟨mtp_5_136, List.forall_mem_cons.mpr ⟨mtp_5_139, List.forall_mem_cons.mpr ⟨mtp_5_143, List.forall_mem_cons.mpr ⟨mtp_5_152, List.forall_mem_cons.mpr ⟨mtp_5_156, List.forall_mem_cons.mpr ⟨mtp_5_159, List.forall_mem_cons.mpr ⟨mtp_5_162, List.forall_mem_cons.mpr ⟨mtp_5_165, List.forall_mem_cons.mpr ⟨mtp_5_168, List.forall_mem_cons.mpr ⟨mtp_5_176, List.forall_mem_cons.mpr ⟨mtp_5_180, List.forall_mem_cons.mpr ⟨mtp_5_184, List.forall_mem_cons.mpr ⟨mtp_5_188, List.forall_mem_cons.mpr ⟨mtp_5_192, List.forall_mem_cons.mpr ⟨mtp_5_196, List.forall_mem_cons.mpr ⟨mtp_5_200, List.forall_mem_cons.mpr ⟨mtp_5_204, List.forall_mem_cons.mpr ⟨mtp_5_207, List.forall_mem_cons.mpr ⟨mtp_5_211, List.forall_mem_cons.mpr ⟨mtp_5_214, List.forall_mem_cons.mpr ⟨mtp_5_217, List.forall_mem_cons.mpr ⟨mtp_5_220, List.forall_mem_cons.mpr ⟨mtp_5_223, fun _ h => absurd h List.not_mem_nil⟩⟩⟩⟩⟩⟩⟩⟩⟩⟩⟩⟩⟩⟩⟩⟩⟩⟩⟩⟩⟩⟩⟩⟩⟩
theorem mtp_g4 : ∀ q ∈ ([(5, 226, 90, 1, 1), (5, 232, 93, 1, 1), (5, 235, 94, 1, 1), (5, 241, 99, 3, 1), (5, 247, 95, 1, 1), (5, 250, 96, 1, 1), (5, 253, 97, 1, 1), (5, 256, 98, 1, 1), (5, 259, 101, 1, 1), (7, 9, 112, 1, 0), (7, 13, 113, 1, 0), (7, 16, 114, 1, 0), (7, 19, 115, 1, 0), (7, 26, 117, 1, 0), (7, 30, 118, 1, 0), (8, 11, 122, 2, 0), (8, 19, 123, 2, 0), (8, 22, 124, 2, 0), (8, 25, 119, 2, 0), (8, 39, 117, 1, 0), (8, 43, 118, 1, 0), (9, 9, 0, 0, 2), (9, 12, 5, 0, 2), (9, 13, 8, 4, 1), (9, 17, 68, 4, 1)] : List (Nat × Nat × Nat × Nat × Nat)), mm_MTp q := List.forall_mem_cons.mpr ⟨mtp_5_226, List.forall_mem_cons.mpr ⟨mtp_5_232, List.forall_mem_cons.mpr ⟨mtp_5_235, List.forall_mem_cons.mpr ⟨mtp_5_241, List.forall_mem_cons.mpr ⟨mtp_5_247, List.forall_mem_cons.mpr ⟨mtp_5_250, List.forall_mem_cons.mpr ⟨mtp_5_253, List.forall_mem_cons.mpr ⟨mtp_5_256, List.forall_mem_cons.mpr ⟨mtp_5_259, List.forall_mem_cons.mpr ⟨mtp_7_9, List.forall_mem_cons.mpr ⟨mtp_7_13, List.forall_mem_cons.mpr ⟨mtp_7_16, List.forall_mem_cons.mpr ⟨mtp_7_19, List.forall_mem_cons.mpr ⟨mtp_7_26, List.forall_mem_cons.mpr ⟨mtp_7_30, List.forall_mem_cons.mpr ⟨mtp_8_11, List.forall_mem_cons.mpr ⟨mtp_8_19, List.forall_mem_cons.mpr ⟨mtp_8_22, List.forall_mem_cons.mpr ⟨mtp_8_25, List.forall_mem_cons.mpr ⟨mtp_8_39, List.forall_mem_cons.mpr ⟨mtp_8_43, List.forall_mem_cons.mpr ⟨mtp_9_9, List.forall_mem_cons.mpr ⟨mtp_9_12, List.forall_mem_cons.mpr ⟨mtp_9_13, List.forall_mem_cons.mpr ⟨mtp_9_17, fun _ h => absurd h List.not_mem_nil⟩⟩⟩⟩⟩⟩⟩⟩⟩⟩⟩⟩⟩⟩⟩⟩⟩⟩⟩⟩⟩⟩⟩⟩⟩
theorem mtp_g5 : ∀ q ∈ ([(9, 18, 9, 5, 1), (9, 22, 69, 5, 1), (9, 23, 10, 3, 1), (9, 27, 91, 3, 1), (9, 28, 11, 0, 1), (9, 32, 92, 0, 1), (9, 33, 12, 1, 1), (9, 37, 102, 1, 1), (9, 38, 13, 2, 1), (9, 42, 103, 2, 1), (9, 43, 14, 2, 1), (9, 47, 104, 2, 1), (9, 48, 15, 2, 1), (9, 51, 105, 2, 1), (9, 52, 16, 1, 1), (9, 55, 106, 1, 1), (9, 56, 17, 3, 1), (9, 60, 100, 3, 1), (9, 61, 18, 1, 1), (9, 64, 107, 1, 1)] : List (Nat × Nat × Nat × Nat × Nat)), mm_MTp q := List.forall_mem_cons.mpr ⟨mtp_9_18, List.forall_mem_cons.mpr ⟨mtp_9_22, List.forall_mem_cons.mpr ⟨mtp_9_23, List.forall_mem_cons.mpr ⟨mtp_9_27, List.forall_mem_cons.mpr ⟨mtp_9_28, List.forall_mem_cons.mpr ⟨mtp_9_32, List.forall_mem_cons.mpr ⟨mtp_9_33, List.forall_mem_cons.mpr ⟨mtp_9_37, List.forall_mem_cons.mpr ⟨mtp_9_38, List.forall_mem_cons.mpr ⟨mtp_9_42, List.forall_mem_cons.mpr ⟨mtp_9_43, List.forall_mem_cons.mpr ⟨mtp_9_47, List.forall_mem_cons.mpr ⟨mtp_9_48, List.forall_mem_cons.mpr ⟨mtp_9_51, List.forall_mem_cons.mpr ⟨mtp_9_52, List.forall_mem_cons.mpr ⟨mtp_9_55, List.forall_mem_cons.mpr ⟨mtp_9_56, List.forall_mem_cons.mpr ⟨mtp_9_60, List.forall_mem_cons.mpr ⟨mtp_9_61, List.forall_mem_cons.mpr ⟨mtp_9_64, fun _ h => absurd h List.not_mem_nil⟩⟩⟩⟩⟩⟩⟩⟩⟩⟩⟩⟩⟩⟩⟩⟩⟩⟩⟩⟩
theorem mtp_all : ∀ q ∈ mm_MTs, mm_MTp q := by
  intro q hq
  have e : mm_MTs = ([(0, 1, 7, 0, 3), (0, 9, 1, 0, 2), (0, 12, 2, 1, 2), (0, 31, 4, 2, 2), (1, 3, 7, 0, 3), (2, 3, 7, 0, 3), (2, 21, 3, 0, 2), (3, 3, 7, 0, 3), (4, 3, 7, 0, 3), (5, 1, 7, 0, 3), (0, 38, 21, 4, 1), (0, 42, 26, 5, 1), (0, 46, 20, 1, 1), (0, 50, 29, 3, 1), (0, 58, 28, 1, 1), (0, 78, 19, 1, 1), (0, 91, 27, 1, 1), (0, 95, 51, 2, 1), (0, 99, 56, 3, 1), (1, 50, 108, 1, 0), (1, 56, 22, 4, 1), (1, 60, 24, 4, 1), (1, 64, 19, 1, 1), (1, 67, 114, 1, 0), (1, 72, 23, 1, 1)] : List (Nat × Nat × Nat × Nat × Nat)) ++ (([(1, 81, 25, 1, 1), (1, 85, 116, 1, 0), (1, 88, 115, 1, 0), (1, 91, 111, 1, 0), (1, 94, 52, 1, 1), (2, 32, 31, 3, 1), (2, 36, 30, 3, 1), (2, 49, 33, 2, 1), (2, 56, 32, 4, 1), (2, 60, 48, 3, 1), (2, 64, 46, 4, 1), (2, 73, 112, 1, 0), (2, 81, 119, 2, 0), (2, 85, 52, 1, 1), (2, 94, 54, 3, 1), (2, 98, 34, 2, 1), (2, 101, 38, 2, 1), (2, 104, 39, 2, 1), (2, 107, 40, 2, 1), (2, 110, 45, 2, 1), (2, 113, 35, 2, 1), (2, 122, 53, 2, 1), (2, 129, 36, 4, 1), (2, 132, 37, 3, 1), (2, 138, 109, 1, 0)] : List (Nat × Nat × Nat × Nat × Nat)) ++ (([(2, 141, 110, 1, 0), (2, 148, 121, 4, 0), (2, 154, 120, 1, 0), (2, 163, 55, 2, 1), (2, 166, 47, 1, 1), (2, 170, 20, 1, 1), (2, 176, 41, 2, 1), (2, 182, 42, 3, 1), (2, 186, 43, 2, 1), (2, 190, 44, 4, 1), (3, 49, 47, 1, 1), (3, 56, 113, 1, 0), (3, 62, 49, 2, 1), (3, 66, 50, 1, 1), (3, 69, 119, 2, 0), (4, 37, 57, 5, 1), (4, 57, 59, 5, 1), (4, 60, 60, 5, 1), (4, 63, 61, 5, 1), (4, 66, 58, 5, 1), (4, 69, 120, 1, 0), (4, 81, 121, 4, 0), (4, 88, 122, 2, 0), (4, 97, 50, 1, 1), (5, 125, 62, 1, 1)] : List (Nat × Nat × Nat × Nat × Nat)) ++ (([(5, 129, 63, 1, 1), (5, 132, 66, 1, 1), (5, 136, 65, 1, 1), (5, 139, 67, 3, 1), (5, 143, 64, 1, 1), (5, 152, 72, 1, 1), (5, 156, 73, 1, 1), (5, 159, 77, 1, 1), (5, 162, 75, 3, 1), (5, 165, 71, 1, 1), (5, 168, 74, 2, 1), (5, 176, 80, 4, 1), (5, 180, 81, 4, 1), (5, 184, 79, 5, 1), (5, 188, 70, 2, 1), (5, 192, 86, 4, 1), (5, 196, 85, 5, 1), (5, 200, 87, 4, 1), (5, 204, 76, 2, 1), (5, 207, 82, 2, 1), (5, 211, 83, 2, 1), (5, 214, 84, 2, 1), (5, 217, 88, 2, 1), (5, 220, 78, 2, 1), (5, 223, 89, 2, 1)] : List (Nat × Nat × Nat × Nat × Nat)) ++ (([(5, 226, 90, 1, 1), (5, 232, 93, 1, 1), (5, 235, 94, 1, 1), (5, 241, 99, 3, 1), (5, 247, 95, 1, 1), (5, 250, 96, 1, 1), (5, 253, 97, 1, 1), (5, 256, 98, 1, 1), (5, 259, 101, 1, 1), (7, 9, 112, 1, 0), (7, 13, 113, 1, 0), (7, 16, 114, 1, 0), (7, 19, 115, 1, 0), (7, 26, 117, 1, 0), (7, 30, 118, 1, 0), (8, 11, 122, 2, 0), (8, 19, 123, 2, 0), (8, 22, 124, 2, 0), (8, 25, 119, 2, 0), (8, 39, 117, 1, 0), (8, 43, 118, 1, 0), (9, 9, 0, 0, 2), (9, 12, 5, 0, 2), (9, 13, 8, 4, 1), (9, 17, 68, 4, 1)] : List (Nat × Nat × Nat × Nat × Nat)) ++ (([(9, 18, 9, 5, 1), (9, 22, 69, 5, 1), (9, 23, 10, 3, 1), (9, 27, 91, 3, 1), (9, 28, 11, 0, 1), (9, 32, 92, 0, 1), (9, 33, 12, 1, 1), (9, 37, 102, 1, 1), (9, 38, 13, 2, 1), (9, 42, 103, 2, 1), (9, 43, 14, 2, 1), (9, 47, 104, 2, 1), (9, 48, 15, 2, 1), (9, 51, 105, 2, 1), (9, 52, 16, 1, 1), (9, 55, 106, 1, 1), (9, 56, 17, 3, 1), (9, 60, 100, 3, 1), (9, 61, 18, 1, 1), (9, 64, 107, 1, 1)] : List (Nat × Nat × Nat × Nat × Nat))))))) := rfl
  rw [e] at hq
  rcases List.mem_append.mp hq with hq | hq
  · exact mtp_g0 q hq
  rcases List.mem_append.mp hq with hq | hq
  · exact mtp_g1 q hq
  rcases List.mem_append.mp hq with hq | hq
  · exact mtp_g2 q hq
  rcases List.mem_append.mp hq with hq | hq
  · exact mtp_g3 q hq
  rcases List.mem_append.mp hq with hq | hq
  · exact mtp_g4 q hq
  exact mtp_g5 q hq
theorem mm_MTok {o ix id n kd : Nat} (h : mm_MT o ix = some (id, n, kd)) (h3 : kd ≠ 3) : Cond.code (mm_y id) (mm_cc id) (mm_ml id) (mm_rt id) ∈ mm_T ∧ Cond.initialized (mm_y id).cls ∈ mm_T ∧ ((mm_y id).cls ≠ "java/lang/invoke/MethodHandle" ∧ (mm_y id).cls ≠ "java/lang/invoke/VarHandle" ∧ (parseMethodDescriptor (mm_y id).desc).map (fun d => d.parameters.length) = some n) ∧ (Cond.methodLink (mm_own o) ix (mm_y id) ∈ mm_T ∨ ∃ ho, (mm_own o, ix, mm_y id, ho) ∈ mm_nM) ∧ (kd = 0 → Cond.static (mm_y id) ∈ mm_T) ∧ (kd = 1 → Cond.instanceMethod (mm_y id) ∈ mm_T ∧ Cond.selects (mm_nm (mm_mk id)) (mm_y id) (mm_y id) ∈ mm_T) ∧ (kd = 2 → (mm_y id).name = "<init>" ∧ Cond.instanceMethod (mm_y id) ∈ mm_T ∧ mm_rt id = none) := by
  obtain ⟨h1, h2, h4, h5, h6, -⟩ := mtp_all (o, ix, id, n, kd) (mm_findI h)
  obtain ⟨-, -, -, a1, a2, a3⟩ := mm_idp id h1
  obtain ⟨b1, b2⟩ := h2 h3
  exact ⟨a1, a2, ⟨a3.1, a3.2, b1⟩, b2, h4, h5, h6⟩
theorem mm_MT3 {o ix id n kd : Nat} (h : mm_MT o ix = some (id, n, kd)) (h3 : kd = 3) : Cond.methodLink (mm_own o) ix Lib.objectInit ∈ mm_T ∧ Cond.instanceMethod Lib.objectInit ∈ mm_T ∧ Cond.code Lib.objectInit ⟨#[0xb1]⟩ 1 none ∈ mm_T := ⟨(mtp_all (o, ix, id, n, kd) (mm_findI h)).2.2.2.2.2 h3, (mm_mem 17 (by decide +kernel) (by decide +kernel)), (mm_mem 18 (by decide +kernel) (by decide +kernel))⟩
def mm_nFp (q : String × Nat × String × String × String × String) : Prop := Cond.fieldLinkNest q.1 q.2.1 q.2.2.1 q.2.2.2.1 q.2.2.2.2.1 q.2.2.2.2.2 ∈ tables_1
theorem nfp_0 : mm_nFp ("StagedCompiler", 27, "StagedCompiler$Compilation", "instances", "[LStagedCompiler$Instance;", "StagedCompiler") := List.mem_of_getElem? (i := 142) (by decide +kernel)
theorem nfp_1 : mm_nFp ("StagedCompiler", 54, "StagedCompiler$Compilation", "errorPlace", "I", "StagedCompiler") := List.mem_of_getElem? (i := 147) (by decide +kernel)
theorem nfp_2 : mm_nFp ("StagedCompiler", 61, "StagedCompiler$Instance", "function", "I", "StagedCompiler") := List.mem_of_getElem? (i := 97) (by decide +kernel)
theorem nfp_3 : mm_nFp ("StagedCompiler", 68, "StagedCompiler$Instance", "parameterTypes", "[I", "StagedCompiler") := List.mem_of_getElem? (i := 101) (by decide +kernel)
theorem nfp_4 : mm_nFp ("StagedCompiler", 74, "StagedCompiler$Instance", "counts", "[J", "StagedCompiler") := List.mem_of_getElem? (i := 104) (by decide +kernel)
theorem nfp_5 : mm_nFp ("StagedCompiler", 81, "StagedCompiler$Instance", "types", "[I", "StagedCompiler") := List.mem_of_getElem? (i := 109) (by decide +kernel)
theorem nfp_6 : mm_nFp ("StagedCompiler", 84, "StagedCompiler$Instance", "isKnown", "[Z", "StagedCompiler") := List.mem_of_getElem? (i := 112) (by decide +kernel)
theorem nfp_7 : mm_nFp ("StagedCompiler", 88, "StagedCompiler$Instance", "values", "[J", "StagedCompiler") := List.mem_of_getElem? (i := 118) (by decide +kernel)
theorem nfp_8 : mm_nFp ("StagedCompiler", 103, "StagedCompiler$Program", "nodeCount", "I", "StagedCompiler") := List.mem_of_getElem? (i := 51) (by decide +kernel)
theorem nfp_9 : mm_nFp ("StagedCompiler", 106, "StagedCompiler$Program", "functionCount", "I", "StagedCompiler") := List.mem_of_getElem? (i := 53) (by decide +kernel)
theorem nfp_10 : mm_nFp ("StagedCompiler", 109, "StagedCompiler$Compilation", "instanceCount", "I", "StagedCompiler") := List.mem_of_getElem? (i := 144) (by decide +kernel)
theorem nfp_11 : mm_nFp ("StagedCompiler", 112, "StagedCompiler$Machine", "callsMade", "I", "StagedCompiler") := List.mem_of_getElem? (i := 169) (by decide +kernel)
theorem nfp_12 : mm_nFp ("StagedCompiler$Program", 99, "StagedCompiler$Instance", "isKnown", "[Z", "StagedCompiler") := List.mem_of_getElem? (i := 114) (by decide +kernel)
theorem nfp_13 : mm_nFp ("StagedCompiler$Compilation", 40, "StagedCompiler$Program", "bodies", "[I", "StagedCompiler") := List.mem_of_getElem? (i := 49) (by decide +kernel)
theorem nfp_14 : mm_nFp ("StagedCompiler$Compilation", 46, "StagedCompiler$Instance", "function", "I", "StagedCompiler") := List.mem_of_getElem? (i := 96) (by decide +kernel)
theorem nfp_15 : mm_nFp ("StagedCompiler$Compilation", 53, "StagedCompiler$Instance", "resultType", "I", "StagedCompiler") := List.mem_of_getElem? (i := 99) (by decide +kernel)
theorem nfp_16 : mm_nFp ("StagedCompiler$Compilation", 68, "StagedCompiler$Instance", "types", "[I", "StagedCompiler") := List.mem_of_getElem? (i := 108) (by decide +kernel)
theorem nfp_17 : mm_nFp ("StagedCompiler$Compilation", 77, "StagedCompiler$Instance", "values", "[J", "StagedCompiler") := List.mem_of_getElem? (i := 117) (by decide +kernel)
theorem nfp_18 : mm_nFp ("StagedCompiler$Compilation", 88, "StagedCompiler$Program", "kinds", "[I", "StagedCompiler") := List.mem_of_getElem? (i := 27) (by decide +kernel)
theorem nfp_19 : mm_nFp ("StagedCompiler$Compilation", 91, "StagedCompiler$Program", "as", "[I", "StagedCompiler") := List.mem_of_getElem? (i := 30) (by decide +kernel)
theorem nfp_20 : mm_nFp ("StagedCompiler$Compilation", 116, "StagedCompiler$Instance", "parameterTypes", "[I", "StagedCompiler") := List.mem_of_getElem? (i := 102) (by decide +kernel)
theorem nfp_21 : mm_nFp ("StagedCompiler$Compilation", 119, "StagedCompiler$Instance", "counts", "[J", "StagedCompiler") := List.mem_of_getElem? (i := 105) (by decide +kernel)
theorem nfp_22 : mm_nFp ("StagedCompiler$Compilation", 126, "StagedCompiler$Program", "bs", "[I", "StagedCompiler") := List.mem_of_getElem? (i := 33) (by decide +kernel)
theorem nfp_23 : mm_nFp ("StagedCompiler$Compilation", 144, "StagedCompiler$Instance", "isKnown", "[Z", "StagedCompiler") := List.mem_of_getElem? (i := 113) (by decide +kernel)
theorem nfp_24 : mm_nFp ("StagedCompiler$Compilation", 160, "StagedCompiler$Program", "cs", "[I", "StagedCompiler") := List.mem_of_getElem? (i := 36) (by decide +kernel)
theorem nfp_25 : mm_nFp ("StagedCompiler$Compilation", 173, "StagedCompiler$Program", "firsts", "[I", "StagedCompiler") := List.mem_of_getElem? (i := 41) (by decide +kernel)
theorem nfp_26 : mm_nFp ("StagedCompiler$Compilation", 179, "StagedCompiler$Program", "seconds", "[I", "StagedCompiler") := List.mem_of_getElem? (i := 44) (by decide +kernel)
theorem nfp_27 : mm_nFp ("StagedCompiler$Compilation", 193, "StagedCompiler$Instance", "callees", "[I", "StagedCompiler") := List.mem_of_getElem? (i := 121) (by decide +kernel)
theorem nfp_28 : mm_nFp ("StagedCompiler$Instance", 41, "StagedCompiler$Program", "firsts", "[I", "StagedCompiler") := List.mem_of_getElem? (i := 40) (by decide +kernel)
theorem nfp_29 : mm_nFp ("StagedCompiler$Instance", 46, "StagedCompiler$Program", "seconds", "[I", "StagedCompiler") := List.mem_of_getElem? (i := 43) (by decide +kernel)
theorem nfp_30 : mm_nFp ("StagedCompiler$Instance", 53, "StagedCompiler$Program", "results", "[I", "StagedCompiler") := List.mem_of_getElem? (i := 46) (by decide +kernel)
theorem nfp_31 : mm_nFp ("StagedCompiler$Machine", 26, "StagedCompiler$Program", "bodies", "[I", "StagedCompiler") := List.mem_of_getElem? (i := 48) (by decide +kernel)
theorem nfp_32 : mm_nFp ("StagedCompiler$Machine", 32, "StagedCompiler$Instance", "function", "I", "StagedCompiler") := List.mem_of_getElem? (i := 95) (by decide +kernel)
theorem nfp_33 : mm_nFp ("StagedCompiler$Machine", 43, "StagedCompiler$Instance", "isKnown", "[Z", "StagedCompiler") := List.mem_of_getElem? (i := 111) (by decide +kernel)
theorem nfp_34 : mm_nFp ("StagedCompiler$Machine", 47, "StagedCompiler$Instance", "values", "[J", "StagedCompiler") := List.mem_of_getElem? (i := 116) (by decide +kernel)
theorem nfp_35 : mm_nFp ("StagedCompiler$Machine", 51, "StagedCompiler$Program", "kinds", "[I", "StagedCompiler") := List.mem_of_getElem? (i := 26) (by decide +kernel)
theorem nfp_36 : mm_nFp ("StagedCompiler$Machine", 54, "StagedCompiler$Program", "as", "[I", "StagedCompiler") := List.mem_of_getElem? (i := 29) (by decide +kernel)
theorem nfp_37 : mm_nFp ("StagedCompiler$Machine", 75, "StagedCompiler$Program", "bs", "[I", "StagedCompiler") := List.mem_of_getElem? (i := 32) (by decide +kernel)
theorem nfp_38 : mm_nFp ("StagedCompiler$Machine", 78, "StagedCompiler$Instance", "types", "[I", "StagedCompiler") := List.mem_of_getElem? (i := 107) (by decide +kernel)
theorem nfp_39 : mm_nFp ("StagedCompiler$Machine", 85, "StagedCompiler$Program", "cs", "[I", "StagedCompiler") := List.mem_of_getElem? (i := 35) (by decide +kernel)
theorem nfp_40 : mm_nFp ("StagedCompiler$Machine", 94, "StagedCompiler$Instance", "callees", "[I", "StagedCompiler") := List.mem_of_getElem? (i := 120) (by decide +kernel)
theorem nfp_g0 : ∀ q ∈ ([("StagedCompiler", 27, "StagedCompiler$Compilation", "instances", "[LStagedCompiler$Instance;", "StagedCompiler"), ("StagedCompiler", 54, "StagedCompiler$Compilation", "errorPlace", "I", "StagedCompiler"), ("StagedCompiler", 61, "StagedCompiler$Instance", "function", "I", "StagedCompiler"), ("StagedCompiler", 68, "StagedCompiler$Instance", "parameterTypes", "[I", "StagedCompiler"), ("StagedCompiler", 74, "StagedCompiler$Instance", "counts", "[J", "StagedCompiler"), ("StagedCompiler", 81, "StagedCompiler$Instance", "types", "[I", "StagedCompiler"), ("StagedCompiler", 84, "StagedCompiler$Instance", "isKnown", "[Z", "StagedCompiler"), ("StagedCompiler", 88, "StagedCompiler$Instance", "values", "[J", "StagedCompiler"), ("StagedCompiler", 103, "StagedCompiler$Program", "nodeCount", "I", "StagedCompiler"), ("StagedCompiler", 106, "StagedCompiler$Program", "functionCount", "I", "StagedCompiler"), ("StagedCompiler", 109, "StagedCompiler$Compilation", "instanceCount", "I", "StagedCompiler"), ("StagedCompiler", 112, "StagedCompiler$Machine", "callsMade", "I", "StagedCompiler"), ("StagedCompiler$Program", 99, "StagedCompiler$Instance", "isKnown", "[Z", "StagedCompiler"), ("StagedCompiler$Compilation", 40, "StagedCompiler$Program", "bodies", "[I", "StagedCompiler"), ("StagedCompiler$Compilation", 46, "StagedCompiler$Instance", "function", "I", "StagedCompiler"), ("StagedCompiler$Compilation", 53, "StagedCompiler$Instance", "resultType", "I", "StagedCompiler"), ("StagedCompiler$Compilation", 68, "StagedCompiler$Instance", "types", "[I", "StagedCompiler"), ("StagedCompiler$Compilation", 77, "StagedCompiler$Instance", "values", "[J", "StagedCompiler"), ("StagedCompiler$Compilation", 88, "StagedCompiler$Program", "kinds", "[I", "StagedCompiler"), ("StagedCompiler$Compilation", 91, "StagedCompiler$Program", "as", "[I", "StagedCompiler"), ("StagedCompiler$Compilation", 116, "StagedCompiler$Instance", "parameterTypes", "[I", "StagedCompiler"), ("StagedCompiler$Compilation", 119, "StagedCompiler$Instance", "counts", "[J", "StagedCompiler"), ("StagedCompiler$Compilation", 126, "StagedCompiler$Program", "bs", "[I", "StagedCompiler"), ("StagedCompiler$Compilation", 144, "StagedCompiler$Instance", "isKnown", "[Z", "StagedCompiler"), ("StagedCompiler$Compilation", 160, "StagedCompiler$Program", "cs", "[I", "StagedCompiler")] : List (String × Nat × String × String × String × String)), mm_nFp q := List.forall_mem_cons.mpr ⟨nfp_0, List.forall_mem_cons.mpr ⟨nfp_1, List.forall_mem_cons.mpr ⟨nfp_2, List.forall_mem_cons.mpr ⟨nfp_3, List.forall_mem_cons.mpr ⟨nfp_4, List.forall_mem_cons.mpr ⟨nfp_5, List.forall_mem_cons.mpr ⟨nfp_6, List.forall_mem_cons.mpr ⟨nfp_7, List.forall_mem_cons.mpr ⟨nfp_8, List.forall_mem_cons.mpr ⟨nfp_9, List.forall_mem_cons.mpr ⟨nfp_10, List.forall_mem_cons.mpr ⟨nfp_11, List.forall_mem_cons.mpr ⟨nfp_12, List.forall_mem_cons.mpr ⟨nfp_13, List.forall_mem_cons.mpr ⟨nfp_14, List.forall_mem_cons.mpr ⟨nfp_15, List.forall_mem_cons.mpr ⟨nfp_16, List.forall_mem_cons.mpr ⟨nfp_17, List.forall_mem_cons.mpr ⟨nfp_18, List.forall_mem_cons.mpr ⟨nfp_19, List.forall_mem_cons.mpr ⟨nfp_20, List.forall_mem_cons.mpr ⟨nfp_21, List.forall_mem_cons.mpr ⟨nfp_22, List.forall_mem_cons.mpr ⟨nfp_23, List.forall_mem_cons.mpr ⟨nfp_24, fun _ h => absurd h List.not_mem_nil⟩⟩⟩⟩⟩⟩⟩⟩⟩⟩⟩⟩⟩⟩⟩⟩⟩⟩⟩⟩⟩⟩⟩⟩⟩
theorem nfp_g1 : ∀ q ∈ ([("StagedCompiler$Compilation", 173, "StagedCompiler$Program", "firsts", "[I", "StagedCompiler"), ("StagedCompiler$Compilation", 179, "StagedCompiler$Program", "seconds", "[I", "StagedCompiler"), ("StagedCompiler$Compilation", 193, "StagedCompiler$Instance", "callees", "[I", "StagedCompiler"), ("StagedCompiler$Instance", 41, "StagedCompiler$Program", "firsts", "[I", "StagedCompiler"), ("StagedCompiler$Instance", 46, "StagedCompiler$Program", "seconds", "[I", "StagedCompiler"), ("StagedCompiler$Instance", 53, "StagedCompiler$Program", "results", "[I", "StagedCompiler"), ("StagedCompiler$Machine", 26, "StagedCompiler$Program", "bodies", "[I", "StagedCompiler"), ("StagedCompiler$Machine", 32, "StagedCompiler$Instance", "function", "I", "StagedCompiler"), ("StagedCompiler$Machine", 43, "StagedCompiler$Instance", "isKnown", "[Z", "StagedCompiler"), ("StagedCompiler$Machine", 47, "StagedCompiler$Instance", "values", "[J", "StagedCompiler"), ("StagedCompiler$Machine", 51, "StagedCompiler$Program", "kinds", "[I", "StagedCompiler"), ("StagedCompiler$Machine", 54, "StagedCompiler$Program", "as", "[I", "StagedCompiler"), ("StagedCompiler$Machine", 75, "StagedCompiler$Program", "bs", "[I", "StagedCompiler"), ("StagedCompiler$Machine", 78, "StagedCompiler$Instance", "types", "[I", "StagedCompiler"), ("StagedCompiler$Machine", 85, "StagedCompiler$Program", "cs", "[I", "StagedCompiler"), ("StagedCompiler$Machine", 94, "StagedCompiler$Instance", "callees", "[I", "StagedCompiler")] : List (String × Nat × String × String × String × String)), mm_nFp q := List.forall_mem_cons.mpr ⟨nfp_25, List.forall_mem_cons.mpr ⟨nfp_26, List.forall_mem_cons.mpr ⟨nfp_27, List.forall_mem_cons.mpr ⟨nfp_28, List.forall_mem_cons.mpr ⟨nfp_29, List.forall_mem_cons.mpr ⟨nfp_30, List.forall_mem_cons.mpr ⟨nfp_31, List.forall_mem_cons.mpr ⟨nfp_32, List.forall_mem_cons.mpr ⟨nfp_33, List.forall_mem_cons.mpr ⟨nfp_34, List.forall_mem_cons.mpr ⟨nfp_35, List.forall_mem_cons.mpr ⟨nfp_36, List.forall_mem_cons.mpr ⟨nfp_37, List.forall_mem_cons.mpr ⟨nfp_38, List.forall_mem_cons.mpr ⟨nfp_39, List.forall_mem_cons.mpr ⟨nfp_40, fun _ h => absurd h List.not_mem_nil⟩⟩⟩⟩⟩⟩⟩⟩⟩⟩⟩⟩⟩⟩⟩⟩
theorem nfp_all : ∀ q ∈ mm_nF, mm_nFp q := by
  intro q hq
  have e : mm_nF = ([("StagedCompiler", 27, "StagedCompiler$Compilation", "instances", "[LStagedCompiler$Instance;", "StagedCompiler"), ("StagedCompiler", 54, "StagedCompiler$Compilation", "errorPlace", "I", "StagedCompiler"), ("StagedCompiler", 61, "StagedCompiler$Instance", "function", "I", "StagedCompiler"), ("StagedCompiler", 68, "StagedCompiler$Instance", "parameterTypes", "[I", "StagedCompiler"), ("StagedCompiler", 74, "StagedCompiler$Instance", "counts", "[J", "StagedCompiler"), ("StagedCompiler", 81, "StagedCompiler$Instance", "types", "[I", "StagedCompiler"), ("StagedCompiler", 84, "StagedCompiler$Instance", "isKnown", "[Z", "StagedCompiler"), ("StagedCompiler", 88, "StagedCompiler$Instance", "values", "[J", "StagedCompiler"), ("StagedCompiler", 103, "StagedCompiler$Program", "nodeCount", "I", "StagedCompiler"), ("StagedCompiler", 106, "StagedCompiler$Program", "functionCount", "I", "StagedCompiler"), ("StagedCompiler", 109, "StagedCompiler$Compilation", "instanceCount", "I", "StagedCompiler"), ("StagedCompiler", 112, "StagedCompiler$Machine", "callsMade", "I", "StagedCompiler"), ("StagedCompiler$Program", 99, "StagedCompiler$Instance", "isKnown", "[Z", "StagedCompiler"), ("StagedCompiler$Compilation", 40, "StagedCompiler$Program", "bodies", "[I", "StagedCompiler"), ("StagedCompiler$Compilation", 46, "StagedCompiler$Instance", "function", "I", "StagedCompiler"), ("StagedCompiler$Compilation", 53, "StagedCompiler$Instance", "resultType", "I", "StagedCompiler"), ("StagedCompiler$Compilation", 68, "StagedCompiler$Instance", "types", "[I", "StagedCompiler"), ("StagedCompiler$Compilation", 77, "StagedCompiler$Instance", "values", "[J", "StagedCompiler"), ("StagedCompiler$Compilation", 88, "StagedCompiler$Program", "kinds", "[I", "StagedCompiler"), ("StagedCompiler$Compilation", 91, "StagedCompiler$Program", "as", "[I", "StagedCompiler"), ("StagedCompiler$Compilation", 116, "StagedCompiler$Instance", "parameterTypes", "[I", "StagedCompiler"), ("StagedCompiler$Compilation", 119, "StagedCompiler$Instance", "counts", "[J", "StagedCompiler"), ("StagedCompiler$Compilation", 126, "StagedCompiler$Program", "bs", "[I", "StagedCompiler"), ("StagedCompiler$Compilation", 144, "StagedCompiler$Instance", "isKnown", "[Z", "StagedCompiler"), ("StagedCompiler$Compilation", 160, "StagedCompiler$Program", "cs", "[I", "StagedCompiler")] : List (String × Nat × String × String × String × String)) ++ (([("StagedCompiler$Compilation", 173, "StagedCompiler$Program", "firsts", "[I", "StagedCompiler"), ("StagedCompiler$Compilation", 179, "StagedCompiler$Program", "seconds", "[I", "StagedCompiler"), ("StagedCompiler$Compilation", 193, "StagedCompiler$Instance", "callees", "[I", "StagedCompiler"), ("StagedCompiler$Instance", 41, "StagedCompiler$Program", "firsts", "[I", "StagedCompiler"), ("StagedCompiler$Instance", 46, "StagedCompiler$Program", "seconds", "[I", "StagedCompiler"), ("StagedCompiler$Instance", 53, "StagedCompiler$Program", "results", "[I", "StagedCompiler"), ("StagedCompiler$Machine", 26, "StagedCompiler$Program", "bodies", "[I", "StagedCompiler"), ("StagedCompiler$Machine", 32, "StagedCompiler$Instance", "function", "I", "StagedCompiler"), ("StagedCompiler$Machine", 43, "StagedCompiler$Instance", "isKnown", "[Z", "StagedCompiler"), ("StagedCompiler$Machine", 47, "StagedCompiler$Instance", "values", "[J", "StagedCompiler"), ("StagedCompiler$Machine", 51, "StagedCompiler$Program", "kinds", "[I", "StagedCompiler"), ("StagedCompiler$Machine", 54, "StagedCompiler$Program", "as", "[I", "StagedCompiler"), ("StagedCompiler$Machine", 75, "StagedCompiler$Program", "bs", "[I", "StagedCompiler"), ("StagedCompiler$Machine", 78, "StagedCompiler$Instance", "types", "[I", "StagedCompiler"), ("StagedCompiler$Machine", 85, "StagedCompiler$Program", "cs", "[I", "StagedCompiler"), ("StagedCompiler$Machine", 94, "StagedCompiler$Instance", "callees", "[I", "StagedCompiler")] : List (String × Nat × String × String × String × String))) := rfl
  rw [e] at hq
  rcases List.mem_append.mp hq with hq | hq
  · exact nfp_g0 q hq
  exact nfp_g1 q hq
def mm_nMp (q : String × Nat × MethodName × String) : Prop := Cond.methodLinkNest q.1 q.2.1 q.2.2.1 q.2.2.2 ∈ tables_1
theorem nmp_0 : mm_nMp ("StagedCompiler", 9, ⟨"StagedCompiler$Program", "<init>", "()V"⟩, "StagedCompiler") := List.mem_of_getElem? (i := 21) (by decide +kernel)
theorem nmp_1 : mm_nMp ("StagedCompiler", 12, ⟨"StagedCompiler$Compilation", "<init>", "(LStagedCompiler$Program;)V"⟩, "StagedCompiler") := List.mem_of_getElem? (i := 83) (by decide +kernel)
theorem nmp_2 : mm_nMp ("StagedCompiler", 31, ⟨"StagedCompiler$Machine", "<init>", "(LStagedCompiler$Program;[LStagedCompiler$Instance;)V"⟩, "StagedCompiler") := List.mem_of_getElem? (i := 161) (by decide +kernel)
theorem nmp_3 : mm_nMp ("StagedCompiler$Compilation", 21, ⟨"StagedCompiler$Instance", "<init>", "()V"⟩, "StagedCompiler") := List.mem_of_getElem? (i := 90) (by decide +kernel)
theorem nmp_4 : mm_nMp ("StagedCompiler", 38, ⟨"StagedCompiler$Program", "addNode", "(IIII)I"⟩, "StagedCompiler") := List.mem_of_getElem? (i := 193) (by decide +kernel)
theorem nmp_5 : mm_nMp ("StagedCompiler", 42, ⟨"StagedCompiler$Program", "addFunction", "(IIIII)I"⟩, "StagedCompiler") := List.mem_of_getElem? (i := 236) (by decide +kernel)
theorem nmp_6 : mm_nMp ("StagedCompiler", 46, ⟨"StagedCompiler$Program", "hasFunction", "(I)Z"⟩, "StagedCompiler") := List.mem_of_getElem? (i := 252) (by decide +kernel)
theorem nmp_7 : mm_nMp ("StagedCompiler", 50, ⟨"StagedCompiler$Compilation", "compileAll", "(IJJ)I"⟩, "StagedCompiler") := List.mem_of_getElem? (i := 256) (by decide +kernel)
theorem nmp_8 : mm_nMp ("StagedCompiler", 58, ⟨"StagedCompiler$Compilation", "hasInstance", "(I)Z"⟩, "StagedCompiler") := List.mem_of_getElem? (i := 418) (by decide +kernel)
theorem nmp_9 : mm_nMp ("StagedCompiler", 78, ⟨"StagedCompiler$Program", "hasNode", "(I)Z"⟩, "StagedCompiler") := List.mem_of_getElem? (i := 431) (by decide +kernel)
theorem nmp_10 : mm_nMp ("StagedCompiler", 91, ⟨"StagedCompiler$Program", "nodesLeftToRun", "(LStagedCompiler$Instance;)I"⟩, "StagedCompiler") := List.mem_of_getElem? (i := 440) (by decide +kernel)
theorem nmp_11 : mm_nMp ("StagedCompiler", 95, ⟨"StagedCompiler$Instance", "takes", "(IJ)Z"⟩, "StagedCompiler") := List.mem_of_getElem? (i := 452) (by decide +kernel)
theorem nmp_12 : mm_nMp ("StagedCompiler", 99, ⟨"StagedCompiler$Machine", "runBody", "(LStagedCompiler$Instance;JJ)J"⟩, "StagedCompiler") := List.mem_of_getElem? (i := 461) (by decide +kernel)
theorem nmp_13 : mm_nMp ("StagedCompiler$Program", 50, ⟨"StagedCompiler$Kind", "isOne", "(I)Z"⟩, "StagedCompiler") := List.mem_of_getElem? (i := 197) (by decide +kernel)
theorem nmp_14 : mm_nMp ("StagedCompiler$Program", 67, ⟨"StagedCompiler$Types", "isCastCode", "(I)Z"⟩, "StagedCompiler") := List.mem_of_getElem? (i := 208) (by decide +kernel)
theorem nmp_15 : mm_nMp ("StagedCompiler$Program", 85, ⟨"StagedCompiler$Types", "isParameterCode", "(I)Z"⟩, "StagedCompiler") := List.mem_of_getElem? (i := 240) (by decide +kernel)
theorem nmp_16 : mm_nMp ("StagedCompiler$Program", 88, ⟨"StagedCompiler$Types", "isResultCode", "(I)Z"⟩, "StagedCompiler") := List.mem_of_getElem? (i := 247) (by decide +kernel)
theorem nmp_17 : mm_nMp ("StagedCompiler$Program", 91, ⟨"StagedCompiler$Kind", "countsForSize", "(I)Z"⟩, "StagedCompiler") := List.mem_of_getElem? (i := 444) (by decide +kernel)
theorem nmp_18 : mm_nMp ("StagedCompiler$Program", 94, ⟨"StagedCompiler$Instance", "wasLookedAt", "(I)Z"⟩, "StagedCompiler") := List.mem_of_getElem? (i := 447) (by decide +kernel)
theorem nmp_19 : mm_nMp ("StagedCompiler$Compilation", 60, ⟨"StagedCompiler$Instance", "isOf", "(IJJ)Z"⟩, "StagedCompiler") := List.mem_of_getElem? (i := 264) (by decide +kernel)
theorem nmp_20 : mm_nMp ("StagedCompiler$Compilation", 64, ⟨"StagedCompiler$Instance", "begin", "(LStagedCompiler$Program;IJJ)Z"⟩, "StagedCompiler") := List.mem_of_getElem? (i := 272) (by decide +kernel)
theorem nmp_21 : mm_nMp ("StagedCompiler$Compilation", 73, ⟨"StagedCompiler$Types", "isInt", "(I)Z"⟩, "StagedCompiler") := List.mem_of_getElem? (i := 322) (by decide +kernel)
theorem nmp_22 : mm_nMp ("StagedCompiler$Compilation", 81, ⟨"StagedCompiler$Types", "holds", "(IJ)Z"⟩, "StagedCompiler") := List.mem_of_getElem? (i := 323) (by decide +kernel)
theorem nmp_23 : mm_nMp ("StagedCompiler$Compilation", 85, ⟨"StagedCompiler$Instance", "wasLookedAt", "(I)Z"⟩, "StagedCompiler") := List.mem_of_getElem? (i := 290) (by decide +kernel)
theorem nmp_24 : mm_nMp ("StagedCompiler$Compilation", 94, ⟨"StagedCompiler$Instance", "findKnown", "(IIJ)Z"⟩, "StagedCompiler") := List.mem_of_getElem? (i := 294) (by decide +kernel)
theorem nmp_25 : mm_nMp ("StagedCompiler$Compilation", 122, ⟨"StagedCompiler$Instance", "find", "(II)Z"⟩, "StagedCompiler") := List.mem_of_getElem? (i := 302) (by decide +kernel)
theorem nmp_26 : mm_nMp ("StagedCompiler$Compilation", 138, ⟨"StagedCompiler$Kind", "isWrapOrClamp", "(I)Z"⟩, "StagedCompiler") := List.mem_of_getElem? (i := 375) (by decide +kernel)
theorem nmp_27 : mm_nMp ("StagedCompiler$Compilation", 141, ⟨"StagedCompiler$Kind", "isComparison", "(I)Z"⟩, "StagedCompiler") := List.mem_of_getElem? (i := 378) (by decide +kernel)
theorem nmp_28 : mm_nMp ("StagedCompiler$Compilation", 148, ⟨"StagedCompiler$Arithmetic", "work", "(IIJJ)J"⟩, "StagedCompiler") := List.mem_of_getElem? (i := 381) (by decide +kernel)
theorem nmp_29 : mm_nMp ("StagedCompiler$Compilation", 154, ⟨"StagedCompiler$Arithmetic", "isTrap", "(J)Z"⟩, "StagedCompiler") := List.mem_of_getElem? (i := 405) (by decide +kernel)
theorem nmp_30 : mm_nMp ("StagedCompiler$Compilation", 163, ⟨"StagedCompiler$Instance", "findSameAs", "(II)Z"⟩, "StagedCompiler") := List.mem_of_getElem? (i := 310) (by decide +kernel)
theorem nmp_31 : mm_nMp ("StagedCompiler$Compilation", 166, ⟨"StagedCompiler$Instance", "typeByCode", "(I)I"⟩, "StagedCompiler") := List.mem_of_getElem? (i := 342) (by decide +kernel)
theorem nmp_32 : mm_nMp ("StagedCompiler$Compilation", 170, ⟨"StagedCompiler$Program", "hasFunction", "(I)Z"⟩, "StagedCompiler") := List.mem_of_getElem? (i := 347) (by decide +kernel)
theorem nmp_33 : mm_nMp ("StagedCompiler$Instance", 56, ⟨"StagedCompiler$Types", "isByParameter", "(I)Z"⟩, "StagedCompiler") := List.mem_of_getElem? (i := 280) (by decide +kernel)
theorem nmp_34 : mm_nMp ("StagedCompiler$Instance", 69, ⟨"StagedCompiler$Types", "holds", "(IJ)Z"⟩, "StagedCompiler") := List.mem_of_getElem? (i := 460) (by decide +kernel)
theorem nmp_35 : mm_nMp ("StagedCompiler$Machine", 69, ⟨"StagedCompiler$Arithmetic", "isTrap", "(J)Z"⟩, "StagedCompiler") := List.mem_of_getElem? (i := 474) (by decide +kernel)
theorem nmp_36 : mm_nMp ("StagedCompiler$Machine", 81, ⟨"StagedCompiler$Arithmetic", "work", "(IIJJ)J"⟩, "StagedCompiler") := List.mem_of_getElem? (i := 490) (by decide +kernel)
theorem nmp_37 : mm_nMp ("StagedCompiler$Machine", 88, ⟨"StagedCompiler$Arithmetic", "checked", "(IJ)J"⟩, "StagedCompiler") := List.mem_of_getElem? (i := 479) (by decide +kernel)
theorem nmp_38 : mm_nMp ("StagedCompiler$Machine", 97, ⟨"StagedCompiler$Instance", "isRunParameter", "(I)Z"⟩, "StagedCompiler") := List.mem_of_getElem? (i := 485) (by decide +kernel)
theorem nmp_39 : mm_nMp ("StagedCompiler$Arithmetic", 25, ⟨"StagedCompiler$Types", "holds", "(IJ)Z"⟩, "StagedCompiler") := List.mem_of_getElem? (i := 387) (by decide +kernel)
theorem nmp_40 : mm_nMp ("StagedCompiler$Arithmetic", 39, ⟨"StagedCompiler$Types", "lowest", "(I)J"⟩, "StagedCompiler") := List.mem_of_getElem? (i := 397) (by decide +kernel)
theorem nmp_41 : mm_nMp ("StagedCompiler$Arithmetic", 43, ⟨"StagedCompiler$Types", "highest", "(I)J"⟩, "StagedCompiler") := List.mem_of_getElem? (i := 398) (by decide +kernel)
theorem nmp_g0 : ∀ q ∈ ([("StagedCompiler", 9, ⟨"StagedCompiler$Program", "<init>", "()V"⟩, "StagedCompiler"), ("StagedCompiler", 12, ⟨"StagedCompiler$Compilation", "<init>", "(LStagedCompiler$Program;)V"⟩, "StagedCompiler"), ("StagedCompiler", 31, ⟨"StagedCompiler$Machine", "<init>", "(LStagedCompiler$Program;[LStagedCompiler$Instance;)V"⟩, "StagedCompiler"), ("StagedCompiler$Compilation", 21, ⟨"StagedCompiler$Instance", "<init>", "()V"⟩, "StagedCompiler"), ("StagedCompiler", 38, ⟨"StagedCompiler$Program", "addNode", "(IIII)I"⟩, "StagedCompiler"), ("StagedCompiler", 42, ⟨"StagedCompiler$Program", "addFunction", "(IIIII)I"⟩, "StagedCompiler"), ("StagedCompiler", 46, ⟨"StagedCompiler$Program", "hasFunction", "(I)Z"⟩, "StagedCompiler"), ("StagedCompiler", 50, ⟨"StagedCompiler$Compilation", "compileAll", "(IJJ)I"⟩, "StagedCompiler"), ("StagedCompiler", 58, ⟨"StagedCompiler$Compilation", "hasInstance", "(I)Z"⟩, "StagedCompiler"), ("StagedCompiler", 78, ⟨"StagedCompiler$Program", "hasNode", "(I)Z"⟩, "StagedCompiler"), ("StagedCompiler", 91, ⟨"StagedCompiler$Program", "nodesLeftToRun", "(LStagedCompiler$Instance;)I"⟩, "StagedCompiler"), ("StagedCompiler", 95, ⟨"StagedCompiler$Instance", "takes", "(IJ)Z"⟩, "StagedCompiler"), ("StagedCompiler", 99, ⟨"StagedCompiler$Machine", "runBody", "(LStagedCompiler$Instance;JJ)J"⟩, "StagedCompiler"), ("StagedCompiler$Program", 50, ⟨"StagedCompiler$Kind", "isOne", "(I)Z"⟩, "StagedCompiler"), ("StagedCompiler$Program", 67, ⟨"StagedCompiler$Types", "isCastCode", "(I)Z"⟩, "StagedCompiler"), ("StagedCompiler$Program", 85, ⟨"StagedCompiler$Types", "isParameterCode", "(I)Z"⟩, "StagedCompiler"), ("StagedCompiler$Program", 88, ⟨"StagedCompiler$Types", "isResultCode", "(I)Z"⟩, "StagedCompiler"), ("StagedCompiler$Program", 91, ⟨"StagedCompiler$Kind", "countsForSize", "(I)Z"⟩, "StagedCompiler"), ("StagedCompiler$Program", 94, ⟨"StagedCompiler$Instance", "wasLookedAt", "(I)Z"⟩, "StagedCompiler"), ("StagedCompiler$Compilation", 60, ⟨"StagedCompiler$Instance", "isOf", "(IJJ)Z"⟩, "StagedCompiler"), ("StagedCompiler$Compilation", 64, ⟨"StagedCompiler$Instance", "begin", "(LStagedCompiler$Program;IJJ)Z"⟩, "StagedCompiler"), ("StagedCompiler$Compilation", 73, ⟨"StagedCompiler$Types", "isInt", "(I)Z"⟩, "StagedCompiler"), ("StagedCompiler$Compilation", 81, ⟨"StagedCompiler$Types", "holds", "(IJ)Z"⟩, "StagedCompiler"), ("StagedCompiler$Compilation", 85, ⟨"StagedCompiler$Instance", "wasLookedAt", "(I)Z"⟩, "StagedCompiler"), ("StagedCompiler$Compilation", 94, ⟨"StagedCompiler$Instance", "findKnown", "(IIJ)Z"⟩, "StagedCompiler")] : List (String × Nat × MethodName × String)), mm_nMp q := List.forall_mem_cons.mpr ⟨nmp_0, List.forall_mem_cons.mpr ⟨nmp_1, List.forall_mem_cons.mpr ⟨nmp_2, List.forall_mem_cons.mpr ⟨nmp_3, List.forall_mem_cons.mpr ⟨nmp_4, List.forall_mem_cons.mpr ⟨nmp_5, List.forall_mem_cons.mpr ⟨nmp_6, List.forall_mem_cons.mpr ⟨nmp_7, List.forall_mem_cons.mpr ⟨nmp_8, List.forall_mem_cons.mpr ⟨nmp_9, List.forall_mem_cons.mpr ⟨nmp_10, List.forall_mem_cons.mpr ⟨nmp_11, List.forall_mem_cons.mpr ⟨nmp_12, List.forall_mem_cons.mpr ⟨nmp_13, List.forall_mem_cons.mpr ⟨nmp_14, List.forall_mem_cons.mpr ⟨nmp_15, List.forall_mem_cons.mpr ⟨nmp_16, List.forall_mem_cons.mpr ⟨nmp_17, List.forall_mem_cons.mpr ⟨nmp_18, List.forall_mem_cons.mpr ⟨nmp_19, List.forall_mem_cons.mpr ⟨nmp_20, List.forall_mem_cons.mpr ⟨nmp_21, List.forall_mem_cons.mpr ⟨nmp_22, List.forall_mem_cons.mpr ⟨nmp_23, List.forall_mem_cons.mpr ⟨nmp_24, fun _ h => absurd h List.not_mem_nil⟩⟩⟩⟩⟩⟩⟩⟩⟩⟩⟩⟩⟩⟩⟩⟩⟩⟩⟩⟩⟩⟩⟩⟩⟩
theorem nmp_g1 : ∀ q ∈ ([("StagedCompiler$Compilation", 122, ⟨"StagedCompiler$Instance", "find", "(II)Z"⟩, "StagedCompiler"), ("StagedCompiler$Compilation", 138, ⟨"StagedCompiler$Kind", "isWrapOrClamp", "(I)Z"⟩, "StagedCompiler"), ("StagedCompiler$Compilation", 141, ⟨"StagedCompiler$Kind", "isComparison", "(I)Z"⟩, "StagedCompiler"), ("StagedCompiler$Compilation", 148, ⟨"StagedCompiler$Arithmetic", "work", "(IIJJ)J"⟩, "StagedCompiler"), ("StagedCompiler$Compilation", 154, ⟨"StagedCompiler$Arithmetic", "isTrap", "(J)Z"⟩, "StagedCompiler"), ("StagedCompiler$Compilation", 163, ⟨"StagedCompiler$Instance", "findSameAs", "(II)Z"⟩, "StagedCompiler"), ("StagedCompiler$Compilation", 166, ⟨"StagedCompiler$Instance", "typeByCode", "(I)I"⟩, "StagedCompiler"), ("StagedCompiler$Compilation", 170, ⟨"StagedCompiler$Program", "hasFunction", "(I)Z"⟩, "StagedCompiler"), ("StagedCompiler$Instance", 56, ⟨"StagedCompiler$Types", "isByParameter", "(I)Z"⟩, "StagedCompiler"), ("StagedCompiler$Instance", 69, ⟨"StagedCompiler$Types", "holds", "(IJ)Z"⟩, "StagedCompiler"), ("StagedCompiler$Machine", 69, ⟨"StagedCompiler$Arithmetic", "isTrap", "(J)Z"⟩, "StagedCompiler"), ("StagedCompiler$Machine", 81, ⟨"StagedCompiler$Arithmetic", "work", "(IIJJ)J"⟩, "StagedCompiler"), ("StagedCompiler$Machine", 88, ⟨"StagedCompiler$Arithmetic", "checked", "(IJ)J"⟩, "StagedCompiler"), ("StagedCompiler$Machine", 97, ⟨"StagedCompiler$Instance", "isRunParameter", "(I)Z"⟩, "StagedCompiler"), ("StagedCompiler$Arithmetic", 25, ⟨"StagedCompiler$Types", "holds", "(IJ)Z"⟩, "StagedCompiler"), ("StagedCompiler$Arithmetic", 39, ⟨"StagedCompiler$Types", "lowest", "(I)J"⟩, "StagedCompiler"), ("StagedCompiler$Arithmetic", 43, ⟨"StagedCompiler$Types", "highest", "(I)J"⟩, "StagedCompiler")] : List (String × Nat × MethodName × String)), mm_nMp q := List.forall_mem_cons.mpr ⟨nmp_25, List.forall_mem_cons.mpr ⟨nmp_26, List.forall_mem_cons.mpr ⟨nmp_27, List.forall_mem_cons.mpr ⟨nmp_28, List.forall_mem_cons.mpr ⟨nmp_29, List.forall_mem_cons.mpr ⟨nmp_30, List.forall_mem_cons.mpr ⟨nmp_31, List.forall_mem_cons.mpr ⟨nmp_32, List.forall_mem_cons.mpr ⟨nmp_33, List.forall_mem_cons.mpr ⟨nmp_34, List.forall_mem_cons.mpr ⟨nmp_35, List.forall_mem_cons.mpr ⟨nmp_36, List.forall_mem_cons.mpr ⟨nmp_37, List.forall_mem_cons.mpr ⟨nmp_38, List.forall_mem_cons.mpr ⟨nmp_39, List.forall_mem_cons.mpr ⟨nmp_40, List.forall_mem_cons.mpr ⟨nmp_41, fun _ h => absurd h List.not_mem_nil⟩⟩⟩⟩⟩⟩⟩⟩⟩⟩⟩⟩⟩⟩⟩⟩⟩
theorem nmp_all : ∀ q ∈ mm_nM, mm_nMp q := by
  intro q hq
  have e : mm_nM = ([("StagedCompiler", 9, ⟨"StagedCompiler$Program", "<init>", "()V"⟩, "StagedCompiler"), ("StagedCompiler", 12, ⟨"StagedCompiler$Compilation", "<init>", "(LStagedCompiler$Program;)V"⟩, "StagedCompiler"), ("StagedCompiler", 31, ⟨"StagedCompiler$Machine", "<init>", "(LStagedCompiler$Program;[LStagedCompiler$Instance;)V"⟩, "StagedCompiler"), ("StagedCompiler$Compilation", 21, ⟨"StagedCompiler$Instance", "<init>", "()V"⟩, "StagedCompiler"), ("StagedCompiler", 38, ⟨"StagedCompiler$Program", "addNode", "(IIII)I"⟩, "StagedCompiler"), ("StagedCompiler", 42, ⟨"StagedCompiler$Program", "addFunction", "(IIIII)I"⟩, "StagedCompiler"), ("StagedCompiler", 46, ⟨"StagedCompiler$Program", "hasFunction", "(I)Z"⟩, "StagedCompiler"), ("StagedCompiler", 50, ⟨"StagedCompiler$Compilation", "compileAll", "(IJJ)I"⟩, "StagedCompiler"), ("StagedCompiler", 58, ⟨"StagedCompiler$Compilation", "hasInstance", "(I)Z"⟩, "StagedCompiler"), ("StagedCompiler", 78, ⟨"StagedCompiler$Program", "hasNode", "(I)Z"⟩, "StagedCompiler"), ("StagedCompiler", 91, ⟨"StagedCompiler$Program", "nodesLeftToRun", "(LStagedCompiler$Instance;)I"⟩, "StagedCompiler"), ("StagedCompiler", 95, ⟨"StagedCompiler$Instance", "takes", "(IJ)Z"⟩, "StagedCompiler"), ("StagedCompiler", 99, ⟨"StagedCompiler$Machine", "runBody", "(LStagedCompiler$Instance;JJ)J"⟩, "StagedCompiler"), ("StagedCompiler$Program", 50, ⟨"StagedCompiler$Kind", "isOne", "(I)Z"⟩, "StagedCompiler"), ("StagedCompiler$Program", 67, ⟨"StagedCompiler$Types", "isCastCode", "(I)Z"⟩, "StagedCompiler"), ("StagedCompiler$Program", 85, ⟨"StagedCompiler$Types", "isParameterCode", "(I)Z"⟩, "StagedCompiler"), ("StagedCompiler$Program", 88, ⟨"StagedCompiler$Types", "isResultCode", "(I)Z"⟩, "StagedCompiler"), ("StagedCompiler$Program", 91, ⟨"StagedCompiler$Kind", "countsForSize", "(I)Z"⟩, "StagedCompiler"), ("StagedCompiler$Program", 94, ⟨"StagedCompiler$Instance", "wasLookedAt", "(I)Z"⟩, "StagedCompiler"), ("StagedCompiler$Compilation", 60, ⟨"StagedCompiler$Instance", "isOf", "(IJJ)Z"⟩, "StagedCompiler"), ("StagedCompiler$Compilation", 64, ⟨"StagedCompiler$Instance", "begin", "(LStagedCompiler$Program;IJJ)Z"⟩, "StagedCompiler"), ("StagedCompiler$Compilation", 73, ⟨"StagedCompiler$Types", "isInt", "(I)Z"⟩, "StagedCompiler"), ("StagedCompiler$Compilation", 81, ⟨"StagedCompiler$Types", "holds", "(IJ)Z"⟩, "StagedCompiler"), ("StagedCompiler$Compilation", 85, ⟨"StagedCompiler$Instance", "wasLookedAt", "(I)Z"⟩, "StagedCompiler"), ("StagedCompiler$Compilation", 94, ⟨"StagedCompiler$Instance", "findKnown", "(IIJ)Z"⟩, "StagedCompiler")] : List (String × Nat × MethodName × String)) ++ (([("StagedCompiler$Compilation", 122, ⟨"StagedCompiler$Instance", "find", "(II)Z"⟩, "StagedCompiler"), ("StagedCompiler$Compilation", 138, ⟨"StagedCompiler$Kind", "isWrapOrClamp", "(I)Z"⟩, "StagedCompiler"), ("StagedCompiler$Compilation", 141, ⟨"StagedCompiler$Kind", "isComparison", "(I)Z"⟩, "StagedCompiler"), ("StagedCompiler$Compilation", 148, ⟨"StagedCompiler$Arithmetic", "work", "(IIJJ)J"⟩, "StagedCompiler"), ("StagedCompiler$Compilation", 154, ⟨"StagedCompiler$Arithmetic", "isTrap", "(J)Z"⟩, "StagedCompiler"), ("StagedCompiler$Compilation", 163, ⟨"StagedCompiler$Instance", "findSameAs", "(II)Z"⟩, "StagedCompiler"), ("StagedCompiler$Compilation", 166, ⟨"StagedCompiler$Instance", "typeByCode", "(I)I"⟩, "StagedCompiler"), ("StagedCompiler$Compilation", 170, ⟨"StagedCompiler$Program", "hasFunction", "(I)Z"⟩, "StagedCompiler"), ("StagedCompiler$Instance", 56, ⟨"StagedCompiler$Types", "isByParameter", "(I)Z"⟩, "StagedCompiler"), ("StagedCompiler$Instance", 69, ⟨"StagedCompiler$Types", "holds", "(IJ)Z"⟩, "StagedCompiler"), ("StagedCompiler$Machine", 69, ⟨"StagedCompiler$Arithmetic", "isTrap", "(J)Z"⟩, "StagedCompiler"), ("StagedCompiler$Machine", 81, ⟨"StagedCompiler$Arithmetic", "work", "(IIJJ)J"⟩, "StagedCompiler"), ("StagedCompiler$Machine", 88, ⟨"StagedCompiler$Arithmetic", "checked", "(IJ)J"⟩, "StagedCompiler"), ("StagedCompiler$Machine", 97, ⟨"StagedCompiler$Instance", "isRunParameter", "(I)Z"⟩, "StagedCompiler"), ("StagedCompiler$Arithmetic", 25, ⟨"StagedCompiler$Types", "holds", "(IJ)Z"⟩, "StagedCompiler"), ("StagedCompiler$Arithmetic", 39, ⟨"StagedCompiler$Types", "lowest", "(I)J"⟩, "StagedCompiler"), ("StagedCompiler$Arithmetic", 43, ⟨"StagedCompiler$Types", "highest", "(I)J"⟩, "StagedCompiler")] : List (String × Nat × MethodName × String))) := rfl
  rw [e] at hq
  rcases List.mem_append.mp hq with hq | hq
  · exact nmp_g0 q hq
  exact nmp_g1 q hq
end
section
/-! soundness of the evaluator -/
def mm_sc (sc : Option (Nat × (Nat → Int32))) (ad : Nat → Nat → Nat) (sz : Nat) (s : State) (M : mm_M) (H : Heap) : Prop := match sc with
  | none => True
  | some q => va_X (ad 999 0) q.1 q.2 s H ∧ ad 999 0 < sz ∧ M.2.2.2 999 0
def mm_h (g : mm_F) (D : va_G) (dA : FieldType → ClassId) (sz : Nat) (ad0 : Nat → Nat → Nat) (M0 : mm_M) (s : State) (M : mm_M) (ad : Nat → Nat → Nat) (H : Heap) (locs : List Loc) : Prop :=
  (g.2.2.2.1 = false → ad = ad0) ∧ (∀ f i, M0.2.2.2 f i → ad f i = ad0 f i ∧ M.2.2.2 f i) ∧ mm_R D dA sz ad M H ∧ mm_sc g.2.2.2.2.2.2.1 ad sz s M H ∧ va_S (fun q : Nat => sz ≤ q) s.heap H locs
def mm_ctx (p : Program) (s : State) (m : MethodId) (args : Array Value) (meth : Method) (c : Code) (R : Room) (g : mm_F) (cc : ByteArray) (D : va_G) (dA : FieldType → ClassId) (sz : Nat) : Prop :=
  p.tables.exec = Jvm.exec ∧ c.code = cc ∧ c.maxLocals = g.2.1 ∧ s.vm.findClass (mm_own g.1) = some m.cls ∧ (∀ w ∈ mm_T, w.before args s = true) ∧ mm_K D dA s ∧ meth.locks = false ∧ meth.sig.returnType = g.2.2.1 ∧ (g.2.2.2.2.2.2.2 = true → meth.name = "<init>") ∧ sz ≤ s.heap.size ∧ g.2.2.2.2.1 ≤ R.cells ∧ g.2.2.2.2.2.1 ≤ R.slots ∧ 1 ≤ R.frames ∧ 40 ≤ R.locals
def mm_Qc (D : va_G) (dA : FieldType → ClassId) (sz : Nat) (al : Bool) (ad : Nat → Nat → Nat) (M : mm_M) (Post : Option mm_V → mm_M → Prop) : Array Value → State → Outcome → State → Prop := fun _ st oc t =>
  (∃ (v : Option mm_V) (M' : mm_M) (ad' : Nat → Nat → Nat), oc = .returned (v.map (mm_val ad')) ∧ Post v M' ∧ (al = false → ad' = ad) ∧ (∀ f i, M.2.2.2 f i → ad' f i = ad f i ∧ M'.2.2.2 f i) ∧ mm_R D dA sz ad' M' t.heap ∧ mm_K D dA t) ∧ va_F (fun q : Nat => sz ≤ q) st t
def mm_Pc (D : va_G) (dA : FieldType → ClassId) (sz : Nat) (ad : Nat → Nat → Nat) (M : mm_M) (As : List mm_V) : Array Value → State → Prop := va_Pc (As.map (mm_val ad)) (fun U => sz ≤ U.heap.size ∧ mm_R D dA sz ad M U.heap ∧ mm_K D dA U)
def mm_ws (id : Nat) : List Cond := .code (mm_y id) (mm_cc id) (mm_ml id) (mm_rt id) :: mm_T
def mm_Met (l : Launch) (D : va_G) (dA : FieldType → ClassId) (sz : Nat) (rm : Room) (id : Nat) (As : List mm_V) (M : mm_M) (Post : Option mm_V → mm_M → Prop) : Prop :=
  ∀ ad : Nat → Nat → Nat, Met l (mm_y id) (mm_ws id) rm (mm_Pc D dA sz ad M As) (mm_Qc D dA sz (mm_al id) ad M Post) (mm_mc id) (mm_ms id) (fun q : Nat => sz ≤ q)
def mm_Ok (l : Launch) (D : va_G) (dA : FieldType → ClassId) (sz : Nat) (R : Room) (Γ : mm_G) : Prop := ∀ (id : Nat) (As : List mm_V) (M : mm_M) (Post : Option mm_V → mm_M → Prop), Γ id As M Post →
  ∃ rm : Room, rm.cells = mm_mc id ∧ rm.slots = mm_ms id ∧ rm.frames + 1 ≤ R.frames ∧ 8 + (mm_ml id + 11) + rm.locals ≤ R.locals ∧ mm_Met l D dA sz rm id As M Post
theorem mm_oI {α : Type} {x : Option α} {k : α → Prop} (h : mm_o x k) : ∃ a, x = some a ∧ k a := by
  cases x with
  | none => exact h.elim
  | some a => exact ⟨a, rfl, h⟩
theorem mm_p1I {st : List mm_V} {k : mm_V → List mm_V → Prop} (h : mm_p1 st k) : ∃ v r, st = v :: r ∧ k v r := by
  cases st with
  | nil => exact h.elim
  | cons v r => exact ⟨v, r, rfl, h⟩
theorem mm_pII {st : List mm_V} {k : Int32 → List mm_V → Prop} (h : mm_pI st k) : ∃ x r, st = .inl x :: r ∧ k x r := by
  match st, h with
  | .inl x :: r, h => exact ⟨x, r, rfl, h⟩
theorem mm_pLI {st : List mm_V} {k : Int64 → List mm_V → Prop} (h : mm_pL st k) : ∃ x r, st = .inr (.inl x) :: r ∧ k x r := by
  match st, h with
  | .inr (.inl x) :: r, h => exact ⟨x, r, rfl, h⟩
theorem mm_pRI {st : List mm_V} {k : Nat → Nat → List mm_V → Prop} (h : mm_pR st k) : ∃ f i r, st = .inr (.inr (some (f, i))) :: r ∧ k f i r := by
  match st, h with
  | .inr (.inr (some (f, i))) :: r, h => exact ⟨f, i, r, rfl, h⟩
theorem mm_lVI {ls : List (Option mm_V)} {i : Nat} {k : mm_V → Prop} (h : mm_lV ls i k) : ∃ v, ls[i]? = some (some v) ∧ k v := by
  unfold mm_lV at h
  split at h
  · rename_i v hv
    exact ⟨v, hv, h⟩
  · exact h.elim
theorem mm_vII {v : mm_V} {k : Int32 → Prop} (h : mm_vI v k) : ∃ x, v = .inl x ∧ k x := by
  match v, h with
  | .inl x, h => exact ⟨x, rfl, h⟩
theorem mm_vLI {v : mm_V} {k : Int64 → Prop} (h : mm_vL v k) : ∃ x, v = .inr (.inl x) ∧ k x := by
  match v, h with
  | .inr (.inl x), h => exact ⟨x, rfl, h⟩
theorem mm_vQI {v : mm_V} {k : Option (Nat × Nat) → Prop} (h : mm_vQ v k) : ∃ x, v = .inr (.inr x) ∧ k x := by
  match v, h with
  | .inr (.inr x), h => exact ⟨x, rfl, h⟩
theorem mm_pNI : ∀ (n : Nat) (acc st : List mm_V) (k : List mm_V → List mm_V → Prop), mm_pN n acc st k → ∃ xs r, st = xs ++ r ∧ xs.length = n ∧ k (xs.reverse ++ acc) r
  | 0, acc, st, k, h => ⟨[], st, rfl, rfl, h⟩
  | n + 1, acc, [], k, h => h.elim
  | n + 1, acc, v :: r, k, h => by
    obtain ⟨xs, r', e1, e2, e3⟩ := mm_pNI n (v :: acc) r k h
    exact ⟨v :: xs, r', by rw [e1]; rfl, by rw [List.length_cons, e2], by rw [List.reverse_cons, List.append_assoc]; exact e3⟩
theorem mm_catV (ad : Nat → Nat → Nat) (v : mm_V) : (mm_val ad v).category = mm_cat v := by
  match v with
  | .inl x => rfl
  | .inr (.inl x) => rfl
  | .inr (.inr none) => rfl
  | .inr (.inr (some q)) => rfl
theorem mm_smV (ad : Nat → Nat → Nat) : ∀ st : List mm_V, ((st.map (mm_val ad)).map fun v => v.category).sum = mm_sm st
  | [] => rfl
  | v :: r => by
    rw [List.map_cons, List.map_cons, List.sum_cons, mm_catV, mm_smV ad r]
    rfl
theorem mm_okVI {M : mm_M} {ad ad' : Nat → Nat → Nat} (h : ∀ f i, M.2.2.2 f i → ad' f i = ad f i) {v : mm_V} (hv : mm_okV M v) : mm_val ad' v = mm_val ad v := by
  match v, hv with
  | .inl x, _ => rfl
  | .inr (.inl x), _ => rfl
  | .inr (.inr none), _ => rfl
  | .inr (.inr (some q)), hv =>
    show va_rf (some (ad' q.1 q.2)) = va_rf (some (ad q.1 q.2))
    rw [h q.1 q.2 hv]
theorem mm_okSI {M : mm_M} {ad ad' : Nat → Nat → Nat} (h : ∀ f i, M.2.2.2 f i → ad' f i = ad f i) : ∀ {st : List mm_V}, mm_okS M st → st.map (mm_val ad') = st.map (mm_val ad)
  | [], _ => rfl
  | v :: r, hv => by rw [List.map_cons, List.map_cons, mm_okVI h hv.1, mm_okSI h hv.2]
theorem mm_okLI {M : mm_M} {ad ad' : Nat → Nat → Nat} (h : ∀ f i, M.2.2.2 f i → ad' f i = ad f i) : ∀ {ls : List (Option mm_V)} {k : Nat}, mm_okL M ls → mm_L ad' k ls = mm_L ad k ls
  | [], _, _ => rfl
  | some v :: r, k, hv => by rw [mm_L, mm_L, mm_okVI h hv.1, mm_okLI h hv.2]
  | none :: r, k, hv => by rw [mm_L, mm_L, mm_okLI (ls := r) h hv]
theorem mm_jmpI {pc : Nat} {off : Int} (h : 0 ≤ (pc : Int) + off) : (pc : Int) + off = (mm_jmp pc off : Int) := by
  unfold mm_jmp
  omega
theorem mm_h.write {g : mm_F} {D : va_G} {dA : FieldType → ClassId} {sz : Nat} {ad0 ad : Nat → Nat → Nat} {M0 M M' : mm_M} {s : State} {H H1 : Heap} {locs locs1 : List Loc} (h : mm_h g D dA sz ad0 M0 s M ad H locs) (ed : M'.2.2.2 = M.2.2.2) {a : Nat} (ha : sz ≤ a) (hR : mm_R D dA sz ad M' H1) (oq : ∀ q : Nat, q ≠ a → H1[q]? = H[q]?) (hS : va_S (fun q : Nat => sz ≤ q) s.heap H1 locs1) : mm_h g D dA sz ad0 M0 s M' ad H1 locs1 := by
  obtain ⟨h1, h2, h3, h4, h5⟩ := h
  refine ⟨h1, fun f i hf => ⟨(h2 f i hf).1, by rw [ed]; exact (h2 f i hf).2⟩, hR, ?_, hS⟩
  unfold mm_sc at h4 ⊢
  split
  · trivial
  · rename_i q hq
    rw [hq] at h4
    refine ⟨va_X.kept h4.1 (oq _ (by have := h4.2.1; omega)), h4.2.1, by rw [ed]; exact h4.2.2⟩
section MMS
variable {p : Program} {l : Launch} {e : Env} {R : Room} {s : State} {m : MethodId} {args : Array Value} {below : List Frame} {meth : Method} {c : Code} {Qs : State → Prop}
variable {g : mm_F} {cc : ByteArray} {D : va_G} {dA : FieldType → ClassId} {sz : Nat} {ad0 : Nat → Nat → Nat} {M0 : mm_M}
def mm_W (p : Program) (l : Launch) (e : Env) (R : Room) (s : State) (m : MethodId) (args : Array Value) (below : List Frame) (meth : Method) (c : Code) (Qs : State → Prop) (g : mm_F) (D : va_G) (dA : FieldType → ClassId) (sz : Nat) (ad0 : Nat → Nat → Nat) (M0 : mm_M) : mm_K0 := fun pc ls st M u w =>
  ∀ (ad : Nat → Nat → Nat) (H : Heap) (locs : List Loc) (la : Array Slot), mm_h g D dA sz ad0 M0 s M ad H locs → lv_has la g.2.1 (mm_L ad 0 ls) → W p l e R s m args below meth c H locs u w Qs (F0 m pc la (st.map (mm_val ad)))

theorem mm_one {D : va_G} {q : Nat × va_E} {H : Heap} (h : va_at D mm_cl q H) : va_P D mm_cl [q] H := fun k x hk => by
  cases k with
  | zero =>
    simp at hk
    subst hk
    exact h
  | succ k => simp at hk
theorem mm_tyI {D : va_G} {dA : FieldType → ClassId} {U : State} (h : mm_K D dA U) {ty : FieldType} (hty : ty ∈ mm_tyl) : ∃ t0 : Nat, (mm_tys dA)[t0]? = some (dA ty, ty) := by
  obtain ⟨k, hk⟩ := List.getElem?_of_mem hty
  refine ⟨k, ?_⟩
  unfold mm_tys
  rw [List.getElem?_map, hk]
  rfl
theorem mm_cellO {M : mm_M} {ad : Nat → Nat → Nat} {f i ci : Nat} (h : mm_Y f = .inl ci) : mm_cell dA ad M f i = .inr (ci, mm_fs ad M ci f i) := by
  unfold mm_cell
  rw [h]
theorem mm_cellA {M : mm_M} {ad : Nat → Nat → Nat} {f i n : Nat} {ty : FieldType} (h : mm_Y f = .inr (ty, n)) : mm_cell dA ad M f i = .inl (dA ty, mm_arr ad M ty n f i) := by
  unfold mm_cell
  rw [h]
theorem mm_fsI {M : mm_M} {ad : Nat → Nat → Nat} {f i ci k : Nat} (h : k < mm_N ci) : (mm_fs ad M ci f i)[k]? = some (mm_val ad (mm_get M (mm_ft ci k) f i k)) := by
  unfold mm_fs
  rw [List.getElem?_map, List.getElem?_range h]
  rfl
theorem mm_fsL {M : mm_M} {ad : Nat → Nat → Nat} {f i ci : Nat} : (mm_fs ad M ci f i).length = mm_N ci := by
  unfold mm_fs
  rw [List.length_map, List.length_range]

theorem mm_getf {H : Heap} {locs : List Loc} {u w pc : Nat} {la : Array Slot} {rest : List Value} {M : mm_M} {ad : Nat → Nat → Nat} {f i ci k ix : Nat} (X : mm_ctx p s m args meth c R g cc D dA sz) (hR : mm_R D dA sz ad M H) (hfl : mm_FL g.1 ix = some (ci, k)) (hi : mm_is M f i ci) (hd : decode cc pc = .ok (.getfield ix, 3))
    (kk : W p l e R s m args below meth c H locs u w Qs (F0 m (pc + 3) la (mm_val ad (mm_get M (mm_ft ci k) f i k) :: rest))) : W p l e R s m args below meth c H locs u w Qs (F0 m pc la (.ref (ad f i) :: rest)) := by
  obtain ⟨hx, hb, hml, hown, hts, hK, -⟩ := X
  obtain ⟨hY, h9, hdm⟩ := hi
  obtain ⟨r, hc, e1, e2, hin, -⟩ := mm_clok hY
  obtain ⟨hk, hl⟩ := mm_FLok hfl hc
  have hat := (hR.1 f i h9 hdm).1
  rw [mm_cellO hY] at hat
  rcases hl with hl | ⟨h, hl⟩
  · exact va_get (C := r.1) (T := r.2.1) (N := r.2.2) hx hb hts hin hown hK.1 (mm_one hat) 0 rfl hc k hk (hts _ hl) (fun _ h9 => h9) (mm_fsI (by rw [← e2]; exact hk)) hd kk
  · exact va_getN (C := r.1) (T := r.2.1) (N := r.2.2) hx hb hts hin hown hK.1 (mm_one hat) 0 rfl hc k hk (va_Nw.use rfl (hK.2.1 _ hl)) (fun _ h9 => h9) (mm_fsI (by rw [← e2]; exact hk)) hd kk

/-- a field is written: the cell, and no other -/
theorem mm_putraw {H : Heap} {locs : List Loc} {u w pc : Nat} {la : Array Slot} {rest : List Value} {ad : Nat → Nat → Nat} {a ci k ix f : Nat} {fs : List Value} {v : Value} (X : mm_ctx p s m args meth c R g cc D dA sz) (hfl : mm_FL g.1 ix = some (ci, k)) (hY : mm_Y f = .inl ci) (hat : va_at D mm_cl (a, .inr (ci, fs)) H) (hlen : fs.length = mm_N ci) (hpf : mm_pf g ci k) (hn : narrow (mm_ft ci k) v = v) (hfit : fits (mm_ft ci k) v = true) (hd : decode cc pc = .ok (.putfield ix, 3))
    (kk : ∀ (H1 : Heap) (j : Nat), va_at D mm_cl (a, .inr (ci, fs.set k v)) H1 → H1.size = H.size → (∀ q : Nat, q ≠ a → H1[q]? = H[q]?) → W p l e R s m args below meth c H1 (locs ++ [⟨a, j⟩]) u w Qs (F0 m (pc + 3) la rest)) : W p l e R s m args below meth c H locs u w Qs (F0 m pc la (v :: .ref a :: rest)) := by
  obtain ⟨hx, hb, hml, hown, hts, hK, -, -, hct, -⟩ := X
  obtain ⟨r, hc, e1, e2, hin, hty, hnm, hfn⟩ := mm_clok hY
  obtain ⟨hk, hl⟩ := mm_FLok hfl hc
  have hap := va_apart (own := mm_own g.1) (D := D) (tys := mm_tys dA) (C := r.1) (T := r.2.1) (N := r.2.2) hts hin (mm_ft ci) hty hnm hK.1 hc
  obtain ⟨r', h1, cell, q1, q2, q3, q4⟩ := hat
  have hr : r' = r := Option.some.inj (h1.symm.trans hc)
  subst hr
  obtain ⟨hS, hfc, kC, hkC, hkind⟩ := hK.1.1 ci _ hc
  obtain ⟨cf, kf, fi, fd, hi, hsl⟩ := hS k hk
  have hst := (u_facts hfc hkC (u_lays hts hin hk) hi).1
  have hkl : k < fs.length := by rw [hlen, ← e2]; exact hk
  have fin : ∀ H' : Heap, H'[a]? = some (cell.setSlot fd.slot v) → va_at D mm_cl (a, .inr (ci, fs.set k v)) H' := by
    intro H' e
    rw [hsl] at e
    exact ⟨_, hc, t_OB.to (V := updV (vp_V fs) k v) ⟨_, e, q2, q3, t_set q4 hap hk v⟩ (fun j _ => vp_updV_set hkl v j)⟩
  have hlay := hts _ (hin _ (u_in_lay hk))
  unfold u_lay at hlay
  rcases hpf with hpf | ⟨ho, hc1⟩
  · rw [if_neg (by rw [(hfn k hk).1, hpf]; decide)] at hlay
    have h6 := u_store hfc hkC hkind hlay hi (hty k hk) hn hfit
    rcases hl with hl | ⟨h, hl⟩
    · exact W.putK hx hb (f := fd) ⟨hown, hts _ hl, ⟨_, _, _, hi⟩, hst⟩ (by rw [q2]; exact h6) q1 q3 (by rw [hsl]; exact k2_hasslot (q4 k hk)) rfl rfl hd fun H' e1 e2 e3 => kk H' _ (fin H' e1) e2 e3
    · exact va_WputK hx hb (f := fd) hown (va_Nw.use rfl (hK.2.1 _ hl)) hi hst (by rw [q2]; exact h6) q1 q3 (by rw [hsl]; exact k2_hasslot (q4 k hk)) rfl rfl hd fun H' e1 e2 e3 => kk H' _ (fin H' e1) e2 e3
  · by_cases hf2 : (r'.2.1 k).2.2.2 = true
    · rw [if_pos hf2] at hlay
      have hcf : m.cls = cf := by
        obtain ⟨_, _, c', _, _, _, -, -, hf', -, -, -, hown2, -⟩ := Cond.laysFinal_spec hlay
        have e1 : c' = cf := by have := hi.symm.trans hf'; simp at this; exact this.1.symm
        rw [(hfn k hk).2, ← mm_ownI hY, ← ho] at hown2
        rw [← e1]; exact Option.some.inj (hown.symm.trans hown2)
      have h6 := u_fits hfc hkC hkind (Or.inr hlay) hi (hty k hk) hn hfit
      rcases hl with hl | ⟨h, hl⟩
      · exact W.putFinK hx hb hown (hts _ hl) hi hst hcf (hct hc1) (by rw [q2]; exact h6) q1 q3 (by rw [hsl]; exact k2_hasslot (q4 k hk)) rfl rfl hd fun H' e1 e2 e3 => kk H' _ (fin H' e1) e2 e3
      · exact absurd (show mm_own g.1 = (r'.2.1 k).1 by rw [(hfn k hk).2, ho]; rfl) (mm_nFne _ hl)
    · have hf3 : (r'.2.1 k).2.2.2 = false := by simpa using hf2
      rw [if_neg hf2] at hlay
      have h6 := u_store hfc hkC hkind hlay hi (hty k hk) hn hfit
      rcases hl with hl | ⟨h, hl⟩
      · exact W.putK hx hb (f := fd) ⟨hown, hts _ hl, ⟨_, _, _, hi⟩, hst⟩ (by rw [q2]; exact h6) q1 q3 (by rw [hsl]; exact k2_hasslot (q4 k hk)) rfl rfl hd fun H' e1 e2 e3 => kk H' _ (fin H' e1) e2 e3
      · exact va_WputK hx hb (f := fd) hown (va_Nw.use rfl (hK.2.1 _ hl)) hi hst (by rw [q2]; exact h6) q1 q3 (by rw [hsl]; exact k2_hasslot (q4 k hk)) rfl rfl hd fun H' e1 e2 e3 => kk H' _ (fin H' e1) e2 e3
/-- the fields of a cell, one of them written -/
theorem mm_fsS {M M' : mm_M} {ad : Nat → Nat → Nat} {f i ci k : Nat} {v : Value} (hk : k < mm_N ci) (hv : mm_val ad (mm_get M' (mm_ft ci k) f i k) = v) (ho : ∀ j, j ≠ k → mm_get M' (mm_ft ci j) f i j = mm_get M (mm_ft ci j) f i j) : mm_fs ad M' ci f i = (mm_fs ad M ci f i).set k v := by
  apply List.ext_getElem?
  intro j
  rw [List.getElem?_set]
  by_cases hj : k = j
  · subst hj
    rw [if_pos rfl, mm_fsL, if_pos hk, mm_fsI hk, hv]
  · rw [if_neg hj]
    by_cases hl : j < mm_N ci
    · rw [mm_fsI hl, mm_fsI hl, ho j (fun q => hj q.symm)]
    · rw [List.getElem?_eq_none (by rw [mm_fsL]; omega), List.getElem?_eq_none (by rw [mm_fsL]; omega)]
theorem mm_sIrow {M : mm_M} {f i k a b : Nat} {x : Int32} (h : ¬ (a = f ∧ b = i)) : (mm_sI M f i k x).1 a b = M.1 a b := mm_u_row h
theorem mm_sLrow {M : mm_M} {f i k a b : Nat} {x : Int64} (h : ¬ (a = f ∧ b = i)) : (mm_sL M f i k x).2.1 a b = M.2.1 a b := mm_u_row h
theorem mm_sRrow {M : mm_M} {f i k a b : Nat} {x : Option (Nat × Nat)} (h : ¬ (a = f ∧ b = i)) : (mm_sR M f i k x).2.2.1 a b = M.2.2.1 a b := mm_u_row h
theorem mm_getI {M : mm_M} {ty : FieldType} {f i k j : Nat} {x : Int32} (h : j ≠ k) : mm_get (mm_sI M f i k x) ty f i j = mm_get M ty f i j := by
  have e : (mm_sI M f i k x).1 f i j = M.1 f i j := by
    show mm_u M.1 f i k x f i j = _
    rw [mm_u_own, if_neg h]
  cases ty <;> first | rfl | exact congrArg Sum.inl e
theorem mm_getL {M : mm_M} {ty : FieldType} {f i k j : Nat} {x : Int64} (h : j ≠ k) : mm_get (mm_sL M f i k x) ty f i j = mm_get M ty f i j := by
  have e : (mm_sL M f i k x).2.1 f i j = M.2.1 f i j := by
    show mm_u M.2.1 f i k x f i j = _
    rw [mm_u_own, if_neg h]
  cases ty <;> first | rfl | exact congrArg (fun z => Sum.inr (Sum.inl z)) e
theorem mm_getR {M : mm_M} {ty : FieldType} {f i k j : Nat} {x : Option (Nat × Nat)} (h : j ≠ k) : mm_get (mm_sR M f i k x) ty f i j = mm_get M ty f i j := by
  have e : (mm_sR M f i k x).2.2.1 f i j = M.2.2.1 f i j := by
    show mm_u M.2.2.1 f i k x f i j = _
    rw [mm_u_own, if_neg h]
  cases ty <;> first | rfl | exact congrArg (fun z => Sum.inr (Sum.inr z)) e
theorem mm_S1 {A : Nat → Prop} {H0 H H1 : Heap} {locs : List Loc} {a i : Nat} (h : va_S A H0 H locs) (z : H1.size = H.size) (o : ∀ q : Nat, q ≠ a → H1[q]? = H[q]?) (ha : A a) : va_S A H0 H1 (locs ++ [⟨a, i⟩]) := h.put z o ha
theorem mm_putf {H : Heap} {locs : List Loc} {u w pc : Nat} {la : Array Slot} {r : List mm_V} {M : mm_M} {ad : Nat → Nat → Nat} {f i ci k ix : Nat} {v : mm_V} {kk : mm_M → Prop} (X : mm_ctx p s m args meth c R g cc D dA sz) (hh : mm_h g D dA sz ad0 M0 s M ad H locs) (hfl : mm_FL g.1 ix = some (ci, k)) (hi : mm_is M f i ci) (hpf : mm_pf g ci k) (hp : mm_put M (mm_ft ci k) f i k v kk) (hd : decode cc pc = .ok (.putfield ix, 3))
    (go : ∀ (M' : mm_M) (H1 : Heap) (locs1 : List Loc), kk M' → mm_h g D dA sz ad0 M0 s M' ad H1 locs1 → W p l e R s m args below meth c H1 locs1 u w Qs (F0 m (pc + 3) la (r.map (mm_val ad)))) : W p l e R s m args below meth c H locs u w Qs (F0 m pc la ((v :: .inr (.inr (some (f, i))) :: r).map (mm_val ad))) := by
  obtain ⟨hY, h9, hdm⟩ := hi
  obtain ⟨r0, hc, -, e2, -⟩ := mm_clok hY
  have hk : k < mm_N ci := by rw [← e2]; exact (mm_FLok hfl hc).1
  obtain ⟨hat, hsz⟩ := hh.2.2.1.1 f i h9 hdm
  have hat' := hat
  rw [mm_cellO hY] at hat'
  match v, hp with
  | .inl x, hp =>
    obtain ⟨hty, hn, hfit, hkk⟩ := hp
    refine mm_putraw (v := .int x) (ad := ad) X hfl hY hat' mm_fsL hpf hn hfit hd fun H1 j e1 e3 e4 => ?_
    have hv : mm_val ad (mm_get (mm_sI M f i k x) (mm_ft ci k) f i k) = .int x := by
      have e : (mm_sI M f i k x).1 f i k = x := by
        show mm_u M.1 f i k x f i k = _
        rw [mm_u_own, if_pos rfl]
      rcases hty with q | q <;> rw [q] <;> exact congrArg Value.int e
    refine go _ H1 _ hkk (hh.write rfl hsz (hh.2.2.1.write h9 hdm rfl (fun a b h => mm_sIrow h) (fun _ _ _ => rfl) (fun _ _ _ => rfl) ?_ e4) e4 (mm_S1 hh.2.2.2.2 e3 e4 hsz))
    rw [mm_cellO hY, mm_fsS hk hv (fun j hj => mm_getI hj)]
    exact e1
  | .inr (.inl x), hp =>
    obtain ⟨hty, hkk⟩ := hp
    refine mm_putraw (v := .long x) (ad := ad) X hfl hY hat' mm_fsL hpf (by rw [hty]; rfl) (by rw [hty]; rfl) hd fun H1 j e1 e3 e4 => ?_
    have hv : mm_val ad (mm_get (mm_sL M f i k x) (mm_ft ci k) f i k) = .long x := by
      have e : (mm_sL M f i k x).2.1 f i k = x := by
        show mm_u M.2.1 f i k x f i k = _
        rw [mm_u_own, if_pos rfl]
      rw [hty]
      exact congrArg Value.long e
    refine go _ H1 _ hkk (hh.write rfl hsz (hh.2.2.1.write h9 hdm rfl (fun _ _ _ => rfl) (fun a b h => mm_sLrow h) (fun _ _ _ => rfl) ?_ e4) e4 (mm_S1 hh.2.2.2.2 e3 e4 hsz))
    rw [mm_cellO hY, mm_fsS hk hv (fun j hj => mm_getL hj)]
    exact e1
  | .inr (.inr x), hp =>
    obtain ⟨hty, hkk⟩ := hp
    have hn : narrow (mm_ft ci k) (mm_ref ad x) = mm_ref ad x := by
      cases x <;> cases ht : mm_ft ci k <;> first | rfl | (rw [ht] at hty; cases hty)
    have hfit : fits (mm_ft ci k) (mm_ref ad x) = true := by
      cases x <;> cases ht : mm_ft ci k <;> first | rfl | (rw [ht] at hty; cases hty)
    refine mm_putraw (v := mm_ref ad x) (ad := ad) X hfl hY hat' mm_fsL hpf hn hfit hd fun H1 j e1 e3 e4 => ?_
    have hv : mm_val ad (mm_get (mm_sR M f i k x) (mm_ft ci k) f i k) = mm_ref ad x := by
      have e : (mm_sR M f i k x).2.2.1 f i k = x := by
        show mm_u M.2.2.1 f i k x f i k = _
        rw [mm_u_own, if_pos rfl]
      cases ht : mm_ft ci k <;> first | exact congrArg (mm_ref ad) e | (rw [ht] at hty; cases hty)
    refine go _ H1 _ hkk (hh.write rfl hsz (hh.2.2.1.write h9 hdm rfl (fun _ _ _ => rfl) (fun _ _ _ => rfl) (fun a b h => mm_sRrow h) ?_ e4) e4 (mm_S1 hh.2.2.2.2 e3 e4 hsz))
    rw [mm_cellO hY, mm_fsS hk hv (fun j hj => mm_getR hj)]
    exact e1
theorem mm_updI {M : mm_M} {f i k : Nat} {x : Int32} : updV (fun j => .int (M.1 f i j)) k (.int x) = fun j => .int ((mm_sI M f i k x).1 f i j) := by
  funext j
  show (if j = k then Value.int x else .int (M.1 f i j)) = .int (mm_u M.1 f i k x f i j)
  rw [mm_u_own]
  split <;> rfl
theorem mm_updL {M : mm_M} {f i k : Nat} {x : Int64} : updV (fun j => .long (M.2.1 f i j)) k (.long x) = fun j => .long ((mm_sL M f i k x).2.1 f i j) := by
  funext j
  show (if j = k then Value.long x else .long (M.2.1 f i j)) = .long (mm_u M.2.1 f i k x f i j)
  rw [mm_u_own]
  split <;> rfl
theorem mm_updR {M : mm_M} {ad : Nat → Nat → Nat} {f i k : Nat} {x : Option (Nat × Nat)} : updV (fun j => va_rf ((M.2.2.1 f i j).map fun q => ad q.1 q.2)) k (mm_ref ad x) = fun j => va_rf (((mm_sR M f i k x).2.2.1 f i j).map fun q => ad q.1 q.2) := by
  funext j
  show (if j = k then mm_ref ad x else va_rf ((M.2.2.1 f i j).map fun q => ad q.1 q.2)) = va_rf ((mm_u M.2.2.1 f i k x f i j).map fun q => ad q.1 q.2)
  rw [mm_u_own]
  split <;> rfl
theorem mm_iast {H : Heap} {locs : List Loc} {u w pc : Nat} {la : Array Slot} {rest : List Value} {M : mm_M} {ad : Nat → Nat → Nat} {f i : Nat} {j x : Int32} (X : mm_ctx p s m args meth c R g cc D dA sz) (hh : mm_h g D dA sz ad0 M0 s M ad H locs) (hi : mm_ia M f i .int) (hin : vp_in j (mm_len f)) (hd : decode cc pc = .ok (.iastore, 1))
    (go : ∀ (H1 : Heap) (locs1 : List Loc), mm_h g D dA sz ad0 M0 s (mm_sI M f i j.toNatClampNeg x) ad H1 locs1 → W p l e R s m args below meth c H1 locs1 u w Qs (F0 m (pc + 1) la rest)) : W p l e R s m args below meth c H locs u w Qs (F0 m pc la (.int x :: .int j :: .ref (ad f i) :: rest)) := by
  obtain ⟨hx, hb, hml, hown, hts, hK, -⟩ := X
  obtain ⟨hY, h9, hdm⟩ := hi
  obtain ⟨hat, hsz⟩ := hh.2.2.1.1 f i h9 hdm
  rw [mm_cellA hY] at hat
  have hat : H[ad f i]? = some (arrV (dA .int) (mm_len f) (fun j => .int (M.1 f i j))) := hat
  obtain ⟨t0, ht⟩ := mm_tyI hK (mm_Yok hY)
  refine W.iast hx hb hat ((hK.1.2 t0 _ ht).1 _ _) (fun q => by cases q) (by rw [arrV_size]; exact hin) rfl rfl hd fun H1 e z oq => ?_
  refine go H1 _ (hh.write rfl hsz (hh.2.2.1.write h9 hdm rfl (fun a b h => mm_sIrow h) (fun _ _ _ => rfl) (fun _ _ _ => rfl) ?_ oq) oq (mm_S1 hh.2.2.2.2 z oq hsz))
  rw [mm_cellA hY]
  show H1[ad f i]? = some (arrV (dA .int) (mm_len f) (fun j_1 => .int ((mm_sI M f i j.toNatClampNeg x).1 f i j_1)))
  rw [e, arrV_store, mm_updI]
theorem mm_zast {H : Heap} {locs : List Loc} {u w pc : Nat} {la : Array Slot} {rest : List Value} {M : mm_M} {ad : Nat → Nat → Nat} {f i : Nat} {j x : Int32} (X : mm_ctx p s m args meth c R g cc D dA sz) (hh : mm_h g D dA sz ad0 M0 s M ad H locs) (hi : mm_ia M f i .boolean) (hin : vp_in j (mm_len f)) (hd : decode cc pc = .ok (.bastore, 1))
    (go : ∀ (H1 : Heap) (locs1 : List Loc), mm_h g D dA sz ad0 M0 s (mm_sI M f i j.toNatClampNeg (x &&& 1)) ad H1 locs1 → W p l e R s m args below meth c H1 locs1 u w Qs (F0 m (pc + 1) la rest)) : W p l e R s m args below meth c H locs u w Qs (F0 m pc la (.int x :: .int j :: .ref (ad f i) :: rest)) := by
  obtain ⟨hx, hb, hml, hown, hts, hK, -⟩ := X
  obtain ⟨hY, h9, hdm⟩ := hi
  obtain ⟨hat, hsz⟩ := hh.2.2.1.1 f i h9 hdm
  rw [mm_cellA hY] at hat
  have hat : H[ad f i]? = some (arrV (dA .boolean) (mm_len f) (fun j => .int (M.1 f i j))) := hat
  obtain ⟨t0, ht⟩ := mm_tyI hK (mm_Yok hY)
  refine W.zast hx hb hat ((hK.1.2 t0 _ ht).1 _ _) (fun q => by cases q) (by rw [arrV_size]; exact hin) rfl rfl hd fun H1 e z oq => ?_
  refine go H1 _ (hh.write rfl hsz (hh.2.2.1.write h9 hdm rfl (fun a b h => mm_sIrow h) (fun _ _ _ => rfl) (fun _ _ _ => rfl) ?_ oq) oq (mm_S1 hh.2.2.2.2 z oq hsz))
  rw [mm_cellA hY]
  show H1[ad f i]? = some (arrV (dA .boolean) (mm_len f) (fun j_1 => .int ((mm_sI M f i j.toNatClampNeg (x &&& 1)).1 f i j_1)))
  have e : H1[ad f i]? = some ((arrV (dA .boolean) (mm_len f) (fun j => .int (M.1 f i j))).setSlot j.toNatClampNeg (.int (x &&& 1))) := e
  rw [e, arrV_store, mm_updI]
theorem mm_last {H : Heap} {locs : List Loc} {u w pc : Nat} {la : Array Slot} {rest : List Value} {M : mm_M} {ad : Nat → Nat → Nat} {f i : Nat} {j : Int32} {x : Int64} (X : mm_ctx p s m args meth c R g cc D dA sz) (hh : mm_h g D dA sz ad0 M0 s M ad H locs) (hi : mm_ia M f i .long) (hin : vp_in j (mm_len f)) (hd : decode cc pc = .ok (.lastore, 1))
    (go : ∀ (H1 : Heap) (locs1 : List Loc), mm_h g D dA sz ad0 M0 s (mm_sL M f i j.toNatClampNeg x) ad H1 locs1 → W p l e R s m args below meth c H1 locs1 u w Qs (F0 m (pc + 1) la rest)) : W p l e R s m args below meth c H locs u w Qs (F0 m pc la (.long x :: .int j :: .ref (ad f i) :: rest)) := by
  obtain ⟨hx, hb, hml, hown, hts, hK, -⟩ := X
  obtain ⟨hY, h9, hdm⟩ := hi
  obtain ⟨hat, hsz⟩ := hh.2.2.1.1 f i h9 hdm
  rw [mm_cellA hY] at hat
  have hat : H[ad f i]? = some (arrV (dA .long) (mm_len f) (fun j => .long (M.2.1 f i j))) := hat
  obtain ⟨t0, ht⟩ := mm_tyI hK (mm_Yok hY)
  refine W.last hx hb hat ((hK.1.2 t0 _ ht).1 _ _) (fun q => by cases q) (by rw [arrV_size]; exact hin) rfl rfl hd fun H1 e z oq => ?_
  refine go H1 _ (hh.write rfl hsz (hh.2.2.1.write h9 hdm rfl (fun _ _ _ => rfl) (fun a b h => mm_sLrow h) (fun _ _ _ => rfl) ?_ oq) oq (mm_S1 hh.2.2.2.2 z oq hsz))
  rw [mm_cellA hY]
  show H1[ad f i]? = some (arrV (dA .long) (mm_len f) (fun j_1 => .long ((mm_sL M f i j.toNatClampNeg x).2.1 f i j_1)))
  rw [e, arrV_store, mm_updL]
theorem mm_aast {H : Heap} {locs : List Loc} {u w pc : Nat} {la : Array Slot} {rest : List Value} {M : mm_M} {ad : Nat → Nat → Nat} {f i f2 i2 ci : Nat} {j : Int32} (X : mm_ctx p s m args meth c R g cc D dA sz) (hh : mm_h g D dA sz ad0 M0 s M ad H locs) (hv : mm_is M f2 i2 ci) (hi : mm_ia M f i (.object (mm_nm ci))) (hin : vp_in j (mm_len f)) (hd : decode cc pc = .ok (.aastore, 1))
    (go : ∀ (H1 : Heap) (locs1 : List Loc), mm_h g D dA sz ad0 M0 s (mm_sR M f i j.toNatClampNeg (some (f2, i2))) ad H1 locs1 → W p l e R s m args below meth c H1 locs1 u w Qs (F0 m (pc + 1) la rest)) : W p l e R s m args below meth c H locs u w Qs (F0 m pc la (.ref (ad f2 i2) :: .int j :: .ref (ad f i) :: rest)) := by
  obtain ⟨hx, hb, hml, hown, hts, hK, -⟩ := X
  obtain ⟨hY, h9, hdm⟩ := hi
  obtain ⟨hY2, h92, hdm2⟩ := hv
  obtain ⟨hat, hsz⟩ := hh.2.2.1.1 f i h9 hdm
  obtain ⟨hat2, -⟩ := hh.2.2.1.1 f2 i2 h92 hdm2
  rw [mm_cellA hY] at hat
  rw [mm_cellO hY2] at hat2
  have hat : H[ad f i]? = some (arrV (dA (.object (mm_nm ci))) (mm_len f) (fun j => va_rf ((M.2.2.1 f i j).map fun q => ad q.1 q.2))) := hat
  obtain ⟨t0, ht⟩ := mm_tyI hK (mm_Yok hY)
  obtain ⟨r, hc, er, -⟩ := mm_clok hY2
  obtain ⟨r', hr', cellV, g1, g2, g3, -⟩ := hat2
  have hcls := (hK.1.1 ci r hc).2
  obtain ⟨kA, comp, k1, k2, k3, -⟩ := (hK.1.2 t0 _ ht).2
  rw [← er] at k3
  have hcomp : comp = D.1 ci := Option.some.inj (k3.symm.trans hcls.1)
  subst hcomp
  obtain ⟨kC, hkC, -⟩ := hcls.2
  have hlt : j.toNatClampNeg < mm_len f := Nat.not_le.mp fun q => hin (Or.inr q)
  refine W.aast hx hb hat (fun q h => by cases h) (fun h => by cases h) k1 k2 rfl hkC ⟨fun q => hin (Or.inl q), by rw [arrV_size]; exact hlt⟩ g1 (fun q h => by rw [g3] at h; cases h) (by rw [g2]; exact hkC) (by rw [g2]; exact va_assign hcls) rfl rfl hd fun H1 e z oq => ?_
  refine go H1 _ (hh.write rfl hsz (hh.2.2.1.write h9 hdm rfl (fun _ _ _ => rfl) (fun _ _ _ => rfl) (fun a b h => mm_sRrow h) ?_ oq) oq (mm_S1 hh.2.2.2.2 z oq hsz))
  rw [mm_cellA hY]
  show H1[ad f i]? = some (arrV (dA (.object (mm_nm ci))) (mm_len f) (fun j_1 => va_rf (((mm_sR M f i j.toNatClampNeg (some (f2, i2))).2.2.1 f i j_1).map fun q => ad q.1 q.2)))
  have e : H1[ad f i]? = some ((arrV (dA (.object (mm_nm ci))) (mm_len f) (fun j => va_rf ((M.2.2.1 f i j).map fun q => ad q.1 q.2))).setSlot j.toNatClampNeg (mm_ref ad (some (f2, i2)))) := e
  rw [e, arrV_store, mm_updR]
/-- a cell is made: what holds behind it -/
theorem mm_made {H H1 : Heap} {locs : List Loc} {M : mm_M} {ad : Nat → Nat → Nat} {f i : Nat} (hh : mm_h g D dA sz ad0 M0 s M ad H locs) (hz : sz ≤ s.heap.size) (hal : g.2.2.2.1 = true) (h9 : f ≠ 999) (hf : ¬ M.2.2.2 f i) (hfr : ∀ a b c, M.2.2.1 a b c ≠ some (f, i))
    (he : va_at D mm_cl (H.size, mm_cell dA (mm_ad ad f i H.size) (mm_new M f i) f i) H1) (z1 : H1.size = H.size + 1) (oq : ∀ q : Nat, q < H.size → H1[q]? = H[q]?) :
    mm_h g D dA sz ad0 M0 s (mm_new M f i) (mm_ad ad f i H.size) H1 locs := by
  obtain ⟨h1, h2, h3, h4, h5⟩ := hh
  have hzH : sz ≤ H.size := Nat.le_trans hz h5.1
  refine ⟨fun q => (by rw [hal] at q; cases q), fun a b hb => ⟨?_, Or.inr (h2 a b hb).2⟩, h3.make hf hfr hzH he oq, ?_, ⟨by have := h5.1; omega, fun q hq hA => ?_, h5.2.2⟩⟩
  · show (if a = f ∧ b = i then H.size else ad a b) = ad0 a b
    rw [if_neg]
    · exact (h2 a b hb).1
    · rintro ⟨rfl, rfl⟩
      exact hf (h2 _ _ hb).2
  · unfold mm_sc at h4 ⊢
    split
    · trivial
    · rename_i q hq
      rw [hq] at h4
      have e9 : (if (999 : Nat) = f ∧ (0 : Nat) = i then H.size else ad 999 0) = ad 999 0 := if_neg fun q => h9 q.1.symm
      show va_X (if (999 : Nat) = f ∧ (0 : Nat) = i then H.size else ad 999 0) q.1 q.2 s H1 ∧ (if (999 : Nat) = f ∧ (0 : Nat) = i then H.size else ad 999 0) < sz ∧ _
      rw [e9]
      exact ⟨va_X.kept h4.1 (oq _ (by have := h4.2.1; omega)), h4.2.1, Or.inr h4.2.2⟩
  · rw [oq q (Nat.lt_of_lt_of_le hq h5.1)]
    exact h5.2.1 q hq hA
theorem mm_newAd {M : mm_M} {ad : Nat → Nat → Nat} {f i N : Nat} (hf : ¬ M.2.2.2 f i) : ∀ a b, M.2.2.2 a b → mm_ad ad f i N a b = ad a b := by
  intro a b hb
  refine mm_ad_ne ?_
  rintro ⟨rfl, rfl⟩
  exact hf hb
theorem mm_newc {H : Heap} {locs : List Loc} {u w pc : Nat} {la : Array Slot} {st : List mm_V} {M : mm_M} {ad : Nat → Nat → Nat} {f i ci ix : Nat} (X : mm_ctx p s m args meth c R g cc D dA sz) (hh : mm_h g D dA sz ad0 M0 s M ad H locs) (hal : g.2.2.2.1 = true) (hcc : mm_CC g.1 ix = some ci) (hY : mm_Y f = .inl ci) (h9 : f ≠ 999) (hf : ¬ M.2.2.2 f i) (hfr : ∀ a b c, M.2.2.1 a b c ≠ some (f, i)) (hu : u + 1 ≤ g.2.2.2.2.1) (hw : w + mm_N ci ≤ g.2.2.2.2.2.1) (hd : decode cc pc = .ok (.new ix, 3))
    (go : ∀ (H1 : Heap), mm_h g D dA sz ad0 M0 s (mm_new M f i) (mm_ad ad f i H.size) H1 locs → W p l e R s m args below meth c H1 locs (u + 1) (w + mm_N ci) Qs (F0 m (pc + 3) la (.ref H.size :: st.map (mm_val ad)))) : W p l e R s m args below meth c H locs u w Qs (F0 m pc la (st.map (mm_val ad))) := by
  obtain ⟨hx, hb, hml, hown, hts, hK, -, -, -, hz, hC, hSl, -⟩ := X
  obtain ⟨r, hc, e1, e2, hin, hty, -, -⟩ := mm_clok hY
  obtain ⟨k1, k2, k3⟩ := mm_CCok hcc
  have hKn := hK.1.1 ci _ hc
  refine W.newcK (C := r.1) (n := mm_N ci) hx hb hown (by rw [e1]; exact hts _ k1) (by rw [e1]; exact hts _ k2) (by rw [e1]; exact hts _ k3) rfl hd (Nat.le_trans hu hC) (Nat.le_trans hw hSl) hKn.2.1 rfl fun H1 kC hkC e3 z1 o1 => ?_
  refine go H1 (mm_made hh hz hal h9 hf hfr ?_ z1 o1)
  rw [mm_cellO hY]
  refine ⟨_, hc, (u_born (mm_ft ci) hts hin hKn hkC e3 hty).to fun k hk => ?_⟩
  have hk' : k < mm_N ci := by rw [← e2]; exact hk
  unfold vp_V
  rw [List.getD_eq_getElem?_getD, mm_fsI hk', Option.getD_some]
  have hft := mm_ftok hY hk'
  have q1 : (mm_new M f i).1 f i k = 0 := mm_z_own
  have q2 : (mm_new M f i).2.1 f i k = 0 := mm_z_own
  have q3 : (mm_new M f i).2.2.1 f i k = none := mm_z_own
  unfold mm_get
  rw [q1, q2, q3]
  cases ht : mm_ft ci k <;> first | rfl | (rw [ht] at hft; exact absurd rfl hft.1) | (rw [ht] at hft; exact absurd rfl hft.2)
theorem mm_newa {H : Heap} {locs : List Loc} {u w pc : Nat} {la : Array Slot} {st : List mm_V} {M : mm_M} {ad : Nat → Nat → Nat} {f i : Nat} {t : ArrayType} {n : Int32} (X : mm_ctx p s m args meth c R g cc D dA sz) (hh : mm_h g D dA sz ad0 M0 s M ad H locs) (hal : g.2.2.2.1 = true) (hn : ¬ n < 0) (hnb : n.toNatClampNeg ≤ 60000) (hat : mm_at0 t) (hY : mm_Y f = .inr (newarray.typeOf t, n.toNatClampNeg)) (h9 : f ≠ 999) (hf : ¬ M.2.2.2 f i) (hfr : ∀ a b c, M.2.2.1 a b c ≠ some (f, i)) (hu : u + 1 ≤ g.2.2.2.2.1) (hw : w + n.toNatClampNeg ≤ g.2.2.2.2.2.1) (hd : decode cc pc = .ok (.newarray t, 2))
    (go : ∀ (H1 : Heap), mm_h g D dA sz ad0 M0 s (mm_new M f i) (mm_ad ad f i H.size) H1 locs → W p l e R s m args below meth c H1 locs (u + 1) (w + n.toNatClampNeg) Qs (F0 m (pc + 2) la (.ref H.size :: st.map (mm_val ad)))) : W p l e R s m args below meth c H locs u w Qs (F0 m pc la (.int n :: st.map (mm_val ad))) := by
  obtain ⟨hx, hb, hml, hown, hts, hK, -, -, -, hz, hC, hSl, -⟩ := X
  obtain ⟨k1, k2⟩ := mm_prtok hat
  have hby : n.toNatClampNeg * componentBytes (newarray.typeOf t) ≤ 536870912 := by
    have : componentBytes (newarray.typeOf t) ≤ 8 := by cases t <;> decide
    calc n.toNatClampNeg * componentBytes (newarray.typeOf t) ≤ 60000 * 8 := Nat.mul_le_mul hnb this
      _ ≤ 536870912 := by decide
  refine va_newaK hx hb (hts _ k1) rfl hd rfl hn rfl hby (Nat.le_trans hu hC) (Nat.le_trans hw hSl) rfl fun H1 cA e1 z1 o1 hAr hNm => ?_
  obtain ⟨t0, ht⟩ := mm_tyI hK k2
  have hRA := (hK.1.2 t0 _ ht).2
  have hcA : cA = dA (newarray.typeOf t) := by
    cases t <;> exact Option.some.inj (hNm.symm.trans hRA)
  subst hcA
  refine go H1 (mm_made hh hz hal h9 hf hfr ?_ z1 o1)
  rw [mm_cellA hY]
  show H1[H.size]? = some (vp_cell _ _)
  rw [e1]
  have q1 : (mm_new M f i).1 f i = fun _ => 0 := funext fun _ => mm_z_own
  have q2 : (mm_new M f i).2.1 f i = fun _ => 0 := funext fun _ => mm_z_own
  unfold mm_arr
  rw [q1, q2]
  cases t <;> first | rfl | exact absurd hat (by unfold mm_at0; decide)
theorem mm_newq {H : Heap} {locs : List Loc} {u w pc : Nat} {la : Array Slot} {st : List mm_V} {M : mm_M} {ad : Nat → Nat → Nat} {f i ix : Nat} {C : String} {n : Int32} (X : mm_ctx p s m args meth c R g cc D dA sz) (hh : mm_h g D dA sz ad0 M0 s M ad H locs) (hal : g.2.2.2.1 = true) (hco : mm_CO g.1 ix = some C) (hn : ¬ n < 0) (hnb : n.toNatClampNeg ≤ 60000) (hY : mm_Y f = .inr (.object C, n.toNatClampNeg)) (h9 : f ≠ 999) (hf : ¬ M.2.2.2 f i) (hfr : ∀ a b c, M.2.2.1 a b c ≠ some (f, i)) (hu : u + 1 ≤ g.2.2.2.2.1) (hw : w + n.toNatClampNeg ≤ g.2.2.2.2.2.1) (hd : decode cc pc = .ok (.anewarray ix, 3))
    (go : ∀ (H1 : Heap), mm_h g D dA sz ad0 M0 s (mm_new M f i) (mm_ad ad f i H.size) H1 locs → W p l e R s m args below meth c H1 locs (u + 1) (w + n.toNatClampNeg) Qs (F0 m (pc + 3) la (.ref H.size :: st.map (mm_val ad)))) : W p l e R s m args below meth c H locs u w Qs (F0 m pc la (.int n :: st.map (mm_val ad))) := by
  obtain ⟨hx, hb, hml, hown, hts, hK, -, -, -, hz, hC, hSl, -⟩ := X
  obtain ⟨k1, k2⟩ := mm_COok hco
  refine W.anew hx hb hown (hts _ k1) (va_AO.use (hK.2.2.2 C k2)) rfl hd rfl hn (by omega) (Nat.le_trans hu hC) (Nat.le_trans hw hSl) fun cA kA comp f1 f2 f3 f4 => ?_
  generalize hH1 : H.push ({ cls := cA, slots := Array.replicate n.toNatClampNeg .null, vm := .none } : Cell) = H1
  have z1 : H1.size = H.size + 1 := by rw [← hH1, Array.size_push]
  have e1 : H1[H.size]? = some (arrV cA n.toNatClampNeg (fun _ => .null)) := by rw [← hH1, Array.getElem?_push_size, ← arrV_new]
  have o1 : ∀ q : Nat, q < H.size → H1[q]? = H[q]? := fun q hq => by rw [← hH1, Array.getElem?_push, if_neg (Nat.ne_of_lt hq)]
  obtain ⟨t0, ht⟩ := mm_tyI hK (mm_Yok hY)
  obtain ⟨kA', comp', g1, g2, g3, g4⟩ := (hK.1.2 t0 _ ht).2
  have hcA : cA = dA (.object C) := Option.some.inj (f1.symm.trans g4)
  subst hcA
  refine go H1 (mm_made hh hz hal h9 hf hfr ?_ z1 o1)
  rw [mm_cellA hY]
  show H1[H.size]? = some (vp_cell _ _)
  rw [e1]
  have q3 : ∀ k, (mm_new M f i).2.2.1 f i k = none := fun k => mm_z_own
  unfold mm_arr
  simp only [q3]
  rfl
/-- behind a call -/
theorem mm_callgo {H : Heap} {locs : List Loc} {u w pc mc ms : Nat} {la : Array Slot} {st0 rest : List Value} {M : mm_M} {ad : Nat → Nat → Nat} {al : Bool} {Post : Option mm_V → mm_M → Prop} {a : Array Value} (hr : va_Run p l e R s m args below meth c H locs u w mc ms (F0 m pc la st0) rest (mm_Qc D dA sz al ad M Post a) (fun q : Nat => sz ≤ q)) (hS : va_S (fun q : Nat => sz ≤ q) s.heap H locs)
    (kk : ∀ (v : Option mm_V) (M' : mm_M) (ad' : Nat → Nat → Nat) (H1 : Heap) (locs1 : List Loc), Post v M' → (al = false → ad' = ad) → (∀ f i, M.2.2.2 f i → ad' f i = ad f i ∧ M'.2.2.2 f i) → mm_R D dA sz ad' M' H1 → (∀ q : Nat, q < H.size → ¬ sz ≤ q → H1[q]? = H[q]?) → va_S (fun q : Nat => sz ≤ q) s.heap H1 locs1 → W p l e R s m args below meth c H1 locs1 (u + mc) (w + ms) Qs (F0 m (pc + 3) la ((v.map (mm_val ad')).toList ++ rest))) : W p l e R s m args below meth c H locs u w Qs (F0 m pc la st0) := by
  intro T hT X
  obtain ⟨v, st₀, t, T', L, h0, X', hL, e1, e2, ⟨⟨v', M', ad', hv, hp, ha1, ha2, hR, -⟩, hz, hk⟩, st⟩ := hr T hT X
  cases hv
  rw [h0] at hz hk
  obtain ⟨t2, a1, b1⟩ := kk v' M' ad' T'.heap (locs ++ L) hp ha1 ha2 (by rw [e1]; exact hR) (fun q h1 h2 => by rw [e1]; exact hk q h1 h2)
    ⟨Nat.le_trans hS.1 (by rw [e1]; exact hz), fun q h1 h2 => by rw [e1, hk q (Nat.lt_of_lt_of_le h1 hS.1) h2]; exact hS.2.1 q h1 h2, fun q hq => by
      rcases List.mem_append.mp hq with h | h
      · exact hS.2.2 q h
      · exact hL q h⟩ T' rfl X'
  exact ⟨t2, st t2 a1, b1⟩
theorem mm_blind {M : mm_M} {ad : Nat → Nat → Nat} {As : List mm_V} : FrameBlind (mm_Pc D dA sz ad M As) := fun a U g mk q => ⟨q.1, q.2.1, q.2.2.1, mm_K.same rfl q.2.2.2⟩
theorem mm_good {id : Nat} (h : Cond.code (mm_y id) (mm_cc id) (mm_ml id) (mm_rt id) ∈ mm_T) : GoodIn mm_T (mm_ws id) := by
  intro w hw
  rcases List.mem_cons.mp hw with rfl | hw
  · exact ⟨h, good_of_word (mm_Tgood _ h)⟩
  · exact ⟨hw, good_of_word (mm_Tgood _ hw)⟩
end MMS
end
section
section MMS
variable {p : Program} {l : Launch} {e : Env} {R : Room} {s : State} {m : MethodId} {args : Array Value} {below : List Frame} {meth : Method} {c : Code} {Qs : State → Prop}
variable {g : mm_F} {cc : ByteArray} {D : va_G} {dA : FieldType → ClassId} {sz : Nat} {ad0 : Nat → Nat → Nat} {M0 : mm_M}
theorem mm_i32 {x : Int32} {a : Int} (h1 : -2147483648 ≤ a) (h2 : a < 2147483648) : x = Int32.ofInt a ↔ x.toInt = a := by
  have e : (Int32.ofInt a).toInt = a := Int32.toInt_ofInt_of_le (by simpa using h1) (by simpa using h2)
  constructor
  · rintro rfl
    exact e
  · intro h
    exact Int32.toInt_inj.mp (h.trans e.symm)
theorem mm_tsI {x : Int32} {k : Int → Prop} {d : Prop} : ∀ (offs : List Int) (lo : Int), -2147483648 ≤ lo → lo + (offs.length : Int) ≤ 2147483648 → mm_ts x lo offs k d → (∃ off, ¬ x.toInt < lo ∧ x.toInt < lo + (offs.length : Int) ∧ offs[(x.toInt - lo).toNat]? = some off ∧ k off) ∨ ((x.toInt < lo ∨ lo + (offs.length : Int) ≤ x.toInt) ∧ d)
  | [], lo, _, _, h => by
    right
    refine ⟨?_, h⟩
    simp only [List.length_nil]
    omega
  | o :: r, lo, h1, h2, h => by
    have hlen : ((o :: r).length : Int) = (r.length : Int) + 1 := by simp
    rw [hlen] at h2 ⊢
    by_cases hx : x.toInt = lo
    · left
      refine ⟨o, by omega, by omega, ?_, h.1 ((mm_i32 h1 (by omega)).mpr hx)⟩
      rw [hx, Int.sub_self]
      rfl
    · have hn : ¬ x = Int32.ofInt lo := fun q => hx ((mm_i32 h1 (by omega)).mp q)
      rcases mm_tsI r (lo + 1) (by omega) (by omega) (h.2 hn) with ⟨off, a1, a2, a3, a4⟩ | ⟨a1, a2⟩
      · left
        refine ⟨off, by omega, by omega, ?_, a4⟩
        rw [show (x.toInt - lo).toNat = (x.toInt - (lo + 1)).toNat + 1 by omega, List.getElem?_cons_succ]
        exact a3
      · right
        exact ⟨by omega, a2⟩
theorem mm_ksI {x : Int32} {k : Int → Prop} {d : Prop} {df : Int} (hd : d → k df) : ∀ (ps : List (Int × Int)), (∀ q ∈ ps, -2147483648 ≤ q.1 ∧ q.1 < 2147483648) → mm_ks x ps k d → k (Op.lookupswitch.offset ps df x.toInt)
  | [], _, h => hd h
  | q :: r, hp, h => by
    obtain ⟨a, o⟩ := q
    obtain ⟨h1, h2⟩ := hp (a, o) List.mem_cons_self
    rw [Op.lookupswitch.offset_cons]
    by_cases hx : x.toInt = a
    · rw [if_pos (by first | exact hx | exact hx.symm)]
      exact h.1 ((mm_i32 h1 h2).mpr hx)
    · rw [if_neg (by first | exact hx | exact fun q => hx q.symm)]
      exact mm_ksI hd r (fun q hq => hp q (List.mem_cons_of_mem _ hq)) (h.2 fun q => hx ((mm_i32 h1 h2).mp q))
theorem mm_callK {H : Heap} {locs : List Loc} {u w pc id : Nat} {la : Array Slot} {st0 : List Value} {M : mm_M} {ad : Nat → Nat → Nat} {ls : List (Option mm_V)} {As r : List mm_V} {K : mm_K0} {Γ : mm_G} (X : mm_ctx p s m args meth c R g cc D dA sz) (hh : mm_h g D dA sz ad0 M0 s M ad H locs) (hl : lv_has la g.2.1 (mm_L ad 0 ls)) (hΓ : mm_Ok l D dA sz R Γ) (hK : ∀ pc ls st M u w, K pc ls st M u w → mm_W p l e R s m args below meth c Qs g D dA sz ad0 M0 pc ls st M u w) (hc : mm_call g Γ K id As r pc ls M u w)
    (run : ∀ (rm : Room) (Post : Option mm_V → mm_M → Prop), rm.cells = mm_mc id → rm.slots = mm_ms id → rm.frames + 1 ≤ R.frames → 8 + (mm_ml id + 11) + rm.locals ≤ R.locals → Met l (mm_y id) (mm_ws id) rm (mm_Pc D dA sz ad M As) (mm_Qc D dA sz (mm_al id) ad M Post) (mm_mc id) (mm_ms id) (fun q : Nat => sz ≤ q) → (u + mm_mc id ≤ R.cells ∧ w + mm_ms id ≤ R.slots) → 2 * (F0 m pc la st0).monitorRoom + ((r.map (mm_val ad)).map fun v => v.category).sum ≤ 8 →
      va_Run p l e R s m args below meth c H locs u w (mm_mc id) (mm_ms id) (F0 m pc la st0) (r.map (mm_val ad)) (mm_Qc D dA sz (mm_al id) ad M Post (As.map (mm_val ad)).toArray) (fun q : Nat => sz ≤ q)) : W p l e R s m args below meth c H locs u w Qs (F0 m pc la st0) := by
  obtain ⟨h8, hu, hw, hal, hG⟩ := hc
  obtain ⟨rm, r1, r2, r3, r4, hM⟩ := hΓ _ _ _ _ hG
  obtain ⟨-, -, -, -, -, -, -, -, -, hz, hC, hSl, -⟩ := X
  refine mm_callgo (run rm _ r1 r2 r3 r4 (hM ad) ⟨Nat.le_trans hu hC, Nat.le_trans hw hSl⟩ (lv_room (by rw [mm_smV]; exact h8))) hh.2.2.2.2 fun v M' ad' H1 locs1 hp a1 a2 hR hk hS => ?_
  have hval : r.map (mm_val ad) = r.map (mm_val ad') ∧ mm_L ad 0 ls = mm_L ad' 0 ls := by
    cases ha : mm_al id with
    | false => rw [a1 ha]; exact ⟨rfl, rfl⟩
    | true => exact ⟨(mm_okSI (fun f i h => (a2 f i h).1) (hal ha).2.2).symm, (mm_okLI (fun f i h => (a2 f i h).1) (hal ha).2.1).symm⟩
  have hh' : mm_h g D dA sz ad0 M0 s M' ad' H1 locs1 := by
    obtain ⟨h1, h2, h3, h4, h5⟩ := hh
    refine ⟨fun q => ?_, fun f i hf => ?_, hR, ?_, hS⟩
    · cases ha : mm_al id with
      | false => rw [a1 ha]; exact h1 q
      | true => rw [(hal ha).1] at q; cases q
    · obtain ⟨b1, b2⟩ := h2 f i hf
      obtain ⟨b3, b4⟩ := a2 f i b2
      exact ⟨b3.trans b1, b4⟩
    · unfold mm_sc at h4 ⊢
      split
      · trivial
      · rename_i q hq
        rw [hq] at h4
        obtain ⟨b3, b4⟩ := a2 999 0 h4.2.2
        rw [b3]
        refine ⟨va_X.kept h4.1 (hk _ ?_ ?_), h4.2.1, b4⟩
        · have := h4.2.1; have := h5.1; omega
        · have := h4.2.1; omega
  have this := hK _ _ _ _ _ _ hp ad' H1 locs1 la hh' (by rw [← hval.2]; exact hl)
  rw [hval.1]
  have e : ((v.toList ++ r).map (mm_val ad')) = (v.map (mm_val ad')).toList ++ r.map (mm_val ad') := by cases v <;> simp
  rw [← e]
  exact this
theorem mm_pcI {H : Heap} {locs : List Loc} {M : mm_M} {ad : Nat → Nat → Nat} {As : List mm_V} (X : mm_ctx p s m args meth c R g cc D dA sz) (hh : mm_h g D dA sz ad0 M0 s M ad H locs) : ∀ U : State, U.heap = H → s.WarmedH U.vm → mm_Pc D dA sz ad M As (As.map (mm_val ad)).toArray U := by
  intro U hU hW
  obtain ⟨-, -, -, -, -, hK, -, -, -, hz, -⟩ := X
  exact ⟨rfl, by rw [hU]; exact Nat.le_trans hz hh.2.2.2.2.1, by rw [hU]; exact hh.2.2.1, mm_K.moved hW hK⟩
theorem mm_recvI {H : Heap} {locs : List Loc} {M : mm_M} {ad : Nat → Nat → Nat} {f i ci : Nat} (X : mm_ctx p s m args meth c R g cc D dA sz) (hh : mm_h g D dA sz ad0 M0 s M ad H locs) (hi : mm_is M f i ci) : ∃ cell : Cell, H[ad f i]? = some cell ∧ cell.vm.isStatics = false ∧ s.vm.findClass (mm_nm ci) = some cell.cls := by
  obtain ⟨-, -, -, -, -, hK, -⟩ := X
  obtain ⟨hY, h9, hdm⟩ := hi
  obtain ⟨r, hc, e1, -⟩ := mm_clok hY
  have hat := (hh.2.2.1.1 f i h9 hdm).1
  rw [mm_cellO hY] at hat
  obtain ⟨q', h1, cell, g1, g2, g3, -⟩ := hat
  exact ⟨cell, g1, by rw [g3]; rfl, by rw [← e1, g2]; exact (hK.1.1 ci r hc).2.1⟩
theorem mm_revI {ad : Nat → Nat → Nat} (xs r : List mm_V) : ((xs.reverse ++ []).map (mm_val ad)).reverse ++ r.map (mm_val ad) = (xs ++ r).map (mm_val ad) := by
  rw [List.append_nil, List.map_reverse, List.reverse_reverse, List.map_append]

set_option maxHeartbeats 4000000 in
theorem mm_i_sound {Γ : mm_G} {Q : Option mm_V → mm_M → Prop} {K : mm_K0} (X : mm_ctx p s m args meth c R g cc D dA sz) (hΓ : mm_Ok l D dA sz R Γ)
    (hK : ∀ pc ls st M u w, K pc ls st M u w → mm_W p l e R s m args below meth c Qs g D dA sz ad0 M0 pc ls st M u w)
    (hretI : ∀ (x : Int32) (ty : FieldType) (M : mm_M) (ad : Nat → Nat → Nat) (H : Heap) (locs : List Loc) (la : Array Slot) (pc : Nat), Q (some (.inl x)) M → g.2.2.1 = some ty → narrow ty (.int x) = .int x → decode cc pc = .ok (.ireturn, 1) → mm_h g D dA sz ad0 M0 s M ad H locs → W p l e R s m args below meth c H locs g.2.2.2.2.1 g.2.2.2.2.2.1 Qs (F0 m pc la [.int x]))
    (hretL : ∀ (x : Int64) (M : mm_M) (ad : Nat → Nat → Nat) (H : Heap) (locs : List Loc) (la : Array Slot) (pc : Nat), Q (some (.inr (.inl x))) M → g.2.2.1 = some .long → decode cc pc = .ok (.lreturn, 1) → mm_h g D dA sz ad0 M0 s M ad H locs → W p l e R s m args below meth c H locs g.2.2.2.2.1 g.2.2.2.2.2.1 Qs (F0 m pc la [.long x]))
    (hretV : ∀ (M : mm_M) (ad : Nat → Nat → Nat) (H : Heap) (locs : List Loc) (la : Array Slot) (pc : Nat), Q none M → g.2.2.1 = none → decode cc pc = .ok (.return_, 1) → mm_h g D dA sz ad0 M0 s M ad H locs → W p l e R s m args below meth c H locs g.2.2.2.2.1 g.2.2.2.2.2.1 Qs (F0 m pc la []))
    {ins : Instr} {len pc : Nat} {ls : List (Option mm_V)} {st : List mm_V} {M : mm_M} {u w : Nat} (hd : decode cc pc = .ok (ins, len)) (h : mm_i g Γ Q K ins len pc ls st M u w) : mm_W p l e R s m args below meth c Qs g D dA sz ad0 M0 pc ls st M u w := by
  intro ad H locs la hh hl
  have X' := X
  obtain ⟨hx, hb, hml, hown, hts, hKm, hlk, hrt, hct, hz, hC, hSl, hfr, hlo⟩ := X
  have go : ∀ (pc' : Nat) (ls' : List (Option mm_V)) (st' : List mm_V) (u' w' : Nat) (la' : Array Slot), K pc' ls' st' M u' w' → lv_has la' g.2.1 (mm_L ad 0 ls') → W p l e R s m args below meth c H locs u' w' Qs (F0 m pc' la' (st'.map (mm_val ad))) := fun _ _ _ _ _ la' hk hl' => hK _ _ _ _ _ _ hk ad H locs la' hh hl'
  cases ins
  case iconst n =>
    obtain ⟨rfl, h⟩ := h
    exact lv_iconst hx hb hd rfl (go _ _ _ _ _ _ h hl)
  case bipush n =>
    obtain ⟨rfl, h⟩ := h
    exact lv_bipush hx hb hd rfl (go _ _ _ _ _ _ h hl)
  case sipush n =>
    obtain ⟨rfl, h⟩ := h
    exact lv_sipush hx hb hd rfl (go _ _ _ _ _ _ h hl)
  case lconst n =>
    obtain ⟨rfl, h⟩ := h
    exact lv_lconst hx hb hd rfl (go _ _ _ _ _ _ h hl)
  case ldc i =>
    obtain ⟨rfl, h⟩ := h
    obtain ⟨v, hv, h⟩ := mm_oI h
    exact lv_ldc hx hb hown (hts _ (mm_CIok hv)) hd (go _ _ _ _ _ _ h hl)
  case ldc2_w i =>
    obtain ⟨rfl, h⟩ := h
    obtain ⟨v, hv, h⟩ := mm_oI h
    exact lv_ldc2 hx hb hown (hts _ (mm_CLok hv)) hd (go _ _ _ _ _ _ h hl)
  case iload_n k =>
    obtain ⟨rfl, h⟩ := h
    obtain ⟨v, hv, h⟩ := mm_lVI h
    obtain ⟨x, e_0, h_2⟩ := mm_vII h
    subst e_0
    clear h
    have h := h_2
    clear h_2
    exact lv_iload_n hx hb hd rfl (mm_L_at hl hv) (go _ _ _ _ _ _ h hl)
  case iload k =>
    obtain ⟨rfl, h⟩ := h
    obtain ⟨v, hv, h⟩ := mm_lVI h
    obtain ⟨x, e_0, h_2⟩ := mm_vII h
    subst e_0
    clear h
    have h := h_2
    clear h_2
    exact lv_iload hx hb hd (mm_L_at hl hv) (go _ _ _ _ _ _ h hl)
  case lload_n k =>
    obtain ⟨rfl, h⟩ := h
    obtain ⟨v, hv, h⟩ := mm_lVI h
    obtain ⟨x, e_0, h_2⟩ := mm_vLI h
    subst e_0
    clear h
    have h := h_2
    clear h_2
    exact lv_lload_n hx hb hd rfl (mm_L_at hl hv) (go _ _ _ _ _ _ h hl)
  case lload k =>
    obtain ⟨rfl, h⟩ := h
    obtain ⟨v, hv, h⟩ := mm_lVI h
    obtain ⟨x, e_0, h_2⟩ := mm_vLI h
    subst e_0
    clear h
    have h := h_2
    clear h_2
    exact lv_lload hx hb hd (mm_L_at hl hv) (go _ _ _ _ _ _ h hl)
  case aload_n k =>
    obtain ⟨rfl, h⟩ := h
    obtain ⟨v, hv, h⟩ := mm_lVI h
    obtain ⟨x, e_0, h_2⟩ := mm_vQI h
    subst e_0
    clear h
    have h := h_2
    clear h_2
    cases x with
    | none => exact lv_aload_nN hx hb hd rfl (mm_L_at hl hv) (go _ _ _ _ _ _ h hl)
    | some q => exact lv_aload_n hx hb hd rfl (mm_L_at hl hv) (go _ _ _ _ _ _ h hl)
  case aload k =>
    obtain ⟨rfl, h⟩ := h
    obtain ⟨v, hv, h⟩ := mm_lVI h
    obtain ⟨x, e_0, h_2⟩ := mm_vQI h
    subst e_0
    clear h
    have h := h_2
    clear h_2
    cases x with
    | none => exact lv_aloadN hx hb hd (mm_L_at hl hv) (go _ _ _ _ _ _ h hl)
    | some q => exact lv_aload hx hb hd (mm_L_at hl hv) (go _ _ _ _ _ _ h hl)
  case istore_n k =>
    obtain ⟨rfl, hn, h⟩ := h
    obtain ⟨x, r, e_0, h_2⟩ := mm_pII h
    subst e_0
    clear h
    have h := h_2
    clear h_2
    exact lv_istore_n hx hb hd rfl hl hn rfl (fun la' hl' => go _ _ _ _ _ _ h (mm_L_st1 (v := .inl x) la' _ hl'))
  case istore k =>
    obtain ⟨rfl, hn, h⟩ := h
    obtain ⟨x, r, e_0, h_2⟩ := mm_pII h
    subst e_0
    clear h
    have h := h_2
    clear h_2
    exact lv_istore hx hb hd hl hn rfl (fun la' hl' => go _ _ _ _ _ _ h (mm_L_st1 (v := .inl x) la' _ hl'))
  case lstore_n k =>
    obtain ⟨rfl, hn, h⟩ := h
    obtain ⟨x, r, e_0, h_2⟩ := mm_pLI h
    subst e_0
    clear h
    have h := h_2
    clear h_2
    exact lv_lstore_n hx hb hd rfl hl hn rfl (fun la' hl' => go _ _ _ _ _ _ h (mm_L_st2 (v := .inr (.inl x)) la' _ hl'))
  case lstore k =>
    obtain ⟨rfl, hn, h⟩ := h
    obtain ⟨x, r, e_0, h_2⟩ := mm_pLI h
    subst e_0
    clear h
    have h := h_2
    clear h_2
    exact lv_lstore hx hb hd hl hn rfl (fun la' hl' => go _ _ _ _ _ _ h (mm_L_st2 (v := .inr (.inl x)) la' _ hl'))
  case astore_n k =>
    obtain ⟨rfl, hn, h⟩ := h
    obtain ⟨f, i, r, e_0, h_2⟩ := mm_pRI h
    subst e_0
    clear h
    have h := h_2
    clear h_2
    exact lv_astore_n hx hb hd rfl hl hn rfl (fun la' hl' => go _ _ _ _ _ _ h (mm_L_st1 (v := .inr (.inr (some (f, i)))) la' _ hl'))
  case astore k =>
    obtain ⟨rfl, hn, h⟩ := h
    obtain ⟨f, i, r, e_0, h_2⟩ := mm_pRI h
    subst e_0
    clear h
    have h := h_2
    clear h_2
    exact lv_astore hx hb hd hl hn rfl (fun la' hl' => go _ _ _ _ _ _ h (mm_L_st1 (v := .inr (.inr (some (f, i)))) la' _ hl'))
  case iinc k n =>
    obtain ⟨rfl, hn, h⟩ := h
    obtain ⟨v, hv, h⟩ := mm_lVI h
    obtain ⟨x, e_0, h_2⟩ := mm_vII h
    subst e_0
    clear h
    have h := h_2
    clear h_2
    obtain ⟨k0, hk0⟩ := List.getElem?_of_mem ((mm_L_mem (ad := ad) ls 0 (k, .int x)).mpr ⟨k, .inl x, hv, by rw [Nat.zero_add]; rfl⟩)
    exact lv_iinc hx hb hd hl hk0 rfl hn rfl (fun la' hl' => go _ _ _ _ _ _ h (mm_L_st1 (v := .inl (x + Int32.ofInt n)) la' _ hl'))
  case iadd =>
    obtain ⟨rfl, h⟩ := h
    obtain ⟨y, r, e_0, h_2⟩ := mm_pII h
    subst e_0
    clear h
    have h := h_2
    clear h_2
    obtain ⟨x, r, e_0, h_2⟩ := mm_pII h
    subst e_0
    clear h
    have h := h_2
    clear h_2
    exact lv_iadd hx hb hd (go _ _ _ _ _ _ h hl)
  case isub =>
    obtain ⟨rfl, h⟩ := h
    obtain ⟨y, r, e_0, h_2⟩ := mm_pII h
    subst e_0
    clear h
    have h := h_2
    clear h_2
    obtain ⟨x, r, e_0, h_2⟩ := mm_pII h
    subst e_0
    clear h
    have h := h_2
    clear h_2
    exact lv_isub hx hb hd (go _ _ _ _ _ _ h hl)
  case imul =>
    obtain ⟨rfl, h⟩ := h
    obtain ⟨y, r, e_0, h_2⟩ := mm_pII h
    subst e_0
    clear h
    have h := h_2
    clear h_2
    obtain ⟨x, r, e_0, h_2⟩ := mm_pII h
    subst e_0
    clear h
    have h := h_2
    clear h_2
    exact lv_imul hx hb hd (go _ _ _ _ _ _ h hl)
  case iand =>
    obtain ⟨rfl, h⟩ := h
    obtain ⟨y, r, e_0, h_2⟩ := mm_pII h
    subst e_0
    clear h
    have h := h_2
    clear h_2
    obtain ⟨x, r, e_0, h_2⟩ := mm_pII h
    subst e_0
    clear h
    have h := h_2
    clear h_2
    exact lv_iand hx hb hd (go _ _ _ _ _ _ h hl)
  case ior =>
    obtain ⟨rfl, h⟩ := h
    obtain ⟨y, r, e_0, h_2⟩ := mm_pII h
    subst e_0
    clear h
    have h := h_2
    clear h_2
    obtain ⟨x, r, e_0, h_2⟩ := mm_pII h
    subst e_0
    clear h
    have h := h_2
    clear h_2
    exact lv_ior hx hb hd (go _ _ _ _ _ _ h hl)
  case ixor =>
    obtain ⟨rfl, h⟩ := h
    obtain ⟨y, r, e_0, h_2⟩ := mm_pII h
    subst e_0
    clear h
    have h := h_2
    clear h_2
    obtain ⟨x, r, e_0, h_2⟩ := mm_pII h
    subst e_0
    clear h
    have h := h_2
    clear h_2
    exact lv_ixor hx hb hd (go _ _ _ _ _ _ h hl)
  case ishl =>
    obtain ⟨rfl, h⟩ := h
    obtain ⟨y, r, e_0, h_2⟩ := mm_pII h
    subst e_0
    clear h
    have h := h_2
    clear h_2
    obtain ⟨x, r, e_0, h_2⟩ := mm_pII h
    subst e_0
    clear h
    have h := h_2
    clear h_2
    exact lv_ishl hx hb hd (go _ _ _ _ _ _ h hl)
  case ishr =>
    obtain ⟨rfl, h⟩ := h
    obtain ⟨y, r, e_0, h_2⟩ := mm_pII h
    subst e_0
    clear h
    have h := h_2
    clear h_2
    obtain ⟨x, r, e_0, h_2⟩ := mm_pII h
    subst e_0
    clear h
    have h := h_2
    clear h_2
    exact lv_ishr hx hb hd (go _ _ _ _ _ _ h hl)
  case iushr =>
    obtain ⟨rfl, h⟩ := h
    obtain ⟨y, r, e_0, h_2⟩ := mm_pII h
    subst e_0
    clear h
    have h := h_2
    clear h_2
    obtain ⟨x, r, e_0, h_2⟩ := mm_pII h
    subst e_0
    clear h
    have h := h_2
    clear h_2
    exact lv_iushr hx hb hd rfl (go _ _ _ _ _ _ h hl)
  case idiv =>
    obtain ⟨rfl, h⟩ := h
    obtain ⟨y, r, e_0, h_2⟩ := mm_pII h
    subst e_0
    clear h
    have h := h_2
    clear h_2
    obtain ⟨x, r, e_0, hne, h_2⟩ := mm_pII h
    subst e_0
    clear h
    have h := h_2
    clear h_2
    exact lv_idiv hx hb hd hne (go _ _ _ _ _ _ h hl)
  case irem =>
    obtain ⟨rfl, h⟩ := h
    obtain ⟨y, r, e_0, h_2⟩ := mm_pII h
    subst e_0
    clear h
    have h := h_2
    clear h_2
    obtain ⟨x, r, e_0, hne, h_2⟩ := mm_pII h
    subst e_0
    clear h
    have h := h_2
    clear h_2
    exact lv_irem hx hb hd hne (go _ _ _ _ _ _ h hl)
  case ineg =>
    obtain ⟨rfl, h⟩ := h
    obtain ⟨x, r, e_0, h_2⟩ := mm_pII h
    subst e_0
    clear h
    have h := h_2
    clear h_2
    exact lv_ineg hx hb hd (go _ _ _ _ _ _ h hl)
  case ladd =>
    obtain ⟨rfl, h⟩ := h
    obtain ⟨y, r, e_0, h_2⟩ := mm_pLI h
    subst e_0
    clear h
    have h := h_2
    clear h_2
    obtain ⟨x, r, e_0, h_2⟩ := mm_pLI h
    subst e_0
    clear h
    have h := h_2
    clear h_2
    exact lv_ladd hx hb hd (go _ _ _ _ _ _ h hl)
  case lsub =>
    obtain ⟨rfl, h⟩ := h
    obtain ⟨y, r, e_0, h_2⟩ := mm_pLI h
    subst e_0
    clear h
    have h := h_2
    clear h_2
    obtain ⟨x, r, e_0, h_2⟩ := mm_pLI h
    subst e_0
    clear h
    have h := h_2
    clear h_2
    exact lv_lsub hx hb hd (go _ _ _ _ _ _ h hl)
  case lmul =>
    obtain ⟨rfl, h⟩ := h
    obtain ⟨y, r, e_0, h_2⟩ := mm_pLI h
    subst e_0
    clear h
    have h := h_2
    clear h_2
    obtain ⟨x, r, e_0, h_2⟩ := mm_pLI h
    subst e_0
    clear h
    have h := h_2
    clear h_2
    exact lv_lmul hx hb hd (go _ _ _ _ _ _ h hl)
  case land =>
    obtain ⟨rfl, h⟩ := h
    obtain ⟨y, r, e_0, h_2⟩ := mm_pLI h
    subst e_0
    clear h
    have h := h_2
    clear h_2
    obtain ⟨x, r, e_0, h_2⟩ := mm_pLI h
    subst e_0
    clear h
    have h := h_2
    clear h_2
    exact lv_land hx hb hd (go _ _ _ _ _ _ h hl)
  case lor =>
    obtain ⟨rfl, h⟩ := h
    obtain ⟨y, r, e_0, h_2⟩ := mm_pLI h
    subst e_0
    clear h
    have h := h_2
    clear h_2
    obtain ⟨x, r, e_0, h_2⟩ := mm_pLI h
    subst e_0
    clear h
    have h := h_2
    clear h_2
    exact lv_lor hx hb hd (go _ _ _ _ _ _ h hl)
  case lxor =>
    obtain ⟨rfl, h⟩ := h
    obtain ⟨y, r, e_0, h_2⟩ := mm_pLI h
    subst e_0
    clear h
    have h := h_2
    clear h_2
    obtain ⟨x, r, e_0, h_2⟩ := mm_pLI h
    subst e_0
    clear h
    have h := h_2
    clear h_2
    exact lv_lxor hx hb hd (go _ _ _ _ _ _ h hl)
  case ldiv =>
    obtain ⟨rfl, h⟩ := h
    obtain ⟨y, r, e_0, h_2⟩ := mm_pLI h
    subst e_0
    clear h
    have h := h_2
    clear h_2
    obtain ⟨x, r, e_0, hne, h_2⟩ := mm_pLI h
    subst e_0
    clear h
    have h := h_2
    clear h_2
    exact lv_ldiv hx hb hd hne (go _ _ _ _ _ _ h hl)
  case lrem =>
    obtain ⟨rfl, h⟩ := h
    obtain ⟨y, r, e_0, h_2⟩ := mm_pLI h
    subst e_0
    clear h
    have h := h_2
    clear h_2
    obtain ⟨x, r, e_0, hne, h_2⟩ := mm_pLI h
    subst e_0
    clear h
    have h := h_2
    clear h_2
    exact lv_lrem hx hb hd hne (go _ _ _ _ _ _ h hl)
  case lneg =>
    obtain ⟨rfl, h⟩ := h
    obtain ⟨x, r, e_0, h_2⟩ := mm_pLI h
    subst e_0
    clear h
    have h := h_2
    clear h_2
    exact lv_lneg hx hb hd (go _ _ _ _ _ _ h hl)
  case lshl =>
    obtain ⟨rfl, h⟩ := h
    obtain ⟨y, r, e_0, h_2⟩ := mm_pII h
    subst e_0
    clear h
    have h := h_2
    clear h_2
    obtain ⟨x, r, e_0, h_2⟩ := mm_pLI h
    subst e_0
    clear h
    have h := h_2
    clear h_2
    exact lv_lshl hx hb hd rfl (go _ _ _ _ _ _ h hl)
  case lshr =>
    obtain ⟨rfl, h⟩ := h
    obtain ⟨y, r, e_0, h_2⟩ := mm_pII h
    subst e_0
    clear h
    have h := h_2
    clear h_2
    obtain ⟨x, r, e_0, h_2⟩ := mm_pLI h
    subst e_0
    clear h
    have h := h_2
    clear h_2
    exact lv_lshr hx hb hd rfl (go _ _ _ _ _ _ h hl)
  case lushr =>
    obtain ⟨rfl, h⟩ := h
    obtain ⟨y, r, e_0, h_2⟩ := mm_pII h
    subst e_0
    clear h
    have h := h_2
    clear h_2
    obtain ⟨x, r, e_0, h_2⟩ := mm_pLI h
    subst e_0
    clear h
    have h := h_2
    clear h_2
    exact lv_lushr hx hb hd rfl (go _ _ _ _ _ _ h hl)
  case i2l =>
    obtain ⟨rfl, h⟩ := h
    obtain ⟨x, r, e_0, h_2⟩ := mm_pII h
    subst e_0
    clear h
    have h := h_2
    clear h_2
    exact lv_i2l hx hb hd rfl (go _ _ _ _ _ _ h hl)
  case l2i =>
    obtain ⟨rfl, h⟩ := h
    obtain ⟨x, r, e_0, h_2⟩ := mm_pLI h
    subst e_0
    clear h
    have h := h_2
    clear h_2
    exact lv_l2i hx hb hd rfl (go _ _ _ _ _ _ h hl)
  case lcmp =>
    obtain ⟨rfl, h⟩ := h
    obtain ⟨y, r, e_0, h_2⟩ := mm_pLI h
    subst e_0
    clear h
    have h := h_2
    clear h_2
    obtain ⟨x, r, e_0, h_2⟩ := mm_pLI h
    subst e_0
    clear h
    have h := h_2
    clear h_2
    exact W.lcmp hx hb hd (go _ _ _ _ _ _ h hl)
  case dup =>
    obtain ⟨rfl, h⟩ := h
    obtain ⟨v, r, e_0, h1, h_2⟩ := mm_p1I h
    subst e_0
    clear h
    have h := h_2
    clear h_2
    exact lv_dup hx hb hd (by rw [mm_catV]; exact h1) (go _ _ (v :: v :: r) _ _ _ h hl)
  case pop =>
    obtain ⟨rfl, h⟩ := h
    obtain ⟨v, r, e_0, h1, h_2⟩ := mm_p1I h
    subst e_0
    clear h
    have h := h_2
    clear h_2
    exact lv_pop hx hb hd (by rw [mm_catV]; exact h1) (go _ _ r _ _ _ h hl)
  case dup_x1 =>
    obtain ⟨rfl, h⟩ := h
    obtain ⟨v, r, e_0, h_2⟩ := mm_p1I h
    subst e_0
    clear h
    have h := h_2
    clear h_2
    obtain ⟨v2, r, e_0, h1, h2, h_2⟩ := mm_p1I h
    subst e_0
    clear h
    have h := h_2
    clear h_2
    exact lv_dup_x1 hx hb hd (by rw [mm_catV]; exact h1) (by rw [mm_catV]; exact h2) (go _ _ (v :: v2 :: v :: r) _ _ _ h hl)
  case dup2 =>
    obtain ⟨rfl, h⟩ := h
    obtain ⟨v, r, e_0, h_2⟩ := mm_p1I h
    subst e_0
    clear h
    have h := h_2
    clear h_2
    obtain ⟨v2, r, e_0, h1, h2, h_2⟩ := mm_p1I h
    subst e_0
    clear h
    have h := h_2
    clear h_2
    exact lv_dup2_11 hx hb hd (by rw [mm_catV]; exact h1) (by rw [mm_catV]; exact h2) (go _ _ (v :: v2 :: v :: v2 :: r) _ _ _ h hl)
  case ifCond cd off =>
    obtain ⟨rfl, ho, h⟩ := h
    obtain ⟨x, r, e_0, h_2⟩ := mm_pII h
    subst e_0
    clear h
    have h := h_2
    clear h_2
    cases cd
    case eq => exact lv_if_eq hx hb hd (mm_jmpI ho) (fun q => go _ _ _ _ _ _ (h.1 q) hl) (fun q => go _ _ _ _ _ _ (h.2 q) hl)
    case ne => exact lv_if_ne hx hb hd (mm_jmpI ho) (fun q => go _ _ _ _ _ _ (h.1 q) hl) (fun q => go _ _ _ _ _ _ (h.2 (fun z => z q)) hl)
    case lt => exact lv_if_lt hx hb hd (mm_jmpI ho) (fun q => go _ _ _ _ _ _ (h.1 q) hl) (fun q => go _ _ _ _ _ _ (h.2 q) hl)
    case ge => exact lv_if_ge hx hb hd (mm_jmpI ho) (fun q => go _ _ _ _ _ _ (h.1 q) hl) (fun q => go _ _ _ _ _ _ (h.2 q) hl)
    case gt => exact lv_if_gt hx hb hd (mm_jmpI ho) (fun q => go _ _ _ _ _ _ (h.1 q) hl) (fun q => go _ _ _ _ _ _ (h.2 q) hl)
    case le => exact lv_if_le hx hb hd (mm_jmpI ho) (fun q => go _ _ _ _ _ _ (h.1 q) hl) (fun q => go _ _ _ _ _ _ (h.2 q) hl)
  case if_icmp cd off =>
    obtain ⟨rfl, ho, h⟩ := h
    obtain ⟨y, r, e_0, h_2⟩ := mm_pII h
    subst e_0
    clear h
    have h := h_2
    clear h_2
    obtain ⟨x, r, e_0, h_2⟩ := mm_pII h
    subst e_0
    clear h
    have h := h_2
    clear h_2
    cases cd
    case eq => exact lv_icmp_eq hx hb hd (mm_jmpI ho) (fun q => go _ _ _ _ _ _ (h.1 q) hl) (fun q => go _ _ _ _ _ _ (h.2 q) hl)
    case ne => exact lv_icmp_ne hx hb hd (mm_jmpI ho) (fun q => go _ _ _ _ _ _ (h.1 q) hl) (fun q => go _ _ _ _ _ _ (h.2 (fun z => z q)) hl)
    case lt => exact lv_icmp_lt hx hb hd (mm_jmpI ho) (fun q => go _ _ _ _ _ _ (h.1 q) hl) (fun q => go _ _ _ _ _ _ (h.2 q) hl)
    case ge => exact lv_icmp_ge hx hb hd (mm_jmpI ho) (fun q => go _ _ _ _ _ _ (h.1 q) hl) (fun q => go _ _ _ _ _ _ (h.2 q) hl)
    case gt => exact lv_icmp_gt hx hb hd (mm_jmpI ho) (fun q => go _ _ _ _ _ _ (h.1 q) hl) (fun q => go _ _ _ _ _ _ (h.2 q) hl)
    case le => exact lv_icmp_le hx hb hd (mm_jmpI ho) (fun q => go _ _ _ _ _ _ (h.1 q) hl) (fun q => go _ _ _ _ _ _ (h.2 q) hl)
  case goto off =>
    obtain ⟨rfl, ho, h⟩ := h
    exact lv_goto hx hb hd (mm_jmpI ho) (go _ _ _ _ _ _ h hl)
  case tableswitch d lo hi offs =>
    obtain ⟨⟨t1, t2, t3⟩, h⟩ := h
    obtain ⟨x, r, e_0, h_2⟩ := mm_pII h
    subst e_0
    clear h
    have h := h_2
    clear h_2
    rcases mm_tsI offs.toList lo t2 t3 h with ⟨off, a1, a2, a3, a4, a5⟩ | ⟨a1, a2, a3⟩
    · exact lv_tableIn hx hb hd a1 (by omega) (by rw [← Array.getElem?_toList]; exact a3) (mm_jmpI a4) (go _ _ _ _ _ _ a5 hl)
    · exact lv_tableOut hx hb hd (by omega) (mm_jmpI a2) (go _ _ _ _ _ _ a3 hl)
  case lookupswitch d ps =>
    obtain ⟨⟨t1, t2⟩, h⟩ := h
    obtain ⟨x, r, e_0, h_2⟩ := mm_pII h
    subst e_0
    clear h
    have h := h_2
    clear h_2
    obtain ⟨a4, a5⟩ := mm_ksI (df := d) (fun z => z) ps.toList t2 h
    exact lv_lookup hx hb hd t1 rfl (mm_jmpI a4) (go _ _ _ _ _ _ a5 hl)
  case getfield ix =>
    obtain ⟨rfl, h⟩ := h
    obtain ⟨f, i, r, e_0, h_2⟩ := mm_pRI h
    subst e_0
    clear h
    have h := h_2
    clear h_2
    obtain ⟨⟨ci, k⟩, hq, hi, h⟩ := mm_oI h
    exact mm_getf X' hh.2.2.1 hq hi hd (go _ _ (mm_get M (mm_ft ci k) f i k :: r) _ _ _ h hl)
  case putfield ix =>
    obtain ⟨rfl, h⟩ := h
    obtain ⟨⟨ci, k⟩, hq, h⟩ := mm_oI h
    obtain ⟨v, r, e_0, h_2⟩ := mm_p1I h
    subst e_0
    clear h
    have h := h_2
    clear h_2
    obtain ⟨f, i, r, e_0, hi, hp, h_2⟩ := mm_pRI h
    subst e_0
    clear h
    have h := h_2
    clear h_2
    exact mm_putf X' hh hq hi hp h hd (fun M' H1 locs1 hk hh' => hK _ _ _ _ _ _ hk ad H1 locs1 la hh' hl)
  case iaload =>
    obtain ⟨rfl, h⟩ := h
    obtain ⟨j, r, e_0, h_2⟩ := mm_pII h
    subst e_0
    clear h
    have h := h_2
    clear h_2
    obtain ⟨f, i, r, e_0, h_2⟩ := mm_pRI h
    subst e_0
    clear h
    have h := h_2
    clear h_2
    split at h
    · rename_i e9
      subst e9
      obtain ⟨q, hq, e_0, hin, h_2⟩ := mm_oI h
      subst e_0
      clear h
      have h := h_2
      clear h_2
      have h4 := hh.2.2.2.1
      unfold mm_sc at h4
      rw [hq] at h4
      obtain ⟨scr, c1, c2, c3, c4, c5⟩ := h4.1
      have hlt : j.toNatClampNeg < q.1 := Nat.not_le.mp fun z => hin (Or.inr z)
      exact W.iald (v := .int (q.2 j.toNatClampNeg)) hx hb c1 c2 c3 (by rw [c4]; exact hin) (c5 _ hlt) rfl rfl hd (go _ _ (.inl (q.2 j.toNatClampNeg) :: r) _ _ _ h hl)
    · obtain ⟨⟨hY, h9, hdm⟩, hin, h⟩ := h
      have hat := (hh.2.2.1.1 f i h9 hdm).1
      rw [mm_cellA hY] at hat
      obtain ⟨t0, ht⟩ := mm_tyI hKm (mm_Yok hY)
      exact va_iald hx hb hKm.1 (mm_one hat) 0 t0 rfl ht hin hd (go _ _ (.inl (M.1 f i j.toNatClampNeg) :: r) _ _ _ h hl)
  case baload =>
    obtain ⟨rfl, h⟩ := h
    obtain ⟨j, r, e_0, h_2⟩ := mm_pII h
    subst e_0
    clear h
    have h := h_2
    clear h_2
    obtain ⟨f, i, r, e_0, h_2⟩ := mm_pRI h
    subst e_0
    clear h
    have h := h_2
    clear h_2
    obtain ⟨⟨hY, h9, hdm⟩, hin, h⟩ := h
    have hat := (hh.2.2.1.1 f i h9 hdm).1
    rw [mm_cellA hY] at hat
    obtain ⟨t0, ht⟩ := mm_tyI hKm (mm_Yok hY)
    exact va_zald hx hb hKm.1 (mm_one hat) 0 t0 rfl ht hin hd (go _ _ (.inl (M.1 f i j.toNatClampNeg) :: r) _ _ _ h hl)
  case laload =>
    obtain ⟨rfl, h⟩ := h
    obtain ⟨j, r, e_0, h_2⟩ := mm_pII h
    subst e_0
    clear h
    have h := h_2
    clear h_2
    obtain ⟨f, i, r, e_0, h_2⟩ := mm_pRI h
    subst e_0
    clear h
    have h := h_2
    clear h_2
    obtain ⟨⟨hY, h9, hdm⟩, hin, h⟩ := h
    have hat := (hh.2.2.1.1 f i h9 hdm).1
    rw [mm_cellA hY] at hat
    obtain ⟨t0, ht⟩ := mm_tyI hKm (mm_Yok hY)
    exact va_lald hx hb hKm.1 (mm_one hat) 0 t0 rfl ht hin hd (go _ _ (.inr (.inl (M.2.1 f i j.toNatClampNeg)) :: r) _ _ _ h hl)
  case aaload =>
    obtain ⟨rfl, h⟩ := h
    obtain ⟨j, r, e_0, h_2⟩ := mm_pII h
    subst e_0
    clear h
    have h := h_2
    clear h_2
    obtain ⟨f, i, r, e_0, C, h_2⟩ := mm_pRI h
    subst e_0
    clear h
    have h := h_2
    clear h_2
    obtain ⟨⟨hY, h9, hdm⟩, hin, h⟩ := h
    have hat := (hh.2.2.1.1 f i h9 hdm).1
    rw [mm_cellA hY] at hat
    obtain ⟨t0, ht⟩ := mm_tyI hKm (mm_Yok hY)
    exact va_aldq hx hb hKm.1 (mm_one hat) 0 t0 rfl ht hin hd (go _ _ (.inr (.inr (M.2.2.1 f i j.toNatClampNeg)) :: r) _ _ _ h hl)
  case iastore =>
    obtain ⟨rfl, h⟩ := h
    obtain ⟨x, r, e_0, h_2⟩ := mm_pII h
    subst e_0
    clear h
    have h := h_2
    clear h_2
    obtain ⟨j, r, e_0, h_2⟩ := mm_pII h
    subst e_0
    clear h
    have h := h_2
    clear h_2
    obtain ⟨f, i, r, e_0, hi, hin, h_2⟩ := mm_pRI h
    subst e_0
    clear h
    have h := h_2
    clear h_2
    exact mm_iast X' hh hi hin hd (fun H1 locs1 hh' => hK _ _ _ _ _ _ h ad H1 locs1 la hh' hl)
  case bastore =>
    obtain ⟨rfl, h⟩ := h
    obtain ⟨x, r, e_0, h_2⟩ := mm_pII h
    subst e_0
    clear h
    have h := h_2
    clear h_2
    obtain ⟨j, r, e_0, h_2⟩ := mm_pII h
    subst e_0
    clear h
    have h := h_2
    clear h_2
    obtain ⟨f, i, r, e_0, hi, hin, h_2⟩ := mm_pRI h
    subst e_0
    clear h
    have h := h_2
    clear h_2
    exact mm_zast X' hh hi hin hd (fun H1 locs1 hh' => hK _ _ _ _ _ _ h ad H1 locs1 la hh' hl)
  case lastore =>
    obtain ⟨rfl, h⟩ := h
    obtain ⟨x, r, e_0, h_2⟩ := mm_pLI h
    subst e_0
    clear h
    have h := h_2
    clear h_2
    obtain ⟨j, r, e_0, h_2⟩ := mm_pII h
    subst e_0
    clear h
    have h := h_2
    clear h_2
    obtain ⟨f, i, r, e_0, hi, hin, h_2⟩ := mm_pRI h
    subst e_0
    clear h
    have h := h_2
    clear h_2
    exact mm_last X' hh hi hin hd (fun H1 locs1 hh' => hK _ _ _ _ _ _ h ad H1 locs1 la hh' hl)
  case aastore =>
    obtain ⟨rfl, h⟩ := h
    obtain ⟨f2, i2, r, e_0, h_2⟩ := mm_pRI h
    subst e_0
    clear h
    have h := h_2
    clear h_2
    obtain ⟨j, r, e_0, h_2⟩ := mm_pII h
    subst e_0
    clear h
    have h := h_2
    clear h_2
    obtain ⟨f, i, r, e_0, ci, hv, hi, hin, h_2⟩ := mm_pRI h
    subst e_0
    clear h
    have h := h_2
    clear h_2
    exact mm_aast X' hh hv hi hin hd (fun H1 locs1 hh' => hK _ _ _ _ _ _ h ad H1 locs1 la hh' hl)
  case arraylength =>
    obtain ⟨rfl, h⟩ := h
    obtain ⟨f, i, r, e_0, h_2⟩ := mm_pRI h
    subst e_0
    clear h
    have h := h_2
    clear h_2
    split at h
    · rename_i e9
      subst e9
      obtain ⟨q, hq, e_0, h_2⟩ := mm_oI h
      subst e_0
      clear h
      have h := h_2
      clear h_2
      have h4 := hh.2.2.2.1
      unfold mm_sc at h4
      rw [hq] at h4
      obtain ⟨scr, c1, c2, c3, c4, c5⟩ := h4.1
      exact W.alen (n := Int32.ofNat q.1) hx hb c1 c2 (by rw [c4] <;> rfl) rfl rfl hd (go _ _ (.inl (Int32.ofNat q.1) :: r) _ _ _ h hl)
    · obtain ⟨ty, ⟨hY, h9, hdm⟩, h⟩ := h
      have hat := (hh.2.2.1.1 f i h9 hdm).1
      rw [mm_cellA hY] at hat
      obtain ⟨t0, ht⟩ := mm_tyI hKm (mm_Yok hY)
      exact va_alen hx hb hKm.1 (mm_one hat) 0 t0 rfl ht (by unfold mm_arr; cases ty <;> rfl) hd (go _ _ (.inl (Int32.ofNat (mm_len f)) :: r) _ _ _ h hl)
  case invokestatic ix =>
    obtain ⟨rfl, h⟩ := h
    split at h
    · rename_i jm hj
      obtain ⟨hu, hw, h⟩ := h
      match jm, hj, h with
      | 0, hj, h =>
        obtain ⟨y, r, e_0, h_2⟩ := mm_pII h
        subst e_0
        clear h
        have h := h_2
        clear h_2
        obtain ⟨x, r, e_0, h8, h_2⟩ := mm_pII h
        subst e_0
        clear h
        have h := h_2
        clear h_2
        obtain ⟨k1, k2, k3, k4⟩ := mm_JM0 hj
        exact va_mmax hx hb (by rw [hml]; exact hl.1.symm) hown (hts _ k1) (hts _ k2) (hts _ k3) (hts _ k4) hfr (by rw [mm_smV]; omega) (Nat.le_trans hu hC) (Nat.le_trans hw hSl) hd (go _ _ (.inl (if x < y then y else x) :: r) _ _ _ h hl)
      | 1, hj, h =>
        obtain ⟨x, r, e_0, h8, h_2⟩ := mm_pII h
        subst e_0
        clear h
        have h := h_2
        clear h_2
        obtain ⟨k1, k2, k3, k4⟩ := mm_JM1 hj
        exact va_mabs hx hb (by rw [hml]; exact hl.1.symm) hown (hts _ k1) (hts _ k2) (hts _ k3) (hts _ k4) hfr (by rw [mm_smV]; omega) (Nat.le_trans hu hC) (Nat.le_trans hw hSl) hd (go _ _ (.inl (if 0 ≤ x then x else 0 - x) :: r) _ _ _ h hl)
      | 2, hj, h =>
        obtain ⟨y, r, e_0, h_2⟩ := mm_pLI h
        subst e_0
        clear h
        have h := h_2
        clear h_2
        obtain ⟨x, r, e_0, h8, h_2⟩ := mm_pLI h
        subst e_0
        clear h
        have h := h_2
        clear h_2
        obtain ⟨k1, k2, k3, k4⟩ := mm_JM2 hj
        exact va_mmax_long hx hb (by rw [hml]; exact hl.1.symm) hown (hts _ k1) (hts _ k2) (hts _ k3) (hts _ k4) hfr (by rw [mm_smV]; omega) (Nat.le_trans hu hC) (Nat.le_trans hw hSl) hd (go _ _ (.inr (.inl (if y < x then x else y)) :: r) _ _ _ h hl)
      | 3, hj, h =>
        obtain ⟨y, r, e_0, h_2⟩ := mm_pLI h
        subst e_0
        clear h
        have h := h_2
        clear h_2
        obtain ⟨x, r, e_0, h8, h_2⟩ := mm_pLI h
        subst e_0
        clear h
        have h := h_2
        clear h_2
        obtain ⟨k1, k2, k3, k4⟩ := mm_JM3 hj
        exact va_mmin_long hx hb (by rw [hml]; exact hl.1.symm) hown (hts _ k1) (hts _ k2) (hts _ k3) (hts _ k4) hfr (by rw [mm_smV]; omega) (Nat.le_trans hu hC) (Nat.le_trans hw hSl) hd (go _ _ (.inr (.inl (if y < x then y else x)) :: r) _ _ _ h hl)
      | _ + 4, hj, h => exact h.elim
    · obtain ⟨⟨id, n, kd⟩, hq, hk0, h⟩ := mm_oI h
      obtain ⟨xs, r, e_0, hn, h_2⟩ := mm_pNI _ _ _ _ h
      subst e_0
      clear h
      have h := h_2
      clear h_2
      obtain ⟨hcd, hini, hy, hli, hrest⟩ := mm_MTok hq (fun z => absurd (hk0.symm.trans z) (by decide))
      have hstat := hrest.1 hk0
      refine mm_callK X' hh hl hΓ hK h fun rm Post r1 r2 r3 r4 hM hcs h8 => ?_
      rcases hli with hli | ⟨ho, hli⟩
      · exact va_runS ⟨hx, hb, hml, hown, hts⟩ hM ⟨callB_of n hts (mm_good hcd) rfl r1 r2 (hts _ hini) (hts _ hli) hy ⟨r3, r4⟩, hts _ hstat⟩ ⟨mm_blind, mm_pcI X' hh⟩ rfl (by simpa using hn) hl.1 (mm_revI xs r).symm h8 hd hcs
      · exact va_runSN ⟨hx, hb, hml, hown, hts⟩ hM ⟨va_cnB n hts (mm_good hcd) rfl r1 r2 (hKm.2.2.1 _ hli) (hts _ hini) hy ⟨r3, r4⟩, hts _ hstat, trivial⟩ ⟨mm_blind, mm_pcI X' hh⟩ rfl (by simpa using hn) hl.1 (mm_revI xs r).symm h8 hd hcs
  case invokevirtual ix =>
    obtain ⟨rfl, h⟩ := h
    obtain ⟨⟨id, n, kd⟩, hq, hk0, h⟩ := mm_oI h
    obtain ⟨xs, r, e_0, hn, h_2⟩ := mm_pNI _ _ _ _ h
    subst e_0
    clear h
    have h := h_2
    clear h_2
    obtain ⟨f, i, r, e_0, hi, h_2⟩ := mm_pRI h
    subst e_0
    clear h
    have h := h_2
    clear h_2
    obtain ⟨hcd, hini, hy, hli, hrest⟩ := mm_MTok hq (fun z => absurd (hk0.symm.trans z) (by decide))
    obtain ⟨hinst, hsel⟩ := hrest.2.1 hk0
    refine mm_callK X' hh hl hΓ hK h fun rm Post r1 r2 r3 r4 hM hcs h8 => ?_
    rcases hli with hli | ⟨ho, hli⟩
    · exact va_runV (As := (xs.reverse ++ []).map (mm_val ad)) ⟨hx, hb, hml, hown, hts⟩ hM ⟨callB_of n hts (mm_good hcd) rfl r1 r2 (hts _ hini) (hts _ hli) hy ⟨r3, r4⟩, hts _ hinst, hts _ hsel⟩ ⟨mm_blind, mm_recvI X' hh hi, mm_pcI X' hh⟩ rfl (by simpa using hn) hl.1 (mm_revI xs (_ :: r)).symm h8 hd hcs
    · exact va_runVN (As := (xs.reverse ++ []).map (mm_val ad)) ⟨hx, hb, hml, hown, hts⟩ hM ⟨va_cnB n hts (mm_good hcd) rfl r1 r2 (hKm.2.2.1 _ hli) (hts _ hini) hy ⟨r3, r4⟩, hts _ hinst, hts _ hsel⟩ ⟨mm_blind, mm_recvI X' hh hi, mm_pcI X' hh⟩ rfl (by simpa using hn) hl.1 (mm_revI xs (_ :: r)).symm h8 hd hcs
  case invokespecial ix =>
    obtain ⟨rfl, h⟩ := h
    obtain ⟨⟨id, n, kd⟩, hq, h⟩ := mm_oI h
    split at h
    · rename_i hk3
      obtain ⟨f, i, r, e_0, h8, h_2⟩ := mm_pRI h
      subst e_0
      clear h
      have h := h_2
      clear h_2
      obtain ⟨k1, k2, k3⟩ := mm_MT3 hq hk3
      refine W.objInit hx hb hown (hts _ k1) (hts _ k2) (hts _ k3) rfl (by rw [hml]; exact hl.1) rfl hd hfr ?_ (go _ _ r _ _ _ h hl)
      have := lv_room (m := m) (pc := pc) (ls := la) (rest := [.ref (ad f i)]) (st := r.map (mm_val ad)) (by rw [mm_smV]; exact h8)
      have h9 : (F0 m pc la (List.map (mm_val ad) (.inr (.inr (some (f, i))) :: r))).monitorRoom = (F0 m pc la [.ref (ad f i)]).monitorRoom := rfl
      rw [h9]
      omega
    · obtain ⟨hk0, h⟩ := h
      obtain ⟨xs, r, e_0, hn, h_2⟩ := mm_pNI _ _ _ _ h
      subst e_0
      clear h
      have h := h_2
      clear h_2
      obtain ⟨f, i, r, e_0, hi, h_2⟩ := mm_pRI h
      subst e_0
      clear h
      have h := h_2
      clear h_2
      obtain ⟨hcd, hini, hy, hli, hrest⟩ := mm_MTok hq (fun z => absurd (hk0.symm.trans z) (by decide))
      obtain ⟨hnm, hinst, hr0⟩ := hrest.2.2 hk0
      refine mm_callK X' hh hl hΓ hK h fun rm Post r1 r2 r3 r4 hM hcs h8 => ?_
      rcases hli with hli | ⟨ho, hli⟩
      · exact va_runI (As := (xs.reverse ++ []).map (mm_val ad)) ⟨hx, hb, hml, hown, hts⟩ hM ⟨callB_of n hts (mm_good hcd) (by rw [mm_ws, hr0]) r1 r2 (hts _ hini) (hts _ hli) hy ⟨r3, r4⟩, hnm, hts _ hinst⟩ ⟨mm_blind, mm_pcI X' hh⟩ rfl (by simpa using hn) hl.1 (mm_revI xs (_ :: r)).symm h8 hd hcs
      · exact va_runIN (As := (xs.reverse ++ []).map (mm_val ad)) ⟨hx, hb, hml, hown, hts⟩ hM ⟨va_cnB n hts (mm_good hcd) (by rw [mm_ws, hr0]) r1 r2 (hKm.2.2.1 _ hli) (hts _ hini) hy ⟨r3, r4⟩, hnm, hts _ hinst⟩ ⟨mm_blind, mm_pcI X' hh⟩ rfl (by simpa using hn) hl.1 (mm_revI xs (_ :: r)).symm h8 hd hcs
  case new ix =>
    obtain ⟨rfl, hal, h⟩ := h
    obtain ⟨ci, hcc, f, i, hY, h9, hf, hfre, okL, okS, hu, hw, h⟩ := mm_oI h
    refine mm_newc X' hh hal hcc hY h9 hf hfre hu hw hd fun H1 hh' => ?_
    have h2 := hK _ _ _ _ _ _ h _ H1 locs la hh' (by rw [mm_okLI (mm_newAd hf) okL]; exact hl)
    rw [List.map_cons, mm_okSI (mm_newAd hf) okS] at h2
    have e : mm_val (mm_ad ad f i H.size) (.inr (.inr (some (f, i)))) = .ref H.size := by
      show va_rf (some (mm_ad ad f i H.size f i)) = _
      rw [mm_ad_own]
      rfl
    rw [e] at h2
    exact h2
  case newarray t =>
    obtain ⟨rfl, hal, h⟩ := h
    obtain ⟨n, r, e_0, hn, hnb, hat, f, i, hY, h9, hf, hfre, okL, okS, hu, hw, h_2⟩ := mm_pII h
    subst e_0
    clear h
    have h := h_2
    clear h_2
    refine mm_newa X' hh hal hn hnb hat hY h9 hf hfre hu hw hd fun H1 hh' => ?_
    have h2 := hK _ _ _ _ _ _ h _ H1 locs la hh' (by rw [mm_okLI (mm_newAd hf) okL]; exact hl)
    rw [List.map_cons, mm_okSI (mm_newAd hf) okS] at h2
    have e : mm_val (mm_ad ad f i H.size) (.inr (.inr (some (f, i)))) = .ref H.size := by
      show va_rf (some (mm_ad ad f i H.size f i)) = _
      rw [mm_ad_own]
      rfl
    rw [e] at h2
    exact h2
  case anewarray ix =>
    obtain ⟨rfl, hal, h⟩ := h
    obtain ⟨C, hco, h⟩ := mm_oI h
    obtain ⟨n, r, e_0, hn, hnb, f, i, hY, h9, hf, hfre, okL, okS, hu, hw, h_2⟩ := mm_pII h
    subst e_0
    clear h
    have h := h_2
    clear h_2
    refine mm_newq X' hh hal hco hn hnb hY h9 hf hfre hu hw hd fun H1 hh' => ?_
    have h2 := hK _ _ _ _ _ _ h _ H1 locs la hh' (by rw [mm_okLI (mm_newAd hf) okL]; exact hl)
    rw [List.map_cons, mm_okSI (mm_newAd hf) okS] at h2
    have e : mm_val (mm_ad ad f i H.size) (.inr (.inr (some (f, i)))) = .ref H.size := by
      show va_rf (some (mm_ad ad f i H.size f i)) = _
      rw [mm_ad_own]
      rfl
    rw [e] at h2
    exact h2
  case ireturn =>
    obtain ⟨rfl, hu, hw, h⟩ := h
    obtain ⟨ty, ht, h⟩ := mm_oI h
    obtain ⟨x, r, e_0, e_1, hn, h_2⟩ := mm_pII h
    subst e_0
    subst e_1
    clear h
    have h := h_2
    clear h_2
    exact W.widen hu hw (hretI x ty M ad H locs la pc h ht hn hd hh)
  case lreturn =>
    obtain ⟨rfl, hu, hw, ht, h⟩ := h
    obtain ⟨x, r, e_0, e_1, h_2⟩ := mm_pLI h
    subst e_0
    subst e_1
    clear h
    have h := h_2
    clear h_2
    exact W.widen hu hw (hretL x M ad H locs la pc h ht hd hh)
  case return_ =>
    obtain ⟨rfl, hu, hw, ht, rfl, h⟩ := h
    exact W.widen hu hw (hretV M ad H locs la pc h ht hd hh)
  all_goals exact False.elim h
theorem mm_sound {Γ : mm_G} {Q : Option mm_V → mm_M → Prop} {cut : Nat → Option mm_X} (X : mm_ctx p s m args meth c R g cc D dA sz) (hΓ : mm_Ok l D dA sz R Γ)
    (hcut : ∀ (pc : Nat) (Y : mm_X), cut pc = some Y → ∀ ls st M u w, Y ls st M u w → mm_W p l e R s m args below meth c Qs g D dA sz ad0 M0 pc ls st M u w)
    (hretI : ∀ (x : Int32) (ty : FieldType) (M : mm_M) (ad : Nat → Nat → Nat) (H : Heap) (locs : List Loc) (la : Array Slot) (pc : Nat), Q (some (.inl x)) M → g.2.2.1 = some ty → narrow ty (.int x) = .int x → decode cc pc = .ok (.ireturn, 1) → mm_h g D dA sz ad0 M0 s M ad H locs → W p l e R s m args below meth c H locs g.2.2.2.2.1 g.2.2.2.2.2.1 Qs (F0 m pc la [.int x]))
    (hretL : ∀ (x : Int64) (M : mm_M) (ad : Nat → Nat → Nat) (H : Heap) (locs : List Loc) (la : Array Slot) (pc : Nat), Q (some (.inr (.inl x))) M → g.2.2.1 = some .long → decode cc pc = .ok (.lreturn, 1) → mm_h g D dA sz ad0 M0 s M ad H locs → W p l e R s m args below meth c H locs g.2.2.2.2.1 g.2.2.2.2.2.1 Qs (F0 m pc la [.long x]))
    (hretV : ∀ (M : mm_M) (ad : Nat → Nat → Nat) (H : Heap) (locs : List Loc) (la : Array Slot) (pc : Nat), Q none M → g.2.2.1 = none → decode cc pc = .ok (.return_, 1) → mm_h g D dA sz ad0 M0 s M ad H locs → W p l e R s m args below meth c H locs g.2.2.2.2.1 g.2.2.2.2.2.1 Qs (F0 m pc la [])) :
    ∀ (n pc : Nat) (ls : List (Option mm_V)) (st : List mm_V) (M : mm_M) (u w : Nat), mm_x g cc Γ cut Q n pc ls st M u w → mm_W p l e R s m args below meth c Qs g D dA sz ad0 M0 pc ls st M u w
  | 0, _, _, _, _, _, _, h => h.elim
  | n + 1, pc, ls, st, M, u, w, h => by
    unfold mm_x mm_s at h
    split at h
    · rename_i q hq
      refine mm_i_sound X hΓ ?_ hretI hretL hretV hq h
      intro pc ls st M u w hk
      unfold mm_cut at hk
      split at hk
      · rename_i Y hY
        exact hcut pc Y hY _ _ _ _ _ hk
      · exact mm_sound X hΓ hcut hretI hretL hretV n pc ls st M u w hk
    · exact h.elim
/-- loops: at the heads hds the state stands in I k; k falls -/
def mm_cutI (hds : Nat → Bool) (P : Nat → Nat → mm_X) (b : Nat) : Nat → Option mm_X := fun pc => if hds pc = true then some (fun ls st M u w => ∃ k, k < b ∧ P k pc ls st M u w) else none
end MMS
end
section
/-! a method by its evaluator; loops; lists of contracts -/
def mm_e0 : List mm_V → List (Option mm_V)
  | [] => []
  | .inr (.inl x) :: r => some (.inr (.inl x)) :: none :: mm_e0 r
  | .inl x :: r => some (.inl x) :: mm_e0 r
  | .inr (.inr x) :: r => some (.inr (.inr x)) :: mm_e0 r
def mm_en (nL : Nat) (As : List mm_V) : List (Option mm_V) := mm_e0 As ++ List.replicate (nL - (mm_e0 As).length) none
theorem mm_Lnone {ad : Nat → Nat → Nat} : ∀ (n k : Nat), mm_L ad k (List.replicate n none) = []
  | 0, _ => rfl
  | n + 1, k => by
    rw [List.replicate_succ, mm_L]
    exact mm_Lnone n (k + 1)
theorem mm_Len {ad : Nat → Nat → Nat} {n : Nat} : ∀ (As : List mm_V) (k : Nat), mm_L ad k (mm_e0 As ++ List.replicate n none) = lv_args k (As.map (mm_val ad))
  | [], k => mm_Lnone n k
  | .inr (.inl x) :: r, k => by
    rw [List.map_cons, lv_args]
    show (k, Value.long x) :: mm_L ad (k + 1 + 1) (mm_e0 r ++ List.replicate n none) = _
    rw [mm_Len r (k + 1 + 1)]
    rfl
  | .inl x :: r, k => by
    rw [List.map_cons, lv_args]
    show (k, Value.int x) :: mm_L ad (k + 1) (mm_e0 r ++ List.replicate n none) = _
    rw [mm_Len r (k + 1)]
    rfl
  | .inr (.inr none) :: r, k => by
    rw [List.map_cons, lv_args]
    show (k, Value.null) :: mm_L ad (k + 1) (mm_e0 r ++ List.replicate n none) = _
    rw [mm_Len r (k + 1)]
    rfl
  | .inr (.inr (some q)) :: r, k => by
    rw [List.map_cons, lv_args]
    show (k, Value.ref (ad q.1 q.2)) :: mm_L ad (k + 1) (mm_e0 r ++ List.replicate n none) = _
    rw [mm_Len r (k + 1)]
    rfl
theorem mm_slen {ad : Nat → Nat → Nat} : ∀ (As : List mm_V), (lg_sl (As.map (mm_val ad))).length = (mm_e0 As).length
  | [] => rfl
  | .inr (.inl x) :: r => by
    have h := mm_slen (ad := ad) r
    simp only [lg_sl, List.map_cons, List.flatMap_cons, List.length_append, mm_e0, List.length_cons] at h ⊢
    rw [h]
    simp [mm_val, Value.category]
    omega
  | .inl x :: r => by
    have h := mm_slen (ad := ad) r
    simp only [lg_sl, List.map_cons, List.flatMap_cons, List.length_append, mm_e0, List.length_cons] at h ⊢
    rw [h]
    simp [mm_val, Value.category]
    omega
  | .inr (.inr none) :: r => by
    have h := mm_slen (ad := ad) r
    simp only [lg_sl, List.map_cons, List.flatMap_cons, List.length_append, mm_e0, List.length_cons] at h ⊢
    rw [h]
    simp [mm_val, mm_ref, va_rf, Value.category]
    omega
  | .inr (.inr (some q)) :: r => by
    have h := mm_slen (ad := ad) r
    simp only [lg_sl, List.map_cons, List.flatMap_cons, List.length_append, mm_e0, List.length_cons] at h ⊢
    rw [h]
    simp [mm_val, mm_ref, va_rf, Value.category]
    omega
def mm_g (id : Nat) : mm_F := (mm_mo id, mm_ml id, mm_rt id, mm_al id, mm_mc id, mm_ms id, none, mm_ic id)
section MMM
variable {l : Launch} {D : va_G} {dA : FieldType → ClassId} {sz : Nat}
set_option maxHeartbeats 2000000 in
/-- a method with loops: at the heads the state stands in P k, and k falls -/
theorem mm_methL (id : Nat) (hid : id < mm_nid) {rm : Room} {As : List mm_V} {M : mm_M} {Post : Option mm_V → mm_M → Prop} {Γ : mm_G} (hrm : rm.cells = mm_mc id ∧ rm.slots = mm_ms id ∧ 1 ≤ rm.frames ∧ 40 ≤ rm.locals) (hΓ : mm_Ok l D dA sz rm Γ) (hlen : (mm_e0 As).length ≤ mm_ml id)
    (hds : Nat → Bool) (P : Nat → Nat → mm_X) (f0 f1 b : Nat) (h0 : mm_x (mm_g id) (mm_cc id) Γ (mm_cutI hds P b) Post f0 0 (mm_en (mm_ml id) As) [] M 0 0)
    (h1 : ∀ (k pc : Nat) (ls : List (Option mm_V)) (st : List mm_V) (M : mm_M) (u w : Nat), hds pc = true → P k pc ls st M u w → mm_x (mm_g id) (mm_cc id) Γ (mm_cutI hds P k) Post f1 pc ls st M u w) : mm_Met l D dA sz rm id As M Post := by
  intro ad
  obtain ⟨hpl, hcls, hic⟩ := mm_idok hid
  refine Met.ofW (cc := mm_cc id) (maxL := mm_ml id) (ret := mm_rt id) hpl rfl ?_
  intro p e s m args below meth c s₁ B hml hv
  obtain ⟨rfl, hz, hR, hK⟩ := hv
  have hts := atoms_spec (ws := mm_ws id) B.pre
  have hr := B.returns
  have hlocks := B.notSynchronized
  have X : mm_ctx p s m ((As.map (mm_val ad)).toArray) meth c (headSpec (mm_ws id) rm).room (mm_g id) (mm_cc id) D dA sz :=
    ⟨B.exec, B.bytes, hml, by rw [show mm_own (mm_g id).1 = (mm_y id).cls from hcls]; exact findClass_of_methodNamed B.named, fun w hw => hts w (List.mem_cons_of_mem _ hw), hK, hlocks, hr, fun h => (name_of_methodNamed B.named B.method).1.trans (hic h), hz, Nat.le_of_eq hrm.1.symm, Nat.le_of_eq hrm.2.1.symm, hrm.2.2.1, hrm.2.2.2⟩
  have hxx := B.exec
  have hbb := B.bytes
  have rI : ∀ (x : Int32) (ty : FieldType) (M' : mm_M) (ad' : Nat → Nat → Nat) (H : Heap) (locs : List Loc) (la : Array Slot) (pc : Nat), Post (some (.inl x)) M' → (mm_g id).2.2.1 = some ty → narrow ty (.int x) = .int x → decode (mm_cc id) pc = .ok (.ireturn, 1) → mm_h (mm_g id) D dA sz ad M s M' ad' H locs → W p l e (headSpec (mm_ws id) rm).room s m ((As.map (mm_val ad)).toArray) below meth c H locs (mm_g id).2.2.2.2.1 (mm_g id).2.2.2.2.2.1 (MQ below (mm_Qc D dA sz (mm_al id) ad M Post) ((As.map (mm_val ad)).toArray) s (mm_mc id) (mm_ms id) (fun q : Nat => sz ≤ q)) (F0 m pc la [.int x]) := by
    intro x ty M' ad' H locs la pc hq ht hn hd hh
    exact W.zret (v := x) hxx hbb (hr.trans ht) hn (fun t ht hW => ⟨⟨some (.inl x), M', ad', rfl, hq, hh.1, hh.2.1, by rw [ht]; exact hh.2.2.1, mm_K.moved hW hK⟩, hh.2.2.2.2.F ht⟩) hh.2.2.2.2.2.2 hd hlocks
  have rL : ∀ (x : Int64) (M' : mm_M) (ad' : Nat → Nat → Nat) (H : Heap) (locs : List Loc) (la : Array Slot) (pc : Nat), Post (some (.inr (.inl x))) M' → (mm_g id).2.2.1 = some .long → decode (mm_cc id) pc = .ok (.lreturn, 1) → mm_h (mm_g id) D dA sz ad M s M' ad' H locs → W p l e (headSpec (mm_ws id) rm).room s m ((As.map (mm_val ad)).toArray) below meth c H locs (mm_g id).2.2.2.2.1 (mm_g id).2.2.2.2.2.1 (MQ below (mm_Qc D dA sz (mm_al id) ad M Post) ((As.map (mm_val ad)).toArray) s (mm_mc id) (mm_ms id) (fun q : Nat => sz ≤ q)) (F0 m pc la [.long x]) := by
    intro x M' ad' H locs la pc hq ht hd hh
    exact W.lret (v := x) hxx hbb (hr.trans ht) (fun t ht hW => ⟨⟨some (.inr (.inl x)), M', ad', rfl, hq, hh.1, hh.2.1, by rw [ht]; exact hh.2.2.1, mm_K.moved hW hK⟩, hh.2.2.2.2.F ht⟩) hh.2.2.2.2.2.2 hd hlocks
  have rV : ∀ (M' : mm_M) (ad' : Nat → Nat → Nat) (H : Heap) (locs : List Loc) (la : Array Slot) (pc : Nat), Post none M' → (mm_g id).2.2.1 = none → decode (mm_cc id) pc = .ok (.return_, 1) → mm_h (mm_g id) D dA sz ad M s M' ad' H locs → W p l e (headSpec (mm_ws id) rm).room s m ((As.map (mm_val ad)).toArray) below meth c H locs (mm_g id).2.2.2.2.1 (mm_g id).2.2.2.2.2.1 (MQ below (mm_Qc D dA sz (mm_al id) ad M Post) ((As.map (mm_val ad)).toArray) s (mm_mc id) (mm_ms id) (fun q : Nat => sz ≤ q)) (F0 m pc la []) := by
    intro M' ad' H locs la pc hq ht hd hh
    exact W.vret hxx hbb (hr.trans ht) (fun t ht hW => ⟨⟨none, M', ad', rfl, hq, hh.1, hh.2.1, by rw [ht]; exact hh.2.2.1, mm_K.moved hW hK⟩, hh.2.2.2.2.F ht⟩) hh.2.2.2.2.2.2 hd hlocks
  have lp : ∀ (k pc : Nat), hds pc = true → ∀ (ls : List (Option mm_V)) (st : List mm_V) (M' : mm_M) (u w : Nat), P k pc ls st M' u w → mm_W p l e (headSpec (mm_ws id) rm).room s m ((As.map (mm_val ad)).toArray) below meth c (MQ below (mm_Qc D dA sz (mm_al id) ad M Post) ((As.map (mm_val ad)).toArray) s (mm_mc id) (mm_ms id) (fun q : Nat => sz ≤ q)) (mm_g id) D dA sz ad M pc ls st M' u w := by
    intro k
    induction k using Nat.strongRecOn with
    | ind k ih =>
      intro pc hpc ls st M' u w hP
      refine mm_sound X hΓ ?_ rI rL rV f1 pc ls st M' u w (h1 k pc ls st M' u w hpc hP)
      intro pc' Y hY ls st M' u w hYs
      unfold mm_cutI at hY
      split at hY
      · rename_i hpc'
        cases hY
        obtain ⟨k', hk', hP'⟩ := hYs
        exact ih k' hk' pc' hpc' ls st M' u w hP'
      · cases hY
  have hfin := mm_sound X hΓ (cut := mm_cutI hds P b) (fun pc' Y hY ls st M' u w hYs => by
      unfold mm_cutI at hY
      split at hY
      · rename_i hpc'
        cases hY
        obtain ⟨k', -, hP'⟩ := hYs
        exact lp k' pc' hpc' ls st M' u w hP'
      · cases hY) rI rL rV f0 0 (mm_en (mm_ml id) As) [] M 0 0 h0
  rw [lg_entry_eq]
  refine hfin ad s.heap [] _ ⟨fun _ => rfl, fun f i h => ⟨rfl, h⟩, hR, trivial, va_S.rf⟩ ?_
  have hl := lv_entry (As.map (mm_val ad)) (n := mm_ml id) (by rw [mm_slen]; exact hlen)
  unfold mm_en
  rw [mm_Len]
  exact hl
theorem mm_meth (id : Nat) (hid : id < mm_nid) {rm : Room} {As : List mm_V} {M : mm_M} {Post : Option mm_V → mm_M → Prop} {Γ : mm_G} (hrm : rm.cells = mm_mc id ∧ rm.slots = mm_ms id ∧ 1 ≤ rm.frames ∧ 40 ≤ rm.locals) (hΓ : mm_Ok l D dA sz rm Γ) (hlen : (mm_e0 As).length ≤ mm_ml id)
    (f0 : Nat) (h0 : mm_x (mm_g id) (mm_cc id) Γ (fun _ => none) Post f0 0 (mm_en (mm_ml id) As) [] M 0 0) : mm_Met l D dA sz rm id As M Post := by
  refine mm_methL id hid hrm hΓ hlen (fun _ => false) (fun _ _ _ _ _ _ _ => False) f0 f0 0 ?_ (fun _ _ _ _ _ _ _ h => by cases h)
  have e : mm_cutI (fun _ => false) (fun _ _ _ _ _ _ _ => False) 0 = fun _ => none := by
    funext pc
    unfold mm_cutI
    rfl
  rw [e]
  exact h0
abbrev mm_Ct : Type := List mm_V → mm_M → (Option mm_V → mm_M → Prop) → Prop
def mm_gl : List (Nat × mm_Ct) → mm_G
  | [], _, _, _, _ => False
  | q :: r, id, As, M, Post => if id = q.1 then q.2 As M Post else mm_gl r id As M Post
def mm_rm (d mc ms : Nat) : Room := { frames := d, cells := mc, slots := ms, locals := 60 * d }
/-- the contract k of method id, at rank d -/
def mm_Vd (l : Launch) (D : va_G) (dA : FieldType → ClassId) (sz d id : Nat) (k : mm_Ct) : Prop := ∀ (As : List mm_V) (M : mm_M) (Post : Option mm_V → mm_M → Prop), k As M Post → mm_Met l D dA sz (mm_rm d (mm_mc id) (mm_ms id)) id As M Post
theorem mm_okN {R : Room} : mm_Ok l D dA sz R (mm_gl []) := fun _ _ _ _ h => h.elim
theorem mm_okC {R : Room} {d id : Nat} {k : mm_Ct} {L : List (Nat × mm_Ct)} (h : mm_Vd l D dA sz d id k) (hf : d + 1 ≤ R.frames) (hlo : 8 + (mm_ml id + 11) + 60 * d ≤ R.locals) (hL : mm_Ok l D dA sz R (mm_gl L)) : mm_Ok l D dA sz R (mm_gl ((id, k) :: L)) := by
  intro id' As M Post hG
  unfold mm_gl at hG
  split at hG
  · rename_i e
    have e : id' = id := e
    subst e
    exact ⟨mm_rm d (mm_mc id') (mm_ms id'), rfl, rfl, hf, hlo, h As M Post hG⟩
  · exact hL id' As M Post hG
end MMM
end
section
/-! decode rows, printed by a program of mine out of the listing -/
theorem d0_0 : decode prog_1_method_1_code 0 = .ok (.aload_n 0, 1) := by decide +kernel
theorem d0_1 : decode prog_1_method_1_code 1 = .ok (.invokespecial 1, 3) := by decide +kernel
theorem d0_4 : decode prog_1_method_1_code 4 = .ok (.new 7, 3) := by decide +kernel
theorem d0_7 : decode prog_1_method_1_code 7 = .ok (.dup, 1) := by decide +kernel
theorem d0_8 : decode prog_1_method_1_code 8 = .ok (.invokespecial 9, 3) := by decide +kernel
theorem d0_11 : decode prog_1_method_1_code 11 = .ok (.astore_n 1, 1) := by decide +kernel
theorem d0_12 : decode prog_1_method_1_code 12 = .ok (.new 10, 3) := by decide +kernel
theorem d0_15 : decode prog_1_method_1_code 15 = .ok (.dup, 1) := by decide +kernel
theorem d0_16 : decode prog_1_method_1_code 16 = .ok (.aload_n 1, 1) := by decide +kernel
theorem d0_17 : decode prog_1_method_1_code 17 = .ok (.invokespecial 12, 3) := by decide +kernel
theorem d0_20 : decode prog_1_method_1_code 20 = .ok (.astore_n 2, 1) := by decide +kernel
theorem d0_21 : decode prog_1_method_1_code 21 = .ok (.aload_n 0, 1) := by decide +kernel
theorem d0_22 : decode prog_1_method_1_code 22 = .ok (.aload_n 1, 1) := by decide +kernel
theorem d0_23 : decode prog_1_method_1_code 23 = .ok (.putfield 15, 3) := by decide +kernel
theorem d0_26 : decode prog_1_method_1_code 26 = .ok (.aload_n 0, 1) := by decide +kernel
theorem d0_27 : decode prog_1_method_1_code 27 = .ok (.aload_n 2, 1) := by decide +kernel
theorem d0_28 : decode prog_1_method_1_code 28 = .ok (.putfield 21, 3) := by decide +kernel
theorem d0_31 : decode prog_1_method_1_code 31 = .ok (.aload_n 0, 1) := by decide +kernel
theorem d0_32 : decode prog_1_method_1_code 32 = .ok (.new 25, 3) := by decide +kernel
theorem d0_35 : decode prog_1_method_1_code 35 = .ok (.dup, 1) := by decide +kernel
theorem d0_36 : decode prog_1_method_1_code 36 = .ok (.aload_n 1, 1) := by decide +kernel
theorem d0_37 : decode prog_1_method_1_code 37 = .ok (.aload_n 2, 1) := by decide +kernel
theorem d0_38 : decode prog_1_method_1_code 38 = .ok (.getfield 27, 3) := by decide +kernel
theorem d0_41 : decode prog_1_method_1_code 41 = .ok (.invokespecial 31, 3) := by decide +kernel
theorem d0_44 : decode prog_1_method_1_code 44 = .ok (.putfield 34, 3) := by decide +kernel
theorem d0_47 : decode prog_1_method_1_code 47 = .ok (.return_, 1) := by decide +kernel
theorem d1_0 : decode prog_7_method_1_code 0 = .ok (.aload_n 0, 1) := by decide +kernel
theorem d1_1 : decode prog_7_method_1_code 1 = .ok (.invokespecial 3, 3) := by decide +kernel
theorem d1_4 : decode prog_7_method_1_code 4 = .ok (.aload_n 0, 1) := by decide +kernel
theorem d1_5 : decode prog_7_method_1_code 5 = .ok (.bipush 60, 2) := by decide +kernel
theorem d1_7 : decode prog_7_method_1_code 7 = .ok (.newarray .int, 2) := by decide +kernel
theorem d1_9 : decode prog_7_method_1_code 9 = .ok (.putfield 9, 3) := by decide +kernel
theorem d1_12 : decode prog_7_method_1_code 12 = .ok (.aload_n 0, 1) := by decide +kernel
theorem d1_13 : decode prog_7_method_1_code 13 = .ok (.bipush 60, 2) := by decide +kernel
theorem d1_15 : decode prog_7_method_1_code 15 = .ok (.newarray .int, 2) := by decide +kernel
theorem d1_17 : decode prog_7_method_1_code 17 = .ok (.putfield 15, 3) := by decide +kernel
theorem d1_20 : decode prog_7_method_1_code 20 = .ok (.aload_n 0, 1) := by decide +kernel
theorem d1_21 : decode prog_7_method_1_code 21 = .ok (.bipush 60, 2) := by decide +kernel
theorem d1_23 : decode prog_7_method_1_code 23 = .ok (.newarray .int, 2) := by decide +kernel
theorem d1_25 : decode prog_7_method_1_code 25 = .ok (.putfield 18, 3) := by decide +kernel
theorem d1_28 : decode prog_7_method_1_code 28 = .ok (.aload_n 0, 1) := by decide +kernel
theorem d1_29 : decode prog_7_method_1_code 29 = .ok (.bipush 60, 2) := by decide +kernel
theorem d1_31 : decode prog_7_method_1_code 31 = .ok (.newarray .int, 2) := by decide +kernel
theorem d1_33 : decode prog_7_method_1_code 33 = .ok (.putfield 21, 3) := by decide +kernel
theorem d1_36 : decode prog_7_method_1_code 36 = .ok (.aload_n 0, 1) := by decide +kernel
theorem d1_37 : decode prog_7_method_1_code 37 = .ok (.bipush 60, 2) := by decide +kernel
theorem d1_39 : decode prog_7_method_1_code 39 = .ok (.newarray .int, 2) := by decide +kernel
theorem d1_41 : decode prog_7_method_1_code 41 = .ok (.putfield 24, 3) := by decide +kernel
theorem d1_44 : decode prog_7_method_1_code 44 = .ok (.aload_n 0, 1) := by decide +kernel
theorem d1_45 : decode prog_7_method_1_code 45 = .ok (.bipush 8, 2) := by decide +kernel
theorem d1_47 : decode prog_7_method_1_code 47 = .ok (.newarray .boolean, 2) := by decide +kernel
theorem d1_49 : decode prog_7_method_1_code 49 = .ok (.putfield 27, 3) := by decide +kernel
theorem d1_52 : decode prog_7_method_1_code 52 = .ok (.aload_n 0, 1) := by decide +kernel
theorem d1_53 : decode prog_7_method_1_code 53 = .ok (.bipush 8, 2) := by decide +kernel
theorem d1_55 : decode prog_7_method_1_code 55 = .ok (.newarray .int, 2) := by decide +kernel
theorem d1_57 : decode prog_7_method_1_code 57 = .ok (.putfield 31, 3) := by decide +kernel
theorem d1_60 : decode prog_7_method_1_code 60 = .ok (.aload_n 0, 1) := by decide +kernel
theorem d1_61 : decode prog_7_method_1_code 61 = .ok (.bipush 8, 2) := by decide +kernel
theorem d1_63 : decode prog_7_method_1_code 63 = .ok (.newarray .int, 2) := by decide +kernel
theorem d1_65 : decode prog_7_method_1_code 65 = .ok (.putfield 34, 3) := by decide +kernel
theorem d1_68 : decode prog_7_method_1_code 68 = .ok (.aload_n 0, 1) := by decide +kernel
theorem d1_69 : decode prog_7_method_1_code 69 = .ok (.bipush 8, 2) := by decide +kernel
theorem d1_71 : decode prog_7_method_1_code 71 = .ok (.newarray .int, 2) := by decide +kernel
theorem d1_73 : decode prog_7_method_1_code 73 = .ok (.putfield 37, 3) := by decide +kernel
theorem d1_76 : decode prog_7_method_1_code 76 = .ok (.aload_n 0, 1) := by decide +kernel
theorem d1_77 : decode prog_7_method_1_code 77 = .ok (.bipush 8, 2) := by decide +kernel
theorem d1_79 : decode prog_7_method_1_code 79 = .ok (.newarray .int, 2) := by decide +kernel
theorem d1_81 : decode prog_7_method_1_code 81 = .ok (.putfield 40, 3) := by decide +kernel
theorem d1_84 : decode prog_7_method_1_code 84 = .ok (.aload_n 0, 1) := by decide +kernel
theorem d1_85 : decode prog_7_method_1_code 85 = .ok (.iconst 0, 1) := by decide +kernel
theorem d1_86 : decode prog_7_method_1_code 86 = .ok (.putfield 43, 3) := by decide +kernel
theorem d1_89 : decode prog_7_method_1_code 89 = .ok (.aload_n 0, 1) := by decide +kernel
theorem d1_90 : decode prog_7_method_1_code 90 = .ok (.iconst 0, 1) := by decide +kernel
theorem d1_91 : decode prog_7_method_1_code 91 = .ok (.putfield 47, 3) := by decide +kernel
theorem d1_94 : decode prog_7_method_1_code 94 = .ok (.return_, 1) := by decide +kernel
theorem d2_0 : decode prog_3_method_1_code 0 = .ok (.aload_n 0, 1) := by decide +kernel
theorem d2_1 : decode prog_3_method_1_code 1 = .ok (.invokespecial 3, 3) := by decide +kernel
theorem d2_4 : decode prog_3_method_1_code 4 = .ok (.aload_n 0, 1) := by decide +kernel
theorem d2_5 : decode prog_3_method_1_code 5 = .ok (.aload_n 1, 1) := by decide +kernel
theorem d2_6 : decode prog_3_method_1_code 6 = .ok (.putfield 9, 3) := by decide +kernel
theorem d2_9 : decode prog_3_method_1_code 9 = .ok (.aload_n 0, 1) := by decide +kernel
theorem d2_10 : decode prog_3_method_1_code 10 = .ok (.bipush 20, 2) := by decide +kernel
theorem d2_12 : decode prog_3_method_1_code 12 = .ok (.anewarray 15, 3) := by decide +kernel
theorem d2_15 : decode prog_3_method_1_code 15 = .ok (.putfield 17, 3) := by decide +kernel
theorem d2_18 : decode prog_3_method_1_code 18 = .ok (.iconst 0, 1) := by decide +kernel
theorem d2_19 : decode prog_3_method_1_code 19 = .ok (.istore_n 2, 1) := by decide +kernel
theorem d2_20 : decode prog_3_method_1_code 20 = .ok (.iload_n 2, 1) := by decide +kernel
theorem d2_21 : decode prog_3_method_1_code 21 = .ok (.bipush 20, 2) := by decide +kernel
theorem d2_23 : decode prog_3_method_1_code 23 = .ok (.if_icmp .ge 22, 3) := by decide +kernel
theorem d2_26 : decode prog_3_method_1_code 26 = .ok (.aload_n 0, 1) := by decide +kernel
theorem d2_27 : decode prog_3_method_1_code 27 = .ok (.getfield 17, 3) := by decide +kernel
theorem d2_30 : decode prog_3_method_1_code 30 = .ok (.iload_n 2, 1) := by decide +kernel
theorem d2_31 : decode prog_3_method_1_code 31 = .ok (.new 15, 3) := by decide +kernel
theorem d2_34 : decode prog_3_method_1_code 34 = .ok (.dup, 1) := by decide +kernel
theorem d2_35 : decode prog_3_method_1_code 35 = .ok (.invokespecial 21, 3) := by decide +kernel
theorem d2_38 : decode prog_3_method_1_code 38 = .ok (.aastore, 1) := by decide +kernel
theorem d2_39 : decode prog_3_method_1_code 39 = .ok (.iinc 2 1, 3) := by decide +kernel
theorem d2_42 : decode prog_3_method_1_code 42 = .ok (.goto (-22), 3) := by decide +kernel
theorem d2_45 : decode prog_3_method_1_code 45 = .ok (.aload_n 0, 1) := by decide +kernel
theorem d2_46 : decode prog_3_method_1_code 46 = .ok (.iconst 0, 1) := by decide +kernel
theorem d2_47 : decode prog_3_method_1_code 47 = .ok (.putfield 22, 3) := by decide +kernel
theorem d2_50 : decode prog_3_method_1_code 50 = .ok (.aload_n 0, 1) := by decide +kernel
theorem d2_51 : decode prog_3_method_1_code 51 = .ok (.iconst 0, 1) := by decide +kernel
theorem d2_52 : decode prog_3_method_1_code 52 = .ok (.putfield 26, 3) := by decide +kernel
theorem d2_55 : decode prog_3_method_1_code 55 = .ok (.aload_n 0, 1) := by decide +kernel
theorem d2_56 : decode prog_3_method_1_code 56 = .ok (.iconst (-1), 1) := by decide +kernel
theorem d2_57 : decode prog_3_method_1_code 57 = .ok (.putfield 29, 3) := by decide +kernel
theorem d2_60 : decode prog_3_method_1_code 60 = .ok (.return_, 1) := by decide +kernel
theorem d3_0 : decode prog_4_method_1_code 0 = .ok (.aload_n 0, 1) := by decide +kernel
theorem d3_1 : decode prog_4_method_1_code 1 = .ok (.invokespecial 3, 3) := by decide +kernel
theorem d3_4 : decode prog_4_method_1_code 4 = .ok (.aload_n 0, 1) := by decide +kernel
theorem d3_5 : decode prog_4_method_1_code 5 = .ok (.iconst 2, 1) := by decide +kernel
theorem d3_6 : decode prog_4_method_1_code 6 = .ok (.newarray .int, 2) := by decide +kernel
theorem d3_8 : decode prog_4_method_1_code 8 = .ok (.putfield 9, 3) := by decide +kernel
theorem d3_11 : decode prog_4_method_1_code 11 = .ok (.aload_n 0, 1) := by decide +kernel
theorem d3_12 : decode prog_4_method_1_code 12 = .ok (.iconst 2, 1) := by decide +kernel
theorem d3_13 : decode prog_4_method_1_code 13 = .ok (.newarray .long, 2) := by decide +kernel
theorem d3_15 : decode prog_4_method_1_code 15 = .ok (.putfield 15, 3) := by decide +kernel
theorem d3_18 : decode prog_4_method_1_code 18 = .ok (.aload_n 0, 1) := by decide +kernel
theorem d3_19 : decode prog_4_method_1_code 19 = .ok (.bipush 60, 2) := by decide +kernel
theorem d3_21 : decode prog_4_method_1_code 21 = .ok (.newarray .int, 2) := by decide +kernel
theorem d3_23 : decode prog_4_method_1_code 23 = .ok (.putfield 19, 3) := by decide +kernel
theorem d3_26 : decode prog_4_method_1_code 26 = .ok (.aload_n 0, 1) := by decide +kernel
theorem d3_27 : decode prog_4_method_1_code 27 = .ok (.bipush 60, 2) := by decide +kernel
theorem d3_29 : decode prog_4_method_1_code 29 = .ok (.newarray .boolean, 2) := by decide +kernel
theorem d3_31 : decode prog_4_method_1_code 31 = .ok (.putfield 22, 3) := by decide +kernel
theorem d3_34 : decode prog_4_method_1_code 34 = .ok (.aload_n 0, 1) := by decide +kernel
theorem d3_35 : decode prog_4_method_1_code 35 = .ok (.bipush 60, 2) := by decide +kernel
theorem d3_37 : decode prog_4_method_1_code 37 = .ok (.newarray .long, 2) := by decide +kernel
theorem d3_39 : decode prog_4_method_1_code 39 = .ok (.putfield 26, 3) := by decide +kernel
theorem d3_42 : decode prog_4_method_1_code 42 = .ok (.aload_n 0, 1) := by decide +kernel
theorem d3_43 : decode prog_4_method_1_code 43 = .ok (.bipush 60, 2) := by decide +kernel
theorem d3_45 : decode prog_4_method_1_code 45 = .ok (.newarray .int, 2) := by decide +kernel
theorem d3_47 : decode prog_4_method_1_code 47 = .ok (.putfield 29, 3) := by decide +kernel
theorem d3_50 : decode prog_4_method_1_code 50 = .ok (.aload_n 0, 1) := by decide +kernel
theorem d3_51 : decode prog_4_method_1_code 51 = .ok (.iconst 0, 1) := by decide +kernel
theorem d3_52 : decode prog_4_method_1_code 52 = .ok (.putfield 32, 3) := by decide +kernel
theorem d3_55 : decode prog_4_method_1_code 55 = .ok (.aload_n 0, 1) := by decide +kernel
theorem d3_56 : decode prog_4_method_1_code 56 = .ok (.sipush 500, 3) := by decide +kernel
theorem d3_59 : decode prog_4_method_1_code 59 = .ok (.putfield 38, 3) := by decide +kernel
theorem d3_62 : decode prog_4_method_1_code 62 = .ok (.return_, 1) := by decide +kernel
theorem d4_0 : decode prog_6_method_1_code 0 = .ok (.aload_n 0, 1) := by decide +kernel
theorem d4_1 : decode prog_6_method_1_code 1 = .ok (.invokespecial 3, 3) := by decide +kernel
theorem d4_4 : decode prog_6_method_1_code 4 = .ok (.aload_n 0, 1) := by decide +kernel
theorem d4_5 : decode prog_6_method_1_code 5 = .ok (.aload_n 1, 1) := by decide +kernel
theorem d4_6 : decode prog_6_method_1_code 6 = .ok (.putfield 9, 3) := by decide +kernel
theorem d4_9 : decode prog_6_method_1_code 9 = .ok (.aload_n 0, 1) := by decide +kernel
theorem d4_10 : decode prog_6_method_1_code 10 = .ok (.aload_n 2, 1) := by decide +kernel
theorem d4_11 : decode prog_6_method_1_code 11 = .ok (.putfield 15, 3) := by decide +kernel
theorem d4_14 : decode prog_6_method_1_code 14 = .ok (.aload_n 0, 1) := by decide +kernel
theorem d4_15 : decode prog_6_method_1_code 15 = .ok (.iconst 0, 1) := by decide +kernel
theorem d4_16 : decode prog_6_method_1_code 16 = .ok (.putfield 19, 3) := by decide +kernel
theorem d4_19 : decode prog_6_method_1_code 19 = .ok (.aload_n 0, 1) := by decide +kernel
theorem d4_20 : decode prog_6_method_1_code 20 = .ok (.iconst 0, 1) := by decide +kernel
theorem d4_21 : decode prog_6_method_1_code 21 = .ok (.putfield 23, 3) := by decide +kernel
theorem d4_24 : decode prog_6_method_1_code 24 = .ok (.return_, 1) := by decide +kernel
theorem d5_0 : decode prog_10_method_1_code 0 = .ok (.aload_n 0, 1) := by decide +kernel
theorem d5_1 : decode prog_10_method_1_code 1 = .ok (.invokespecial 1, 3) := by decide +kernel
theorem d5_4 : decode prog_10_method_1_code 4 = .ok (.aload_n 0, 1) := by decide +kernel
theorem d5_5 : decode prog_10_method_1_code 5 = .ok (.iconst 0, 1) := by decide +kernel
theorem d5_6 : decode prog_10_method_1_code 6 = .ok (.putfield 7, 3) := by decide +kernel
theorem d5_9 : decode prog_10_method_1_code 9 = .ok (.aload_n 0, 1) := by decide +kernel
theorem d5_10 : decode prog_10_method_1_code 10 = .ok (.iconst 0, 1) := by decide +kernel
theorem d5_11 : decode prog_10_method_1_code 11 = .ok (.putfield 13, 3) := by decide +kernel
theorem d5_14 : decode prog_10_method_1_code 14 = .ok (.aload_n 0, 1) := by decide +kernel
theorem d5_15 : decode prog_10_method_1_code 15 = .ok (.iconst (-1), 1) := by decide +kernel
theorem d5_16 : decode prog_10_method_1_code 16 = .ok (.putfield 16, 3) := by decide +kernel
theorem d5_19 : decode prog_10_method_1_code 19 = .ok (.aload_n 0, 1) := by decide +kernel
theorem d5_20 : decode prog_10_method_1_code 20 = .ok (.iconst 0, 1) := by decide +kernel
theorem d5_21 : decode prog_10_method_1_code 21 = .ok (.putfield 19, 3) := by decide +kernel
theorem d5_24 : decode prog_10_method_1_code 24 = .ok (.aload_n 0, 1) := by decide +kernel
theorem d5_25 : decode prog_10_method_1_code 25 = .ok (.iconst 0, 1) := by decide +kernel
theorem d5_26 : decode prog_10_method_1_code 26 = .ok (.putfield 22, 3) := by decide +kernel
theorem d5_29 : decode prog_10_method_1_code 29 = .ok (.aload_n 0, 1) := by decide +kernel
theorem d5_30 : decode prog_10_method_1_code 30 = .ok (.bipush 60, 2) := by decide +kernel
theorem d5_32 : decode prog_10_method_1_code 32 = .ok (.newarray .int, 2) := by decide +kernel
theorem d5_34 : decode prog_10_method_1_code 34 = .ok (.putfield 25, 3) := by decide +kernel
theorem d5_37 : decode prog_10_method_1_code 37 = .ok (.aload_n 0, 1) := by decide +kernel
theorem d5_38 : decode prog_10_method_1_code 38 = .ok (.bipush 60, 2) := by decide +kernel
theorem d5_40 : decode prog_10_method_1_code 40 = .ok (.newarray .int, 2) := by decide +kernel
theorem d5_42 : decode prog_10_method_1_code 42 = .ok (.putfield 29, 3) := by decide +kernel
theorem d5_45 : decode prog_10_method_1_code 45 = .ok (.aload_n 0, 1) := by decide +kernel
theorem d5_46 : decode prog_10_method_1_code 46 = .ok (.bipush 60, 2) := by decide +kernel
theorem d5_48 : decode prog_10_method_1_code 48 = .ok (.newarray .int, 2) := by decide +kernel
theorem d5_50 : decode prog_10_method_1_code 50 = .ok (.putfield 32, 3) := by decide +kernel
theorem d5_53 : decode prog_10_method_1_code 53 = .ok (.aload_n 0, 1) := by decide +kernel
theorem d5_54 : decode prog_10_method_1_code 54 = .ok (.bipush 60, 2) := by decide +kernel
theorem d5_56 : decode prog_10_method_1_code 56 = .ok (.newarray .int, 2) := by decide +kernel
theorem d5_58 : decode prog_10_method_1_code 58 = .ok (.putfield 35, 3) := by decide +kernel
theorem d5_61 : decode prog_10_method_1_code 61 = .ok (.aload_n 0, 1) := by decide +kernel
theorem d5_62 : decode prog_10_method_1_code 62 = .ok (.bipush 60, 2) := by decide +kernel
theorem d5_64 : decode prog_10_method_1_code 64 = .ok (.newarray .int, 2) := by decide +kernel
theorem d5_66 : decode prog_10_method_1_code 66 = .ok (.putfield 38, 3) := by decide +kernel
theorem d5_69 : decode prog_10_method_1_code 69 = .ok (.aload_n 0, 1) := by decide +kernel
theorem d5_70 : decode prog_10_method_1_code 70 = .ok (.bipush 8, 2) := by decide +kernel
theorem d5_72 : decode prog_10_method_1_code 72 = .ok (.newarray .boolean, 2) := by decide +kernel
theorem d5_74 : decode prog_10_method_1_code 74 = .ok (.putfield 41, 3) := by decide +kernel
theorem d5_77 : decode prog_10_method_1_code 77 = .ok (.aload_n 0, 1) := by decide +kernel
theorem d5_78 : decode prog_10_method_1_code 78 = .ok (.bipush 8, 2) := by decide +kernel
theorem d5_80 : decode prog_10_method_1_code 80 = .ok (.newarray .int, 2) := by decide +kernel
theorem d5_82 : decode prog_10_method_1_code 82 = .ok (.putfield 45, 3) := by decide +kernel
theorem d5_85 : decode prog_10_method_1_code 85 = .ok (.aload_n 0, 1) := by decide +kernel
theorem d5_86 : decode prog_10_method_1_code 86 = .ok (.bipush 8, 2) := by decide +kernel
theorem d5_88 : decode prog_10_method_1_code 88 = .ok (.newarray .int, 2) := by decide +kernel
theorem d5_90 : decode prog_10_method_1_code 90 = .ok (.putfield 48, 3) := by decide +kernel
theorem d5_93 : decode prog_10_method_1_code 93 = .ok (.aload_n 0, 1) := by decide +kernel
theorem d5_94 : decode prog_10_method_1_code 94 = .ok (.bipush 8, 2) := by decide +kernel
theorem d5_96 : decode prog_10_method_1_code 96 = .ok (.newarray .int, 2) := by decide +kernel
theorem d5_98 : decode prog_10_method_1_code 98 = .ok (.putfield 51, 3) := by decide +kernel
theorem d5_101 : decode prog_10_method_1_code 101 = .ok (.aload_n 0, 1) := by decide +kernel
theorem d5_102 : decode prog_10_method_1_code 102 = .ok (.bipush 8, 2) := by decide +kernel
theorem d5_104 : decode prog_10_method_1_code 104 = .ok (.newarray .int, 2) := by decide +kernel
theorem d5_106 : decode prog_10_method_1_code 106 = .ok (.putfield 54, 3) := by decide +kernel
theorem d5_109 : decode prog_10_method_1_code 109 = .ok (.aload_n 0, 1) := by decide +kernel
theorem d5_110 : decode prog_10_method_1_code 110 = .ok (.bipush 20, 2) := by decide +kernel
theorem d5_112 : decode prog_10_method_1_code 112 = .ok (.newarray .int, 2) := by decide +kernel
theorem d5_114 : decode prog_10_method_1_code 114 = .ok (.putfield 57, 3) := by decide +kernel
theorem d5_117 : decode prog_10_method_1_code 117 = .ok (.aload_n 0, 1) := by decide +kernel
theorem d5_118 : decode prog_10_method_1_code 118 = .ok (.bipush 20, 2) := by decide +kernel
theorem d5_120 : decode prog_10_method_1_code 120 = .ok (.newarray .int, 2) := by decide +kernel
theorem d5_122 : decode prog_10_method_1_code 122 = .ok (.putfield 60, 3) := by decide +kernel
theorem d5_125 : decode prog_10_method_1_code 125 = .ok (.aload_n 0, 1) := by decide +kernel
theorem d5_126 : decode prog_10_method_1_code 126 = .ok (.bipush 20, 2) := by decide +kernel
theorem d5_128 : decode prog_10_method_1_code 128 = .ok (.newarray .int, 2) := by decide +kernel
theorem d5_130 : decode prog_10_method_1_code 130 = .ok (.putfield 63, 3) := by decide +kernel
theorem d5_133 : decode prog_10_method_1_code 133 = .ok (.aload_n 0, 1) := by decide +kernel
theorem d5_134 : decode prog_10_method_1_code 134 = .ok (.sipush 1200, 3) := by decide +kernel
theorem d5_137 : decode prog_10_method_1_code 137 = .ok (.newarray .boolean, 2) := by decide +kernel
theorem d5_139 : decode prog_10_method_1_code 139 = .ok (.putfield 66, 3) := by decide +kernel
theorem d5_142 : decode prog_10_method_1_code 142 = .ok (.aload_n 0, 1) := by decide +kernel
theorem d5_143 : decode prog_10_method_1_code 143 = .ok (.sipush 1200, 3) := by decide +kernel
theorem d5_146 : decode prog_10_method_1_code 146 = .ok (.newarray .boolean, 2) := by decide +kernel
theorem d5_148 : decode prog_10_method_1_code 148 = .ok (.putfield 69, 3) := by decide +kernel
theorem d5_151 : decode prog_10_method_1_code 151 = .ok (.aload_n 0, 1) := by decide +kernel
theorem d5_152 : decode prog_10_method_1_code 152 = .ok (.sipush 1200, 3) := by decide +kernel
theorem d5_155 : decode prog_10_method_1_code 155 = .ok (.newarray .int, 2) := by decide +kernel
theorem d5_157 : decode prog_10_method_1_code 157 = .ok (.putfield 72, 3) := by decide +kernel
theorem d5_160 : decode prog_10_method_1_code 160 = .ok (.aload_n 0, 1) := by decide +kernel
theorem d5_161 : decode prog_10_method_1_code 161 = .ok (.sipush 1200, 3) := by decide +kernel
theorem d5_164 : decode prog_10_method_1_code 164 = .ok (.newarray .int, 2) := by decide +kernel
theorem d5_166 : decode prog_10_method_1_code 166 = .ok (.putfield 75, 3) := by decide +kernel
theorem d5_169 : decode prog_10_method_1_code 169 = .ok (.aload_n 0, 1) := by decide +kernel
theorem d5_170 : decode prog_10_method_1_code 170 = .ok (.sipush 1200, 3) := by decide +kernel
theorem d5_173 : decode prog_10_method_1_code 173 = .ok (.newarray .long, 2) := by decide +kernel
theorem d5_175 : decode prog_10_method_1_code 175 = .ok (.putfield 78, 3) := by decide +kernel
theorem d5_178 : decode prog_10_method_1_code 178 = .ok (.aload_n 0, 1) := by decide +kernel
theorem d5_179 : decode prog_10_method_1_code 179 = .ok (.bipush 7, 2) := by decide +kernel
theorem d5_181 : decode prog_10_method_1_code 181 = .ok (.newarray .int, 2) := by decide +kernel
theorem d5_183 : decode prog_10_method_1_code 183 = .ok (.putfield 82, 3) := by decide +kernel
theorem d5_186 : decode prog_10_method_1_code 186 = .ok (.aload_n 0, 1) := by decide +kernel
theorem d5_187 : decode prog_10_method_1_code 187 = .ok (.bipush 64, 2) := by decide +kernel
theorem d5_189 : decode prog_10_method_1_code 189 = .ok (.newarray .int, 2) := by decide +kernel
theorem d5_191 : decode prog_10_method_1_code 191 = .ok (.putfield 85, 3) := by decide +kernel
theorem d5_194 : decode prog_10_method_1_code 194 = .ok (.aload_n 0, 1) := by decide +kernel
theorem d5_195 : decode prog_10_method_1_code 195 = .ok (.bipush 64, 2) := by decide +kernel
theorem d5_197 : decode prog_10_method_1_code 197 = .ok (.newarray .int, 2) := by decide +kernel
theorem d5_199 : decode prog_10_method_1_code 199 = .ok (.putfield 88, 3) := by decide +kernel
theorem d5_202 : decode prog_10_method_1_code 202 = .ok (.aload_n 0, 1) := by decide +kernel
theorem d5_203 : decode prog_10_method_1_code 203 = .ok (.bipush 7, 2) := by decide +kernel
theorem d5_205 : decode prog_10_method_1_code 205 = .ok (.newarray .long, 2) := by decide +kernel
theorem d5_207 : decode prog_10_method_1_code 207 = .ok (.putfield 91, 3) := by decide +kernel
theorem d5_210 : decode prog_10_method_1_code 210 = .ok (.aload_n 0, 1) := by decide +kernel
theorem d5_211 : decode prog_10_method_1_code 211 = .ok (.bipush 7, 2) := by decide +kernel
theorem d5_213 : decode prog_10_method_1_code 213 = .ok (.newarray .long, 2) := by decide +kernel
theorem d5_215 : decode prog_10_method_1_code 215 = .ok (.putfield 94, 3) := by decide +kernel
theorem d5_218 : decode prog_10_method_1_code 218 = .ok (.aload_n 0, 1) := by decide +kernel
theorem d5_219 : decode prog_10_method_1_code 219 = .ok (.bipush 64, 2) := by decide +kernel
theorem d5_221 : decode prog_10_method_1_code 221 = .ok (.newarray .long, 2) := by decide +kernel
theorem d5_223 : decode prog_10_method_1_code 223 = .ok (.putfield 97, 3) := by decide +kernel
theorem d5_226 : decode prog_10_method_1_code 226 = .ok (.aload_n 0, 1) := by decide +kernel
theorem d5_227 : decode prog_10_method_1_code 227 = .ok (.bipush 64, 2) := by decide +kernel
theorem d5_229 : decode prog_10_method_1_code 229 = .ok (.newarray .long, 2) := by decide +kernel
theorem d5_231 : decode prog_10_method_1_code 231 = .ok (.putfield 100, 3) := by decide +kernel
theorem d5_234 : decode prog_10_method_1_code 234 = .ok (.aload_n 0, 1) := by decide +kernel
theorem d5_235 : decode prog_10_method_1_code 235 = .ok (.iconst 0, 1) := by decide +kernel
theorem d5_236 : decode prog_10_method_1_code 236 = .ok (.putfield 103, 3) := by decide +kernel
theorem d5_239 : decode prog_10_method_1_code 239 = .ok (.aload_n 0, 1) := by decide +kernel
theorem d5_240 : decode prog_10_method_1_code 240 = .ok (.iconst 0, 1) := by decide +kernel
theorem d5_241 : decode prog_10_method_1_code 241 = .ok (.putfield 106, 3) := by decide +kernel
theorem d5_244 : decode prog_10_method_1_code 244 = .ok (.aload_n 0, 1) := by decide +kernel
theorem d5_245 : decode prog_10_method_1_code 245 = .ok (.iconst 0, 1) := by decide +kernel
theorem d5_246 : decode prog_10_method_1_code 246 = .ok (.putfield 109, 3) := by decide +kernel
theorem d5_249 : decode prog_10_method_1_code 249 = .ok (.aload_n 0, 1) := by decide +kernel
theorem d5_250 : decode prog_10_method_1_code 250 = .ok (.lconst 0, 1) := by decide +kernel
theorem d5_251 : decode prog_10_method_1_code 251 = .ok (.putfield 112, 3) := by decide +kernel
theorem d5_254 : decode prog_10_method_1_code 254 = .ok (.aload_n 0, 1) := by decide +kernel
theorem d5_255 : decode prog_10_method_1_code 255 = .ok (.lconst 0, 1) := by decide +kernel
theorem d5_256 : decode prog_10_method_1_code 256 = .ok (.putfield 116, 3) := by decide +kernel
theorem d5_259 : decode prog_10_method_1_code 259 = .ok (.aload_n 0, 1) := by decide +kernel
theorem d5_260 : decode prog_10_method_1_code 260 = .ok (.bipush 20, 2) := by decide +kernel
theorem d5_262 : decode prog_10_method_1_code 262 = .ok (.newarray .long, 2) := by decide +kernel
theorem d5_264 : decode prog_10_method_1_code 264 = .ok (.putfield 119, 3) := by decide +kernel
theorem d5_267 : decode prog_10_method_1_code 267 = .ok (.aload_n 0, 1) := by decide +kernel
theorem d5_268 : decode prog_10_method_1_code 268 = .ok (.bipush 20, 2) := by decide +kernel
theorem d5_270 : decode prog_10_method_1_code 270 = .ok (.newarray .long, 2) := by decide +kernel
theorem d5_272 : decode prog_10_method_1_code 272 = .ok (.putfield 122, 3) := by decide +kernel
theorem d5_275 : decode prog_10_method_1_code 275 = .ok (.return_, 1) := by decide +kernel
theorem d8_0 : decode prog_1_method_2_code 0 = .ok (.aload_n 0, 1) := by decide +kernel
theorem d8_1 : decode prog_1_method_2_code 1 = .ok (.getfield 15, 3) := by decide +kernel
theorem d8_4 : decode prog_1_method_2_code 4 = .ok (.iload_n 1, 1) := by decide +kernel
theorem d8_5 : decode prog_1_method_2_code 5 = .ok (.iload_n 2, 1) := by decide +kernel
theorem d8_6 : decode prog_1_method_2_code 6 = .ok (.iload_n 3, 1) := by decide +kernel
theorem d8_7 : decode prog_1_method_2_code 7 = .ok (.iload 4, 2) := by decide +kernel
theorem d8_9 : decode prog_1_method_2_code 9 = .ok (.invokevirtual 38, 3) := by decide +kernel
theorem d8_12 : decode prog_1_method_2_code 12 = .ok (.ireturn, 1) := by decide +kernel
theorem d9_0 : decode prog_1_method_3_code 0 = .ok (.aload_n 0, 1) := by decide +kernel
theorem d9_1 : decode prog_1_method_3_code 1 = .ok (.getfield 15, 3) := by decide +kernel
theorem d9_4 : decode prog_1_method_3_code 4 = .ok (.iload_n 1, 1) := by decide +kernel
theorem d9_5 : decode prog_1_method_3_code 5 = .ok (.iload_n 2, 1) := by decide +kernel
theorem d9_6 : decode prog_1_method_3_code 6 = .ok (.iload_n 3, 1) := by decide +kernel
theorem d9_7 : decode prog_1_method_3_code 7 = .ok (.iload 4, 2) := by decide +kernel
theorem d9_9 : decode prog_1_method_3_code 9 = .ok (.iload 5, 2) := by decide +kernel
theorem d9_11 : decode prog_1_method_3_code 11 = .ok (.invokevirtual 42, 3) := by decide +kernel
theorem d9_14 : decode prog_1_method_3_code 14 = .ok (.ireturn, 1) := by decide +kernel
theorem d10_0 : decode prog_1_method_4_code 0 = .ok (.aload_n 0, 1) := by decide +kernel
theorem d10_1 : decode prog_1_method_4_code 1 = .ok (.getfield 15, 3) := by decide +kernel
theorem d10_4 : decode prog_1_method_4_code 4 = .ok (.iload_n 1, 1) := by decide +kernel
theorem d10_5 : decode prog_1_method_4_code 5 = .ok (.invokevirtual 46, 3) := by decide +kernel
theorem d10_8 : decode prog_1_method_4_code 8 = .ok (.ifCond .eq 18, 3) := by decide +kernel
theorem d10_11 : decode prog_1_method_4_code 11 = .ok (.aload_n 0, 1) := by decide +kernel
theorem d10_12 : decode prog_1_method_4_code 12 = .ok (.getfield 21, 3) := by decide +kernel
theorem d10_15 : decode prog_1_method_4_code 15 = .ok (.iload_n 1, 1) := by decide +kernel
theorem d10_16 : decode prog_1_method_4_code 16 = .ok (.iload_n 2, 1) := by decide +kernel
theorem d10_17 : decode prog_1_method_4_code 17 = .ok (.i2l, 1) := by decide +kernel
theorem d10_18 : decode prog_1_method_4_code 18 = .ok (.iload_n 3, 1) := by decide +kernel
theorem d10_19 : decode prog_1_method_4_code 19 = .ok (.i2l, 1) := by decide +kernel
theorem d10_20 : decode prog_1_method_4_code 20 = .ok (.invokevirtual 50, 3) := by decide +kernel
theorem d10_23 : decode prog_1_method_4_code 23 = .ok (.goto 4, 3) := by decide +kernel
theorem d10_26 : decode prog_1_method_4_code 26 = .ok (.iconst (-1), 1) := by decide +kernel
theorem d10_27 : decode prog_1_method_4_code 27 = .ok (.ireturn, 1) := by decide +kernel
theorem d11_0 : decode prog_1_method_5_code 0 = .ok (.aload_n 0, 1) := by decide +kernel
theorem d11_1 : decode prog_1_method_5_code 1 = .ok (.getfield 21, 3) := by decide +kernel
theorem d11_4 : decode prog_1_method_5_code 4 = .ok (.getfield 54, 3) := by decide +kernel
theorem d11_7 : decode prog_1_method_5_code 7 = .ok (.ireturn, 1) := by decide +kernel
theorem d12_0 : decode prog_1_method_6_code 0 = .ok (.aload_n 0, 1) := by decide +kernel
theorem d12_1 : decode prog_1_method_6_code 1 = .ok (.getfield 21, 3) := by decide +kernel
theorem d12_4 : decode prog_1_method_6_code 4 = .ok (.iload_n 1, 1) := by decide +kernel
theorem d12_5 : decode prog_1_method_6_code 5 = .ok (.invokevirtual 58, 3) := by decide +kernel
theorem d12_8 : decode prog_1_method_6_code 8 = .ok (.ifCond .eq 18, 3) := by decide +kernel
theorem d12_11 : decode prog_1_method_6_code 11 = .ok (.aload_n 0, 1) := by decide +kernel
theorem d12_12 : decode prog_1_method_6_code 12 = .ok (.getfield 21, 3) := by decide +kernel
theorem d12_15 : decode prog_1_method_6_code 15 = .ok (.getfield 27, 3) := by decide +kernel
theorem d12_18 : decode prog_1_method_6_code 18 = .ok (.iload_n 1, 1) := by decide +kernel
theorem d12_19 : decode prog_1_method_6_code 19 = .ok (.aaload, 1) := by decide +kernel
theorem d12_20 : decode prog_1_method_6_code 20 = .ok (.getfield 61, 3) := by decide +kernel
theorem d12_23 : decode prog_1_method_6_code 23 = .ok (.goto 4, 3) := by decide +kernel
theorem d12_26 : decode prog_1_method_6_code 26 = .ok (.iconst (-1), 1) := by decide +kernel
theorem d12_27 : decode prog_1_method_6_code 27 = .ok (.ireturn, 1) := by decide +kernel
theorem d13_0 : decode prog_1_method_7_code 0 = .ok (.aload_n 0, 1) := by decide +kernel
theorem d13_1 : decode prog_1_method_7_code 1 = .ok (.getfield 21, 3) := by decide +kernel
theorem d13_4 : decode prog_1_method_7_code 4 = .ok (.iload_n 1, 1) := by decide +kernel
theorem d13_5 : decode prog_1_method_7_code 5 = .ok (.invokevirtual 58, 3) := by decide +kernel
theorem d13_8 : decode prog_1_method_7_code 8 = .ok (.ifCond .eq 12, 3) := by decide +kernel
theorem d13_11 : decode prog_1_method_7_code 11 = .ok (.iload_n 2, 1) := by decide +kernel
theorem d13_12 : decode prog_1_method_7_code 12 = .ok (.ifCond .lt 8, 3) := by decide +kernel
theorem d13_15 : decode prog_1_method_7_code 15 = .ok (.iload_n 2, 1) := by decide +kernel
theorem d13_16 : decode prog_1_method_7_code 16 = .ok (.iconst 1, 1) := by decide +kernel
theorem d13_17 : decode prog_1_method_7_code 17 = .ok (.if_icmp .le 7, 3) := by decide +kernel
theorem d13_20 : decode prog_1_method_7_code 20 = .ok (.ldc2_w 66, 3) := by decide +kernel
theorem d13_23 : decode prog_1_method_7_code 23 = .ok (.lreturn, 1) := by decide +kernel
theorem d13_24 : decode prog_1_method_7_code 24 = .ok (.aload_n 0, 1) := by decide +kernel
theorem d13_25 : decode prog_1_method_7_code 25 = .ok (.getfield 21, 3) := by decide +kernel
theorem d13_28 : decode prog_1_method_7_code 28 = .ok (.getfield 27, 3) := by decide +kernel
theorem d13_31 : decode prog_1_method_7_code 31 = .ok (.iload_n 1, 1) := by decide +kernel
theorem d13_32 : decode prog_1_method_7_code 32 = .ok (.aaload, 1) := by decide +kernel
theorem d13_33 : decode prog_1_method_7_code 33 = .ok (.astore_n 3, 1) := by decide +kernel
theorem d13_34 : decode prog_1_method_7_code 34 = .ok (.aload_n 3, 1) := by decide +kernel
theorem d13_35 : decode prog_1_method_7_code 35 = .ok (.getfield 68, 3) := by decide +kernel
theorem d13_38 : decode prog_1_method_7_code 38 = .ok (.iload_n 2, 1) := by decide +kernel
theorem d13_39 : decode prog_1_method_7_code 39 = .ok (.iaload, 1) := by decide +kernel
theorem d13_40 : decode prog_1_method_7_code 40 = .ok (.sipush 300, 3) := by decide +kernel
theorem d13_43 : decode prog_1_method_7_code 43 = .ok (.if_icmp .ne 12, 3) := by decide +kernel
theorem d13_46 : decode prog_1_method_7_code 46 = .ok (.aload_n 3, 1) := by decide +kernel
theorem d13_47 : decode prog_1_method_7_code 47 = .ok (.getfield 74, 3) := by decide +kernel
theorem d13_50 : decode prog_1_method_7_code 50 = .ok (.iload_n 2, 1) := by decide +kernel
theorem d13_51 : decode prog_1_method_7_code 51 = .ok (.laload, 1) := by decide +kernel
theorem d13_52 : decode prog_1_method_7_code 52 = .ok (.goto 6, 3) := by decide +kernel
theorem d13_55 : decode prog_1_method_7_code 55 = .ok (.ldc2_w 66, 3) := by decide +kernel
theorem d13_58 : decode prog_1_method_7_code 58 = .ok (.lreturn, 1) := by decide +kernel
theorem d14_0 : decode prog_1_method_8_code 0 = .ok (.aload_n 0, 1) := by decide +kernel
theorem d14_1 : decode prog_1_method_8_code 1 = .ok (.getfield 21, 3) := by decide +kernel
theorem d14_4 : decode prog_1_method_8_code 4 = .ok (.iload_n 1, 1) := by decide +kernel
theorem d14_5 : decode prog_1_method_8_code 5 = .ok (.invokevirtual 58, 3) := by decide +kernel
theorem d14_8 : decode prog_1_method_8_code 8 = .ok (.ifCond .eq 14, 3) := by decide +kernel
theorem d14_11 : decode prog_1_method_8_code 11 = .ok (.aload_n 0, 1) := by decide +kernel
theorem d14_12 : decode prog_1_method_8_code 12 = .ok (.getfield 15, 3) := by decide +kernel
theorem d14_15 : decode prog_1_method_8_code 15 = .ok (.iload_n 2, 1) := by decide +kernel
theorem d14_16 : decode prog_1_method_8_code 16 = .ok (.invokevirtual 78, 3) := by decide +kernel
theorem d14_19 : decode prog_1_method_8_code 19 = .ok (.ifCond .ne 5, 3) := by decide +kernel
theorem d14_22 : decode prog_1_method_8_code 22 = .ok (.iconst (-1), 1) := by decide +kernel
theorem d14_23 : decode prog_1_method_8_code 23 = .ok (.ireturn, 1) := by decide +kernel
theorem d14_24 : decode prog_1_method_8_code 24 = .ok (.aload_n 0, 1) := by decide +kernel
theorem d14_25 : decode prog_1_method_8_code 25 = .ok (.getfield 21, 3) := by decide +kernel
theorem d14_28 : decode prog_1_method_8_code 28 = .ok (.getfield 27, 3) := by decide +kernel
theorem d14_31 : decode prog_1_method_8_code 31 = .ok (.iload_n 1, 1) := by decide +kernel
theorem d14_32 : decode prog_1_method_8_code 32 = .ok (.aaload, 1) := by decide +kernel
theorem d14_33 : decode prog_1_method_8_code 33 = .ok (.getfield 81, 3) := by decide +kernel
theorem d14_36 : decode prog_1_method_8_code 36 = .ok (.iload_n 2, 1) := by decide +kernel
theorem d14_37 : decode prog_1_method_8_code 37 = .ok (.iaload, 1) := by decide +kernel
theorem d14_38 : decode prog_1_method_8_code 38 = .ok (.ireturn, 1) := by decide +kernel
theorem d15_0 : decode prog_1_method_9_code 0 = .ok (.aload_n 0, 1) := by decide +kernel
theorem d15_1 : decode prog_1_method_9_code 1 = .ok (.getfield 21, 3) := by decide +kernel
theorem d15_4 : decode prog_1_method_9_code 4 = .ok (.iload_n 1, 1) := by decide +kernel
theorem d15_5 : decode prog_1_method_9_code 5 = .ok (.invokevirtual 58, 3) := by decide +kernel
theorem d15_8 : decode prog_1_method_9_code 8 = .ok (.ifCond .eq 14, 3) := by decide +kernel
theorem d15_11 : decode prog_1_method_9_code 11 = .ok (.aload_n 0, 1) := by decide +kernel
theorem d15_12 : decode prog_1_method_9_code 12 = .ok (.getfield 15, 3) := by decide +kernel
theorem d15_15 : decode prog_1_method_9_code 15 = .ok (.iload_n 2, 1) := by decide +kernel
theorem d15_16 : decode prog_1_method_9_code 16 = .ok (.invokevirtual 78, 3) := by decide +kernel
theorem d15_19 : decode prog_1_method_9_code 19 = .ok (.ifCond .ne 7, 3) := by decide +kernel
theorem d15_22 : decode prog_1_method_9_code 22 = .ok (.ldc2_w 66, 3) := by decide +kernel
theorem d15_25 : decode prog_1_method_9_code 25 = .ok (.lreturn, 1) := by decide +kernel
theorem d15_26 : decode prog_1_method_9_code 26 = .ok (.aload_n 0, 1) := by decide +kernel
theorem d15_27 : decode prog_1_method_9_code 27 = .ok (.getfield 21, 3) := by decide +kernel
theorem d15_30 : decode prog_1_method_9_code 30 = .ok (.getfield 27, 3) := by decide +kernel
theorem d15_33 : decode prog_1_method_9_code 33 = .ok (.iload_n 1, 1) := by decide +kernel
theorem d15_34 : decode prog_1_method_9_code 34 = .ok (.aaload, 1) := by decide +kernel
theorem d15_35 : decode prog_1_method_9_code 35 = .ok (.astore_n 3, 1) := by decide +kernel
theorem d15_36 : decode prog_1_method_9_code 36 = .ok (.aload_n 3, 1) := by decide +kernel
theorem d15_37 : decode prog_1_method_9_code 37 = .ok (.getfield 84, 3) := by decide +kernel
theorem d15_40 : decode prog_1_method_9_code 40 = .ok (.iload_n 2, 1) := by decide +kernel
theorem d15_41 : decode prog_1_method_9_code 41 = .ok (.baload, 1) := by decide +kernel
theorem d15_42 : decode prog_1_method_9_code 42 = .ok (.ifCond .eq 12, 3) := by decide +kernel
theorem d15_45 : decode prog_1_method_9_code 45 = .ok (.aload_n 3, 1) := by decide +kernel
theorem d15_46 : decode prog_1_method_9_code 46 = .ok (.getfield 88, 3) := by decide +kernel
theorem d15_49 : decode prog_1_method_9_code 49 = .ok (.iload_n 2, 1) := by decide +kernel
theorem d15_50 : decode prog_1_method_9_code 50 = .ok (.laload, 1) := by decide +kernel
theorem d15_51 : decode prog_1_method_9_code 51 = .ok (.goto 6, 3) := by decide +kernel
theorem d15_54 : decode prog_1_method_9_code 54 = .ok (.ldc2_w 66, 3) := by decide +kernel
theorem d15_57 : decode prog_1_method_9_code 57 = .ok (.lreturn, 1) := by decide +kernel
theorem d16_0 : decode prog_1_method_10_code 0 = .ok (.aload_n 0, 1) := by decide +kernel
theorem d16_1 : decode prog_1_method_10_code 1 = .ok (.getfield 21, 3) := by decide +kernel
theorem d16_4 : decode prog_1_method_10_code 4 = .ok (.iload_n 1, 1) := by decide +kernel
theorem d16_5 : decode prog_1_method_10_code 5 = .ok (.invokevirtual 58, 3) := by decide +kernel
theorem d16_8 : decode prog_1_method_10_code 8 = .ok (.ifCond .ne 5, 3) := by decide +kernel
theorem d16_11 : decode prog_1_method_10_code 11 = .ok (.iconst (-1), 1) := by decide +kernel
theorem d16_12 : decode prog_1_method_10_code 12 = .ok (.ireturn, 1) := by decide +kernel
theorem d16_13 : decode prog_1_method_10_code 13 = .ok (.aload_n 0, 1) := by decide +kernel
theorem d16_14 : decode prog_1_method_10_code 14 = .ok (.getfield 15, 3) := by decide +kernel
theorem d16_17 : decode prog_1_method_10_code 17 = .ok (.aload_n 0, 1) := by decide +kernel
theorem d16_18 : decode prog_1_method_10_code 18 = .ok (.getfield 21, 3) := by decide +kernel
theorem d16_21 : decode prog_1_method_10_code 21 = .ok (.getfield 27, 3) := by decide +kernel
theorem d16_24 : decode prog_1_method_10_code 24 = .ok (.iload_n 1, 1) := by decide +kernel
theorem d16_25 : decode prog_1_method_10_code 25 = .ok (.aaload, 1) := by decide +kernel
theorem d16_26 : decode prog_1_method_10_code 26 = .ok (.invokevirtual 91, 3) := by decide +kernel
theorem d16_29 : decode prog_1_method_10_code 29 = .ok (.ireturn, 1) := by decide +kernel
theorem d17_0 : decode prog_1_method_11_code 0 = .ok (.aload_n 0, 1) := by decide +kernel
theorem d17_1 : decode prog_1_method_11_code 1 = .ok (.getfield 21, 3) := by decide +kernel
theorem d17_4 : decode prog_1_method_11_code 4 = .ok (.iload_n 1, 1) := by decide +kernel
theorem d17_5 : decode prog_1_method_11_code 5 = .ok (.invokevirtual 58, 3) := by decide +kernel
theorem d17_8 : decode prog_1_method_11_code 8 = .ok (.ifCond .ne 7, 3) := by decide +kernel
theorem d17_11 : decode prog_1_method_11_code 11 = .ok (.ldc2_w 66, 3) := by decide +kernel
theorem d17_14 : decode prog_1_method_11_code 14 = .ok (.lreturn, 1) := by decide +kernel
theorem d17_15 : decode prog_1_method_11_code 15 = .ok (.aload_n 0, 1) := by decide +kernel
theorem d17_16 : decode prog_1_method_11_code 16 = .ok (.getfield 21, 3) := by decide +kernel
theorem d17_19 : decode prog_1_method_11_code 19 = .ok (.getfield 27, 3) := by decide +kernel
theorem d17_22 : decode prog_1_method_11_code 22 = .ok (.iload_n 1, 1) := by decide +kernel
theorem d17_23 : decode prog_1_method_11_code 23 = .ok (.aaload, 1) := by decide +kernel
theorem d17_24 : decode prog_1_method_11_code 24 = .ok (.astore 4, 2) := by decide +kernel
theorem d17_26 : decode prog_1_method_11_code 26 = .ok (.aload 4, 2) := by decide +kernel
theorem d17_28 : decode prog_1_method_11_code 28 = .ok (.iconst 0, 1) := by decide +kernel
theorem d17_29 : decode prog_1_method_11_code 29 = .ok (.iload_n 2, 1) := by decide +kernel
theorem d17_30 : decode prog_1_method_11_code 30 = .ok (.i2l, 1) := by decide +kernel
theorem d17_31 : decode prog_1_method_11_code 31 = .ok (.invokevirtual 95, 3) := by decide +kernel
theorem d17_34 : decode prog_1_method_11_code 34 = .ok (.ifCond .eq 14, 3) := by decide +kernel
theorem d17_37 : decode prog_1_method_11_code 37 = .ok (.aload 4, 2) := by decide +kernel
theorem d17_39 : decode prog_1_method_11_code 39 = .ok (.iconst 1, 1) := by decide +kernel
theorem d17_40 : decode prog_1_method_11_code 40 = .ok (.iload_n 3, 1) := by decide +kernel
theorem d17_41 : decode prog_1_method_11_code 41 = .ok (.i2l, 1) := by decide +kernel
theorem d17_42 : decode prog_1_method_11_code 42 = .ok (.invokevirtual 95, 3) := by decide +kernel
theorem d17_45 : decode prog_1_method_11_code 45 = .ok (.ifCond .ne 7, 3) := by decide +kernel
theorem d17_48 : decode prog_1_method_11_code 48 = .ok (.ldc2_w 66, 3) := by decide +kernel
theorem d17_51 : decode prog_1_method_11_code 51 = .ok (.lreturn, 1) := by decide +kernel
theorem d17_52 : decode prog_1_method_11_code 52 = .ok (.aload_n 0, 1) := by decide +kernel
theorem d17_53 : decode prog_1_method_11_code 53 = .ok (.getfield 34, 3) := by decide +kernel
theorem d17_56 : decode prog_1_method_11_code 56 = .ok (.aload 4, 2) := by decide +kernel
theorem d17_58 : decode prog_1_method_11_code 58 = .ok (.iload_n 2, 1) := by decide +kernel
theorem d17_59 : decode prog_1_method_11_code 59 = .ok (.i2l, 1) := by decide +kernel
theorem d17_60 : decode prog_1_method_11_code 60 = .ok (.iload_n 3, 1) := by decide +kernel
theorem d17_61 : decode prog_1_method_11_code 61 = .ok (.i2l, 1) := by decide +kernel
theorem d17_62 : decode prog_1_method_11_code 62 = .ok (.invokevirtual 99, 3) := by decide +kernel
theorem d17_65 : decode prog_1_method_11_code 65 = .ok (.lreturn, 1) := by decide +kernel
theorem d18_0 : decode prog_1_method_12_code 0 = .ok (.iload_n 1, 1) := by decide +kernel
theorem d18_1 : decode prog_1_method_12_code 1 = .ok (.tableswitch 63 0 3 #[31, 39, 47, 55], 31) := by decide +kernel
theorem tk18_1 : mm_tk 0 3 #[31, 39, 47, 55] := by unfold mm_tk; decide +kernel
theorem d18_32 : decode prog_1_method_12_code 32 = .ok (.aload_n 0, 1) := by decide +kernel
theorem d18_33 : decode prog_1_method_12_code 33 = .ok (.getfield 15, 3) := by decide +kernel
theorem d18_36 : decode prog_1_method_12_code 36 = .ok (.getfield 103, 3) := by decide +kernel
theorem d18_39 : decode prog_1_method_12_code 39 = .ok (.ireturn, 1) := by decide +kernel
theorem d18_40 : decode prog_1_method_12_code 40 = .ok (.aload_n 0, 1) := by decide +kernel
theorem d18_41 : decode prog_1_method_12_code 41 = .ok (.getfield 15, 3) := by decide +kernel
theorem d18_44 : decode prog_1_method_12_code 44 = .ok (.getfield 106, 3) := by decide +kernel
theorem d18_47 : decode prog_1_method_12_code 47 = .ok (.ireturn, 1) := by decide +kernel
theorem d18_48 : decode prog_1_method_12_code 48 = .ok (.aload_n 0, 1) := by decide +kernel
theorem d18_49 : decode prog_1_method_12_code 49 = .ok (.getfield 21, 3) := by decide +kernel
theorem d18_52 : decode prog_1_method_12_code 52 = .ok (.getfield 109, 3) := by decide +kernel
theorem d18_55 : decode prog_1_method_12_code 55 = .ok (.ireturn, 1) := by decide +kernel
theorem d18_56 : decode prog_1_method_12_code 56 = .ok (.aload_n 0, 1) := by decide +kernel
theorem d18_57 : decode prog_1_method_12_code 57 = .ok (.getfield 34, 3) := by decide +kernel
theorem d18_60 : decode prog_1_method_12_code 60 = .ok (.getfield 112, 3) := by decide +kernel
theorem d18_63 : decode prog_1_method_12_code 63 = .ok (.ireturn, 1) := by decide +kernel
theorem d18_64 : decode prog_1_method_12_code 64 = .ok (.iconst (-1), 1) := by decide +kernel
theorem d18_65 : decode prog_1_method_12_code 65 = .ok (.ireturn, 1) := by decide +kernel
theorem d19_0 : decode prog_7_method_2_code 0 = .ok (.iload_n 1, 1) := by decide +kernel
theorem d19_1 : decode prog_7_method_2_code 1 = .ok (.ifCond .lt 15, 3) := by decide +kernel
theorem d19_4 : decode prog_7_method_2_code 4 = .ok (.iload_n 1, 1) := by decide +kernel
theorem d19_5 : decode prog_7_method_2_code 5 = .ok (.aload_n 0, 1) := by decide +kernel
theorem d19_6 : decode prog_7_method_2_code 6 = .ok (.getfield 43, 3) := by decide +kernel
theorem d19_9 : decode prog_7_method_2_code 9 = .ok (.if_icmp .ge 7, 3) := by decide +kernel
theorem d19_12 : decode prog_7_method_2_code 12 = .ok (.iconst 1, 1) := by decide +kernel
theorem d19_13 : decode prog_7_method_2_code 13 = .ok (.goto 4, 3) := by decide +kernel
theorem d19_16 : decode prog_7_method_2_code 16 = .ok (.iconst 0, 1) := by decide +kernel
theorem d19_17 : decode prog_7_method_2_code 17 = .ok (.ireturn, 1) := by decide +kernel
theorem d20_0 : decode prog_7_method_3_code 0 = .ok (.iload_n 1, 1) := by decide +kernel
theorem d20_1 : decode prog_7_method_3_code 1 = .ok (.ifCond .lt 22, 3) := by decide +kernel
theorem d20_4 : decode prog_7_method_3_code 4 = .ok (.iload_n 1, 1) := by decide +kernel
theorem d20_5 : decode prog_7_method_3_code 5 = .ok (.bipush 8, 2) := by decide +kernel
theorem d20_7 : decode prog_7_method_3_code 7 = .ok (.if_icmp .ge 16, 3) := by decide +kernel
theorem d20_10 : decode prog_7_method_3_code 10 = .ok (.aload_n 0, 1) := by decide +kernel
theorem d20_11 : decode prog_7_method_3_code 11 = .ok (.getfield 27, 3) := by decide +kernel
theorem d20_14 : decode prog_7_method_3_code 14 = .ok (.iload_n 1, 1) := by decide +kernel
theorem d20_15 : decode prog_7_method_3_code 15 = .ok (.baload, 1) := by decide +kernel
theorem d20_16 : decode prog_7_method_3_code 16 = .ok (.ifCond .eq 7, 3) := by decide +kernel
theorem d20_19 : decode prog_7_method_3_code 19 = .ok (.iconst 1, 1) := by decide +kernel
theorem d20_20 : decode prog_7_method_3_code 20 = .ok (.goto 4, 3) := by decide +kernel
theorem d20_23 : decode prog_7_method_3_code 23 = .ok (.iconst 0, 1) := by decide +kernel
theorem d20_24 : decode prog_7_method_3_code 24 = .ok (.ireturn, 1) := by decide +kernel
theorem d21_0 : decode prog_7_method_4_code 0 = .ok (.aload_n 0, 1) := by decide +kernel
theorem d21_1 : decode prog_7_method_4_code 1 = .ok (.getfield 43, 3) := by decide +kernel
theorem d21_4 : decode prog_7_method_4_code 4 = .ok (.bipush 60, 2) := by decide +kernel
theorem d21_6 : decode prog_7_method_4_code 6 = .ok (.if_icmp .ge 22, 3) := by decide +kernel
theorem d21_9 : decode prog_7_method_4_code 9 = .ok (.iload_n 1, 1) := by decide +kernel
theorem d21_10 : decode prog_7_method_4_code 10 = .ok (.invokestatic 50, 3) := by decide +kernel
theorem d21_13 : decode prog_7_method_4_code 13 = .ok (.ifCond .eq 15, 3) := by decide +kernel
theorem d21_16 : decode prog_7_method_4_code 16 = .ok (.aload_n 0, 1) := by decide +kernel
theorem d21_17 : decode prog_7_method_4_code 17 = .ok (.iload_n 1, 1) := by decide +kernel
theorem d21_18 : decode prog_7_method_4_code 18 = .ok (.iload_n 2, 1) := by decide +kernel
theorem d21_19 : decode prog_7_method_4_code 19 = .ok (.iload_n 3, 1) := by decide +kernel
theorem d21_20 : decode prog_7_method_4_code 20 = .ok (.iload 4, 2) := by decide +kernel
theorem d21_22 : decode prog_7_method_4_code 22 = .ok (.invokevirtual 56, 3) := by decide +kernel
theorem d21_25 : decode prog_7_method_4_code 25 = .ok (.ifCond .ne 5, 3) := by decide +kernel
theorem d21_28 : decode prog_7_method_4_code 28 = .ok (.iconst (-1), 1) := by decide +kernel
theorem d21_29 : decode prog_7_method_4_code 29 = .ok (.ireturn, 1) := by decide +kernel
theorem d21_30 : decode prog_7_method_4_code 30 = .ok (.aload_n 0, 1) := by decide +kernel
theorem d21_31 : decode prog_7_method_4_code 31 = .ok (.iload_n 1, 1) := by decide +kernel
theorem d21_32 : decode prog_7_method_4_code 32 = .ok (.iload_n 2, 1) := by decide +kernel
theorem d21_33 : decode prog_7_method_4_code 33 = .ok (.iload_n 3, 1) := by decide +kernel
theorem d21_34 : decode prog_7_method_4_code 34 = .ok (.iload 4, 2) := by decide +kernel
theorem d21_36 : decode prog_7_method_4_code 36 = .ok (.invokevirtual 60, 3) := by decide +kernel
theorem d21_39 : decode prog_7_method_4_code 39 = .ok (.istore 5, 2) := by decide +kernel
theorem d21_41 : decode prog_7_method_4_code 41 = .ok (.iload 5, 2) := by decide +kernel
theorem d21_43 : decode prog_7_method_4_code 43 = .ok (.bipush 8, 2) := by decide +kernel
theorem d21_45 : decode prog_7_method_4_code 45 = .ok (.if_icmp .le 5, 3) := by decide +kernel
theorem d21_48 : decode prog_7_method_4_code 48 = .ok (.iconst (-1), 1) := by decide +kernel
theorem d21_49 : decode prog_7_method_4_code 49 = .ok (.ireturn, 1) := by decide +kernel
theorem d21_50 : decode prog_7_method_4_code 50 = .ok (.aload_n 0, 1) := by decide +kernel
theorem d21_51 : decode prog_7_method_4_code 51 = .ok (.getfield 43, 3) := by decide +kernel
theorem d21_54 : decode prog_7_method_4_code 54 = .ok (.istore 6, 2) := by decide +kernel
theorem d21_56 : decode prog_7_method_4_code 56 = .ok (.aload_n 0, 1) := by decide +kernel
theorem d21_57 : decode prog_7_method_4_code 57 = .ok (.getfield 9, 3) := by decide +kernel
theorem d21_60 : decode prog_7_method_4_code 60 = .ok (.iload 6, 2) := by decide +kernel
theorem d21_62 : decode prog_7_method_4_code 62 = .ok (.iload_n 1, 1) := by decide +kernel
theorem d21_63 : decode prog_7_method_4_code 63 = .ok (.iastore, 1) := by decide +kernel
theorem d21_64 : decode prog_7_method_4_code 64 = .ok (.aload_n 0, 1) := by decide +kernel
theorem d21_65 : decode prog_7_method_4_code 65 = .ok (.getfield 15, 3) := by decide +kernel
theorem d21_68 : decode prog_7_method_4_code 68 = .ok (.iload 6, 2) := by decide +kernel
theorem d21_70 : decode prog_7_method_4_code 70 = .ok (.iload_n 2, 1) := by decide +kernel
theorem d21_71 : decode prog_7_method_4_code 71 = .ok (.iastore, 1) := by decide +kernel
theorem d21_72 : decode prog_7_method_4_code 72 = .ok (.aload_n 0, 1) := by decide +kernel
theorem d21_73 : decode prog_7_method_4_code 73 = .ok (.getfield 18, 3) := by decide +kernel
theorem d21_76 : decode prog_7_method_4_code 76 = .ok (.iload 6, 2) := by decide +kernel
theorem d21_78 : decode prog_7_method_4_code 78 = .ok (.iload_n 3, 1) := by decide +kernel
theorem d21_79 : decode prog_7_method_4_code 79 = .ok (.iastore, 1) := by decide +kernel
theorem d21_80 : decode prog_7_method_4_code 80 = .ok (.aload_n 0, 1) := by decide +kernel
theorem d21_81 : decode prog_7_method_4_code 81 = .ok (.getfield 21, 3) := by decide +kernel
theorem d21_84 : decode prog_7_method_4_code 84 = .ok (.iload 6, 2) := by decide +kernel
theorem d21_86 : decode prog_7_method_4_code 86 = .ok (.iload 4, 2) := by decide +kernel
theorem d21_88 : decode prog_7_method_4_code 88 = .ok (.iastore, 1) := by decide +kernel
theorem d21_89 : decode prog_7_method_4_code 89 = .ok (.aload_n 0, 1) := by decide +kernel
theorem d21_90 : decode prog_7_method_4_code 90 = .ok (.getfield 24, 3) := by decide +kernel
theorem d21_93 : decode prog_7_method_4_code 93 = .ok (.iload 6, 2) := by decide +kernel
theorem d21_95 : decode prog_7_method_4_code 95 = .ok (.iload 5, 2) := by decide +kernel
theorem d21_97 : decode prog_7_method_4_code 97 = .ok (.iastore, 1) := by decide +kernel
theorem d21_98 : decode prog_7_method_4_code 98 = .ok (.aload_n 0, 1) := by decide +kernel
theorem d21_99 : decode prog_7_method_4_code 99 = .ok (.iload 6, 2) := by decide +kernel
theorem d21_101 : decode prog_7_method_4_code 101 = .ok (.iconst 1, 1) := by decide +kernel
theorem d21_102 : decode prog_7_method_4_code 102 = .ok (.iadd, 1) := by decide +kernel
theorem d21_103 : decode prog_7_method_4_code 103 = .ok (.putfield 43, 3) := by decide +kernel
theorem d21_106 : decode prog_7_method_4_code 106 = .ok (.iload 6, 2) := by decide +kernel
theorem d21_108 : decode prog_7_method_4_code 108 = .ok (.ireturn, 1) := by decide +kernel
theorem d22_0 : decode prog_7_method_5_code 0 = .ok (.iload_n 1, 1) := by decide +kernel
theorem d22_1 : decode prog_7_method_5_code 1 = .ok (.tableswitch 191 0 16 #[83, 85, 191, 191, 191, 191, 191, 191, 191, 191, 191, 191, 191, 100, 131, 152, 185], 83) := by decide +kernel
theorem tk22_1 : mm_tk 0 16 #[83, 85, 191, 191, 191, 191, 191, 191, 191, 191, 191, 191, 191, 100, 131, 152, 185] := by unfold mm_tk; decide +kernel
theorem d22_84 : decode prog_7_method_5_code 84 = .ok (.iconst 1, 1) := by decide +kernel
theorem d22_85 : decode prog_7_method_5_code 85 = .ok (.ireturn, 1) := by decide +kernel
theorem d22_86 : decode prog_7_method_5_code 86 = .ok (.iload_n 2, 1) := by decide +kernel
theorem d22_87 : decode prog_7_method_5_code 87 = .ok (.ifCond .eq 8, 3) := by decide +kernel
theorem d22_90 : decode prog_7_method_5_code 90 = .ok (.iload_n 2, 1) := by decide +kernel
theorem d22_91 : decode prog_7_method_5_code 91 = .ok (.iconst 1, 1) := by decide +kernel
theorem d22_92 : decode prog_7_method_5_code 92 = .ok (.if_icmp .ne 7, 3) := by decide +kernel
theorem d22_95 : decode prog_7_method_5_code 95 = .ok (.iconst 1, 1) := by decide +kernel
theorem d22_96 : decode prog_7_method_5_code 96 = .ok (.goto 4, 3) := by decide +kernel
theorem d22_99 : decode prog_7_method_5_code 99 = .ok (.iconst 0, 1) := by decide +kernel
theorem d22_100 : decode prog_7_method_5_code 100 = .ok (.ireturn, 1) := by decide +kernel
theorem d22_101 : decode prog_7_method_5_code 101 = .ok (.aload_n 0, 1) := by decide +kernel
theorem d22_102 : decode prog_7_method_5_code 102 = .ok (.iload_n 2, 1) := by decide +kernel
theorem d22_103 : decode prog_7_method_5_code 103 = .ok (.invokevirtual 64, 3) := by decide +kernel
theorem d22_106 : decode prog_7_method_5_code 106 = .ok (.ifCond .eq 24, 3) := by decide +kernel
theorem d22_109 : decode prog_7_method_5_code 109 = .ok (.aload_n 0, 1) := by decide +kernel
theorem d22_110 : decode prog_7_method_5_code 110 = .ok (.iload_n 3, 1) := by decide +kernel
theorem d22_111 : decode prog_7_method_5_code 111 = .ok (.invokevirtual 64, 3) := by decide +kernel
theorem d22_114 : decode prog_7_method_5_code 114 = .ok (.ifCond .eq 16, 3) := by decide +kernel
theorem d22_117 : decode prog_7_method_5_code 117 = .ok (.aload_n 0, 1) := by decide +kernel
theorem d22_118 : decode prog_7_method_5_code 118 = .ok (.iload 4, 2) := by decide +kernel
theorem d22_120 : decode prog_7_method_5_code 120 = .ok (.invokevirtual 64, 3) := by decide +kernel
theorem d22_123 : decode prog_7_method_5_code 123 = .ok (.ifCond .eq 7, 3) := by decide +kernel
theorem d22_126 : decode prog_7_method_5_code 126 = .ok (.iconst 1, 1) := by decide +kernel
theorem d22_127 : decode prog_7_method_5_code 127 = .ok (.goto 4, 3) := by decide +kernel
theorem d22_130 : decode prog_7_method_5_code 130 = .ok (.iconst 0, 1) := by decide +kernel
theorem d22_131 : decode prog_7_method_5_code 131 = .ok (.ireturn, 1) := by decide +kernel
theorem d22_132 : decode prog_7_method_5_code 132 = .ok (.aload_n 0, 1) := by decide +kernel
theorem d22_133 : decode prog_7_method_5_code 133 = .ok (.iload_n 2, 1) := by decide +kernel
theorem d22_134 : decode prog_7_method_5_code 134 = .ok (.invokevirtual 64, 3) := by decide +kernel
theorem d22_137 : decode prog_7_method_5_code 137 = .ok (.ifCond .eq 14, 3) := by decide +kernel
theorem d22_140 : decode prog_7_method_5_code 140 = .ok (.iload_n 3, 1) := by decide +kernel
theorem d22_141 : decode prog_7_method_5_code 141 = .ok (.invokestatic 67, 3) := by decide +kernel
theorem d22_144 : decode prog_7_method_5_code 144 = .ok (.ifCond .eq 7, 3) := by decide +kernel
theorem d22_147 : decode prog_7_method_5_code 147 = .ok (.iconst 1, 1) := by decide +kernel
theorem d22_148 : decode prog_7_method_5_code 148 = .ok (.goto 4, 3) := by decide +kernel
theorem d22_151 : decode prog_7_method_5_code 151 = .ok (.iconst 0, 1) := by decide +kernel
theorem d22_152 : decode prog_7_method_5_code 152 = .ok (.ireturn, 1) := by decide +kernel
theorem d22_153 : decode prog_7_method_5_code 153 = .ok (.iload_n 2, 1) := by decide +kernel
theorem d22_154 : decode prog_7_method_5_code 154 = .ok (.ifCond .lt 30, 3) := by decide +kernel
theorem d22_157 : decode prog_7_method_5_code 157 = .ok (.iload_n 2, 1) := by decide +kernel
theorem d22_158 : decode prog_7_method_5_code 158 = .ok (.bipush 8, 2) := by decide +kernel
theorem d22_160 : decode prog_7_method_5_code 160 = .ok (.if_icmp .ge 24, 3) := by decide +kernel
theorem d22_163 : decode prog_7_method_5_code 163 = .ok (.aload_n 0, 1) := by decide +kernel
theorem d22_164 : decode prog_7_method_5_code 164 = .ok (.iload_n 3, 1) := by decide +kernel
theorem d22_165 : decode prog_7_method_5_code 165 = .ok (.invokevirtual 72, 3) := by decide +kernel
theorem d22_168 : decode prog_7_method_5_code 168 = .ok (.ifCond .eq 16, 3) := by decide +kernel
theorem d22_171 : decode prog_7_method_5_code 171 = .ok (.aload_n 0, 1) := by decide +kernel
theorem d22_172 : decode prog_7_method_5_code 172 = .ok (.iload 4, 2) := by decide +kernel
theorem d22_174 : decode prog_7_method_5_code 174 = .ok (.invokevirtual 72, 3) := by decide +kernel
theorem d22_177 : decode prog_7_method_5_code 177 = .ok (.ifCond .eq 7, 3) := by decide +kernel
theorem d22_180 : decode prog_7_method_5_code 180 = .ok (.iconst 1, 1) := by decide +kernel
theorem d22_181 : decode prog_7_method_5_code 181 = .ok (.goto 4, 3) := by decide +kernel
theorem d22_184 : decode prog_7_method_5_code 184 = .ok (.iconst 0, 1) := by decide +kernel
theorem d22_185 : decode prog_7_method_5_code 185 = .ok (.ireturn, 1) := by decide +kernel
theorem d22_186 : decode prog_7_method_5_code 186 = .ok (.aload_n 0, 1) := by decide +kernel
theorem d22_187 : decode prog_7_method_5_code 187 = .ok (.iload_n 2, 1) := by decide +kernel
theorem d22_188 : decode prog_7_method_5_code 188 = .ok (.invokevirtual 64, 3) := by decide +kernel
theorem d22_191 : decode prog_7_method_5_code 191 = .ok (.ireturn, 1) := by decide +kernel
theorem d22_192 : decode prog_7_method_5_code 192 = .ok (.aload_n 0, 1) := by decide +kernel
theorem d22_193 : decode prog_7_method_5_code 193 = .ok (.iload_n 2, 1) := by decide +kernel
theorem d22_194 : decode prog_7_method_5_code 194 = .ok (.invokevirtual 64, 3) := by decide +kernel
theorem d22_197 : decode prog_7_method_5_code 197 = .ok (.ifCond .eq 15, 3) := by decide +kernel
theorem d22_200 : decode prog_7_method_5_code 200 = .ok (.aload_n 0, 1) := by decide +kernel
theorem d22_201 : decode prog_7_method_5_code 201 = .ok (.iload_n 3, 1) := by decide +kernel
theorem d22_202 : decode prog_7_method_5_code 202 = .ok (.invokevirtual 64, 3) := by decide +kernel
theorem d22_205 : decode prog_7_method_5_code 205 = .ok (.ifCond .eq 7, 3) := by decide +kernel
theorem d22_208 : decode prog_7_method_5_code 208 = .ok (.iconst 1, 1) := by decide +kernel
theorem d22_209 : decode prog_7_method_5_code 209 = .ok (.goto 4, 3) := by decide +kernel
theorem d22_212 : decode prog_7_method_5_code 212 = .ok (.iconst 0, 1) := by decide +kernel
theorem d22_213 : decode prog_7_method_5_code 213 = .ok (.ireturn, 1) := by decide +kernel
theorem d23_0 : decode prog_7_method_6_code 0 = .ok (.iload_n 1, 1) := by decide +kernel
theorem d23_1 : decode prog_7_method_6_code 1 = .ok (.iconst (-1), 1) := by decide +kernel
theorem d23_2 : decode prog_7_method_6_code 2 = .ok (.if_icmp .eq 11, 3) := by decide +kernel
theorem d23_5 : decode prog_7_method_6_code 5 = .ok (.aload_n 0, 1) := by decide +kernel
theorem d23_6 : decode prog_7_method_6_code 6 = .ok (.iload_n 1, 1) := by decide +kernel
theorem d23_7 : decode prog_7_method_6_code 7 = .ok (.invokevirtual 64, 3) := by decide +kernel
theorem d23_10 : decode prog_7_method_6_code 10 = .ok (.ifCond .eq 7, 3) := by decide +kernel
theorem d23_13 : decode prog_7_method_6_code 13 = .ok (.iconst 1, 1) := by decide +kernel
theorem d23_14 : decode prog_7_method_6_code 14 = .ok (.goto 4, 3) := by decide +kernel
theorem d23_17 : decode prog_7_method_6_code 17 = .ok (.iconst 0, 1) := by decide +kernel
theorem d23_18 : decode prog_7_method_6_code 18 = .ok (.ireturn, 1) := by decide +kernel
theorem d24_0 : decode prog_7_method_7_code 0 = .ok (.iload_n 1, 1) := by decide +kernel
theorem d24_1 : decode prog_7_method_7_code 1 = .ok (.tableswitch 139 0 16 #[83, 83, 139, 139, 139, 139, 139, 139, 139, 139, 139, 139, 139, 85, 113, 122, 113], 83) := by decide +kernel
theorem tk24_1 : mm_tk 0 16 #[83, 83, 139, 139, 139, 139, 139, 139, 139, 139, 139, 139, 139, 85, 113, 122, 113] := by unfold mm_tk; decide +kernel
theorem d24_84 : decode prog_7_method_7_code 84 = .ok (.iconst 1, 1) := by decide +kernel
theorem d24_85 : decode prog_7_method_7_code 85 = .ok (.ireturn, 1) := by decide +kernel
theorem d24_86 : decode prog_7_method_7_code 86 = .ok (.iconst 1, 1) := by decide +kernel
theorem d24_87 : decode prog_7_method_7_code 87 = .ok (.aload_n 0, 1) := by decide +kernel
theorem d24_88 : decode prog_7_method_7_code 88 = .ok (.getfield 24, 3) := by decide +kernel
theorem d24_91 : decode prog_7_method_7_code 91 = .ok (.iload_n 2, 1) := by decide +kernel
theorem d24_92 : decode prog_7_method_7_code 92 = .ok (.iaload, 1) := by decide +kernel
theorem d24_93 : decode prog_7_method_7_code 93 = .ok (.aload_n 0, 1) := by decide +kernel
theorem d24_94 : decode prog_7_method_7_code 94 = .ok (.getfield 24, 3) := by decide +kernel
theorem d24_97 : decode prog_7_method_7_code 97 = .ok (.iload_n 3, 1) := by decide +kernel
theorem d24_98 : decode prog_7_method_7_code 98 = .ok (.iaload, 1) := by decide +kernel
theorem d24_99 : decode prog_7_method_7_code 99 = .ok (.aload_n 0, 1) := by decide +kernel
theorem d24_100 : decode prog_7_method_7_code 100 = .ok (.getfield 24, 3) := by decide +kernel
theorem d24_103 : decode prog_7_method_7_code 103 = .ok (.iload 4, 2) := by decide +kernel
theorem d24_105 : decode prog_7_method_7_code 105 = .ok (.iaload, 1) := by decide +kernel
theorem d24_106 : decode prog_7_method_7_code 106 = .ok (.invokestatic 75, 3) := by decide +kernel
theorem d24_109 : decode prog_7_method_7_code 109 = .ok (.invokestatic 75, 3) := by decide +kernel
theorem d24_112 : decode prog_7_method_7_code 112 = .ok (.iadd, 1) := by decide +kernel
theorem d24_113 : decode prog_7_method_7_code 113 = .ok (.ireturn, 1) := by decide +kernel
theorem d24_114 : decode prog_7_method_7_code 114 = .ok (.iconst 1, 1) := by decide +kernel
theorem d24_115 : decode prog_7_method_7_code 115 = .ok (.aload_n 0, 1) := by decide +kernel
theorem d24_116 : decode prog_7_method_7_code 116 = .ok (.getfield 24, 3) := by decide +kernel
theorem d24_119 : decode prog_7_method_7_code 119 = .ok (.iload_n 2, 1) := by decide +kernel
theorem d24_120 : decode prog_7_method_7_code 120 = .ok (.iaload, 1) := by decide +kernel
theorem d24_121 : decode prog_7_method_7_code 121 = .ok (.iadd, 1) := by decide +kernel
theorem d24_122 : decode prog_7_method_7_code 122 = .ok (.ireturn, 1) := by decide +kernel
theorem d24_123 : decode prog_7_method_7_code 123 = .ok (.iconst 1, 1) := by decide +kernel
theorem d24_124 : decode prog_7_method_7_code 124 = .ok (.aload_n 0, 1) := by decide +kernel
theorem d24_125 : decode prog_7_method_7_code 125 = .ok (.iload_n 3, 1) := by decide +kernel
theorem d24_126 : decode prog_7_method_7_code 126 = .ok (.invokevirtual 81, 3) := by decide +kernel
theorem d24_129 : decode prog_7_method_7_code 129 = .ok (.aload_n 0, 1) := by decide +kernel
theorem d24_130 : decode prog_7_method_7_code 130 = .ok (.iload 4, 2) := by decide +kernel
theorem d24_132 : decode prog_7_method_7_code 132 = .ok (.invokevirtual 81, 3) := by decide +kernel
theorem d24_135 : decode prog_7_method_7_code 135 = .ok (.invokestatic 75, 3) := by decide +kernel
theorem d24_138 : decode prog_7_method_7_code 138 = .ok (.iadd, 1) := by decide +kernel
theorem d24_139 : decode prog_7_method_7_code 139 = .ok (.ireturn, 1) := by decide +kernel
theorem d24_140 : decode prog_7_method_7_code 140 = .ok (.iconst 1, 1) := by decide +kernel
theorem d24_141 : decode prog_7_method_7_code 141 = .ok (.aload_n 0, 1) := by decide +kernel
theorem d24_142 : decode prog_7_method_7_code 142 = .ok (.getfield 24, 3) := by decide +kernel
theorem d24_145 : decode prog_7_method_7_code 145 = .ok (.iload_n 2, 1) := by decide +kernel
theorem d24_146 : decode prog_7_method_7_code 146 = .ok (.iaload, 1) := by decide +kernel
theorem d24_147 : decode prog_7_method_7_code 147 = .ok (.aload_n 0, 1) := by decide +kernel
theorem d24_148 : decode prog_7_method_7_code 148 = .ok (.getfield 24, 3) := by decide +kernel
theorem d24_151 : decode prog_7_method_7_code 151 = .ok (.iload_n 3, 1) := by decide +kernel
theorem d24_152 : decode prog_7_method_7_code 152 = .ok (.iaload, 1) := by decide +kernel
theorem d24_153 : decode prog_7_method_7_code 153 = .ok (.invokestatic 75, 3) := by decide +kernel
theorem d24_156 : decode prog_7_method_7_code 156 = .ok (.iadd, 1) := by decide +kernel
theorem d24_157 : decode prog_7_method_7_code 157 = .ok (.ireturn, 1) := by decide +kernel
end
section
/-! decode rows, printed by a program of mine out of the listing -/
theorem d25_0 : decode prog_7_method_8_code 0 = .ok (.iload_n 1, 1) := by decide +kernel
theorem d25_1 : decode prog_7_method_8_code 1 = .ok (.iconst (-1), 1) := by decide +kernel
theorem d25_2 : decode prog_7_method_8_code 2 = .ok (.if_icmp .ne 7, 3) := by decide +kernel
theorem d25_5 : decode prog_7_method_8_code 5 = .ok (.iconst 0, 1) := by decide +kernel
theorem d25_6 : decode prog_7_method_8_code 6 = .ok (.goto 9, 3) := by decide +kernel
theorem d25_9 : decode prog_7_method_8_code 9 = .ok (.aload_n 0, 1) := by decide +kernel
theorem d25_10 : decode prog_7_method_8_code 10 = .ok (.getfield 24, 3) := by decide +kernel
theorem d25_13 : decode prog_7_method_8_code 13 = .ok (.iload_n 1, 1) := by decide +kernel
theorem d25_14 : decode prog_7_method_8_code 14 = .ok (.iaload, 1) := by decide +kernel
theorem d25_15 : decode prog_7_method_8_code 15 = .ok (.ireturn, 1) := by decide +kernel
theorem d26_0 : decode prog_7_method_9_code 0 = .ok (.iload_n 1, 1) := by decide +kernel
theorem d26_1 : decode prog_7_method_9_code 1 = .ok (.ifCond .lt 27, 3) := by decide +kernel
theorem d26_4 : decode prog_7_method_9_code 4 = .ok (.iload_n 1, 1) := by decide +kernel
theorem d26_5 : decode prog_7_method_9_code 5 = .ok (.bipush 8, 2) := by decide +kernel
theorem d26_7 : decode prog_7_method_9_code 7 = .ok (.if_icmp .ge 21, 3) := by decide +kernel
theorem d26_10 : decode prog_7_method_9_code 10 = .ok (.aload_n 0, 1) := by decide +kernel
theorem d26_11 : decode prog_7_method_9_code 11 = .ok (.getfield 27, 3) := by decide +kernel
theorem d26_14 : decode prog_7_method_9_code 14 = .ok (.iload_n 1, 1) := by decide +kernel
theorem d26_15 : decode prog_7_method_9_code 15 = .ok (.baload, 1) := by decide +kernel
theorem d26_16 : decode prog_7_method_9_code 16 = .ok (.ifCond .ne 12, 3) := by decide +kernel
theorem d26_19 : decode prog_7_method_9_code 19 = .ok (.aload_n 0, 1) := by decide +kernel
theorem d26_20 : decode prog_7_method_9_code 20 = .ok (.iload 5, 2) := by decide +kernel
theorem d26_22 : decode prog_7_method_9_code 22 = .ok (.invokevirtual 64, 3) := by decide +kernel
theorem d26_25 : decode prog_7_method_9_code 25 = .ok (.ifCond .ne 5, 3) := by decide +kernel
theorem d26_28 : decode prog_7_method_9_code 28 = .ok (.iconst (-1), 1) := by decide +kernel
theorem d26_29 : decode prog_7_method_9_code 29 = .ok (.ireturn, 1) := by decide +kernel
theorem d26_30 : decode prog_7_method_9_code 30 = .ok (.iload_n 2, 1) := by decide +kernel
theorem d26_31 : decode prog_7_method_9_code 31 = .ok (.invokestatic 85, 3) := by decide +kernel
theorem d26_34 : decode prog_7_method_9_code 34 = .ok (.ifCond .eq 18, 3) := by decide +kernel
theorem d26_37 : decode prog_7_method_9_code 37 = .ok (.iload_n 3, 1) := by decide +kernel
theorem d26_38 : decode prog_7_method_9_code 38 = .ok (.invokestatic 85, 3) := by decide +kernel
theorem d26_41 : decode prog_7_method_9_code 41 = .ok (.ifCond .eq 11, 3) := by decide +kernel
theorem d26_44 : decode prog_7_method_9_code 44 = .ok (.iload 4, 2) := by decide +kernel
theorem d26_46 : decode prog_7_method_9_code 46 = .ok (.invokestatic 88, 3) := by decide +kernel
theorem d26_49 : decode prog_7_method_9_code 49 = .ok (.ifCond .ne 5, 3) := by decide +kernel
theorem d26_52 : decode prog_7_method_9_code 52 = .ok (.iconst (-1), 1) := by decide +kernel
theorem d26_53 : decode prog_7_method_9_code 53 = .ok (.ireturn, 1) := by decide +kernel
theorem d26_54 : decode prog_7_method_9_code 54 = .ok (.aload_n 0, 1) := by decide +kernel
theorem d26_55 : decode prog_7_method_9_code 55 = .ok (.getfield 27, 3) := by decide +kernel
theorem d26_58 : decode prog_7_method_9_code 58 = .ok (.iload_n 1, 1) := by decide +kernel
theorem d26_59 : decode prog_7_method_9_code 59 = .ok (.iconst 1, 1) := by decide +kernel
theorem d26_60 : decode prog_7_method_9_code 60 = .ok (.bastore, 1) := by decide +kernel
theorem d26_61 : decode prog_7_method_9_code 61 = .ok (.aload_n 0, 1) := by decide +kernel
theorem d26_62 : decode prog_7_method_9_code 62 = .ok (.getfield 31, 3) := by decide +kernel
theorem d26_65 : decode prog_7_method_9_code 65 = .ok (.iload_n 1, 1) := by decide +kernel
theorem d26_66 : decode prog_7_method_9_code 66 = .ok (.iload_n 2, 1) := by decide +kernel
theorem d26_67 : decode prog_7_method_9_code 67 = .ok (.iastore, 1) := by decide +kernel
theorem d26_68 : decode prog_7_method_9_code 68 = .ok (.aload_n 0, 1) := by decide +kernel
theorem d26_69 : decode prog_7_method_9_code 69 = .ok (.getfield 34, 3) := by decide +kernel
theorem d26_72 : decode prog_7_method_9_code 72 = .ok (.iload_n 1, 1) := by decide +kernel
theorem d26_73 : decode prog_7_method_9_code 73 = .ok (.iload_n 3, 1) := by decide +kernel
theorem d26_74 : decode prog_7_method_9_code 74 = .ok (.iastore, 1) := by decide +kernel
theorem d26_75 : decode prog_7_method_9_code 75 = .ok (.aload_n 0, 1) := by decide +kernel
theorem d26_76 : decode prog_7_method_9_code 76 = .ok (.getfield 37, 3) := by decide +kernel
theorem d26_79 : decode prog_7_method_9_code 79 = .ok (.iload_n 1, 1) := by decide +kernel
theorem d26_80 : decode prog_7_method_9_code 80 = .ok (.iload 4, 2) := by decide +kernel
theorem d26_82 : decode prog_7_method_9_code 82 = .ok (.iastore, 1) := by decide +kernel
theorem d26_83 : decode prog_7_method_9_code 83 = .ok (.aload_n 0, 1) := by decide +kernel
theorem d26_84 : decode prog_7_method_9_code 84 = .ok (.getfield 40, 3) := by decide +kernel
theorem d26_87 : decode prog_7_method_9_code 87 = .ok (.iload_n 1, 1) := by decide +kernel
theorem d26_88 : decode prog_7_method_9_code 88 = .ok (.iload 5, 2) := by decide +kernel
theorem d26_90 : decode prog_7_method_9_code 90 = .ok (.iastore, 1) := by decide +kernel
theorem d26_91 : decode prog_7_method_9_code 91 = .ok (.aload_n 0, 1) := by decide +kernel
theorem d26_92 : decode prog_7_method_9_code 92 = .ok (.dup, 1) := by decide +kernel
theorem d26_93 : decode prog_7_method_9_code 93 = .ok (.getfield 47, 3) := by decide +kernel
theorem d26_96 : decode prog_7_method_9_code 96 = .ok (.iconst 1, 1) := by decide +kernel
theorem d26_97 : decode prog_7_method_9_code 97 = .ok (.iadd, 1) := by decide +kernel
theorem d26_98 : decode prog_7_method_9_code 98 = .ok (.putfield 47, 3) := by decide +kernel
theorem d26_101 : decode prog_7_method_9_code 101 = .ok (.iconst 0, 1) := by decide +kernel
theorem d26_102 : decode prog_7_method_9_code 102 = .ok (.ireturn, 1) := by decide +kernel
theorem d27_0 : decode prog_7_method_10_code 0 = .ok (.iconst 0, 1) := by decide +kernel
theorem d27_1 : decode prog_7_method_10_code 1 = .ok (.istore_n 2, 1) := by decide +kernel
theorem d27_2 : decode prog_7_method_10_code 2 = .ok (.iconst 0, 1) := by decide +kernel
theorem d27_3 : decode prog_7_method_10_code 3 = .ok (.istore_n 3, 1) := by decide +kernel
theorem d27_4 : decode prog_7_method_10_code 4 = .ok (.iload_n 3, 1) := by decide +kernel
theorem d27_5 : decode prog_7_method_10_code 5 = .ok (.aload_n 0, 1) := by decide +kernel
theorem d27_6 : decode prog_7_method_10_code 6 = .ok (.getfield 43, 3) := by decide +kernel
theorem d27_9 : decode prog_7_method_10_code 9 = .ok (.if_icmp .ge 41, 3) := by decide +kernel
theorem d27_12 : decode prog_7_method_10_code 12 = .ok (.aload_n 0, 1) := by decide +kernel
theorem d27_13 : decode prog_7_method_10_code 13 = .ok (.getfield 9, 3) := by decide +kernel
theorem d27_16 : decode prog_7_method_10_code 16 = .ok (.iload_n 3, 1) := by decide +kernel
theorem d27_17 : decode prog_7_method_10_code 17 = .ok (.iaload, 1) := by decide +kernel
theorem d27_18 : decode prog_7_method_10_code 18 = .ok (.invokestatic 91, 3) := by decide +kernel
theorem d27_21 : decode prog_7_method_10_code 21 = .ok (.ifCond .eq 23, 3) := by decide +kernel
theorem d27_24 : decode prog_7_method_10_code 24 = .ok (.aload_n 1, 1) := by decide +kernel
theorem d27_25 : decode prog_7_method_10_code 25 = .ok (.iload_n 3, 1) := by decide +kernel
theorem d27_26 : decode prog_7_method_10_code 26 = .ok (.invokevirtual 94, 3) := by decide +kernel
theorem d27_29 : decode prog_7_method_10_code 29 = .ok (.ifCond .eq 15, 3) := by decide +kernel
theorem d27_32 : decode prog_7_method_10_code 32 = .ok (.aload_n 1, 1) := by decide +kernel
theorem d27_33 : decode prog_7_method_10_code 33 = .ok (.getfield 99, 3) := by decide +kernel
theorem d27_36 : decode prog_7_method_10_code 36 = .ok (.iload_n 3, 1) := by decide +kernel
theorem d27_37 : decode prog_7_method_10_code 37 = .ok (.baload, 1) := by decide +kernel
theorem d27_38 : decode prog_7_method_10_code 38 = .ok (.ifCond .ne 6, 3) := by decide +kernel
theorem d27_41 : decode prog_7_method_10_code 41 = .ok (.iinc 2 1, 3) := by decide +kernel
theorem d27_44 : decode prog_7_method_10_code 44 = .ok (.iinc 3 1, 3) := by decide +kernel
theorem d27_47 : decode prog_7_method_10_code 47 = .ok (.goto (-43), 3) := by decide +kernel
theorem d27_50 : decode prog_7_method_10_code 50 = .ok (.iload_n 2, 1) := by decide +kernel
theorem d27_51 : decode prog_7_method_10_code 51 = .ok (.ireturn, 1) := by decide +kernel
theorem d28_0 : decode prog_3_method_2_code 0 = .ok (.iload_n 1, 1) := by decide +kernel
theorem d28_1 : decode prog_3_method_2_code 1 = .ok (.ifCond .lt 15, 3) := by decide +kernel
theorem d28_4 : decode prog_3_method_2_code 4 = .ok (.iload_n 1, 1) := by decide +kernel
theorem d28_5 : decode prog_3_method_2_code 5 = .ok (.aload_n 0, 1) := by decide +kernel
theorem d28_6 : decode prog_3_method_2_code 6 = .ok (.getfield 22, 3) := by decide +kernel
theorem d28_9 : decode prog_3_method_2_code 9 = .ok (.if_icmp .ge 7, 3) := by decide +kernel
theorem d28_12 : decode prog_3_method_2_code 12 = .ok (.iconst 1, 1) := by decide +kernel
theorem d28_13 : decode prog_3_method_2_code 13 = .ok (.goto 4, 3) := by decide +kernel
theorem d28_16 : decode prog_3_method_2_code 16 = .ok (.iconst 0, 1) := by decide +kernel
theorem d28_17 : decode prog_3_method_2_code 17 = .ok (.ireturn, 1) := by decide +kernel
theorem d29_0 : decode prog_3_method_3_code 0 = .ok (.aload_n 0, 1) := by decide +kernel
theorem d29_1 : decode prog_3_method_3_code 1 = .ok (.iconst 0, 1) := by decide +kernel
theorem d29_2 : decode prog_3_method_3_code 2 = .ok (.putfield 22, 3) := by decide +kernel
theorem d29_5 : decode prog_3_method_3_code 5 = .ok (.aload_n 0, 1) := by decide +kernel
theorem d29_6 : decode prog_3_method_3_code 6 = .ok (.iconst 0, 1) := by decide +kernel
theorem d29_7 : decode prog_3_method_3_code 7 = .ok (.putfield 26, 3) := by decide +kernel
theorem d29_10 : decode prog_3_method_3_code 10 = .ok (.aload_n 0, 1) := by decide +kernel
theorem d29_11 : decode prog_3_method_3_code 11 = .ok (.iconst (-1), 1) := by decide +kernel
theorem d29_12 : decode prog_3_method_3_code 12 = .ok (.putfield 29, 3) := by decide +kernel
theorem d29_15 : decode prog_3_method_3_code 15 = .ok (.aload_n 0, 1) := by decide +kernel
theorem d29_16 : decode prog_3_method_3_code 16 = .ok (.iload_n 1, 1) := by decide +kernel
theorem d29_17 : decode prog_3_method_3_code 17 = .ok (.lload_n 2, 1) := by decide +kernel
theorem d29_18 : decode prog_3_method_3_code 18 = .ok (.lload 4, 2) := by decide +kernel
theorem d29_20 : decode prog_3_method_3_code 20 = .ok (.invokevirtual 32, 3) := by decide +kernel
theorem d29_23 : decode prog_3_method_3_code 23 = .ok (.istore 6, 2) := by decide +kernel
theorem d29_25 : decode prog_3_method_3_code 25 = .ok (.iload 6, 2) := by decide +kernel
theorem d29_27 : decode prog_3_method_3_code 27 = .ok (.ifCond .ge 15, 3) := by decide +kernel
theorem d29_30 : decode prog_3_method_3_code 30 = .ok (.aload_n 0, 1) := by decide +kernel
theorem d29_31 : decode prog_3_method_3_code 31 = .ok (.iload_n 1, 1) := by decide +kernel
theorem d29_32 : decode prog_3_method_3_code 32 = .ok (.bipush 63, 2) := by decide +kernel
theorem d29_34 : decode prog_3_method_3_code 34 = .ok (.iload 6, 2) := by decide +kernel
theorem d29_36 : decode prog_3_method_3_code 36 = .ok (.invokevirtual 36, 3) := by decide +kernel
theorem d29_39 : decode prog_3_method_3_code 39 = .ok (.ifCond .eq 7, 3) := by decide +kernel
theorem d29_42 : decode prog_3_method_3_code 42 = .ok (.iconst 1, 1) := by decide +kernel
theorem d29_43 : decode prog_3_method_3_code 43 = .ok (.goto 4, 3) := by decide +kernel
theorem d29_46 : decode prog_3_method_3_code 46 = .ok (.iconst 0, 1) := by decide +kernel
theorem d29_47 : decode prog_3_method_3_code 47 = .ok (.istore 7, 2) := by decide +kernel
theorem d29_49 : decode prog_3_method_3_code 49 = .ok (.iconst 0, 1) := by decide +kernel
theorem d29_50 : decode prog_3_method_3_code 50 = .ok (.istore 8, 2) := by decide +kernel
theorem d29_52 : decode prog_3_method_3_code 52 = .ok (.iload 7, 2) := by decide +kernel
theorem d29_54 : decode prog_3_method_3_code 54 = .ok (.ifCond .eq 85, 3) := by decide +kernel
theorem d29_57 : decode prog_3_method_3_code 57 = .ok (.iload 8, 2) := by decide +kernel
theorem d29_59 : decode prog_3_method_3_code 59 = .ok (.aload_n 0, 1) := by decide +kernel
theorem d29_60 : decode prog_3_method_3_code 60 = .ok (.getfield 22, 3) := by decide +kernel
theorem d29_63 : decode prog_3_method_3_code 63 = .ok (.if_icmp .ge 76, 3) := by decide +kernel
theorem d29_66 : decode prog_3_method_3_code 66 = .ok (.iload 8, 2) := by decide +kernel
theorem d29_68 : decode prog_3_method_3_code 68 = .ok (.bipush 20, 2) := by decide +kernel
theorem d29_70 : decode prog_3_method_3_code 70 = .ok (.if_icmp .ge 69, 3) := by decide +kernel
theorem d29_73 : decode prog_3_method_3_code 73 = .ok (.aload_n 0, 1) := by decide +kernel
theorem d29_74 : decode prog_3_method_3_code 74 = .ok (.getfield 17, 3) := by decide +kernel
theorem d29_77 : decode prog_3_method_3_code 77 = .ok (.iload 8, 2) := by decide +kernel
theorem d29_79 : decode prog_3_method_3_code 79 = .ok (.aaload, 1) := by decide +kernel
theorem d29_80 : decode prog_3_method_3_code 80 = .ok (.astore 9, 2) := by decide +kernel
theorem d29_82 : decode prog_3_method_3_code 82 = .ok (.aload_n 0, 1) := by decide +kernel
theorem d29_83 : decode prog_3_method_3_code 83 = .ok (.getfield 9, 3) := by decide +kernel
theorem d29_86 : decode prog_3_method_3_code 86 = .ok (.getfield 40, 3) := by decide +kernel
theorem d29_89 : decode prog_3_method_3_code 89 = .ok (.aload 9, 2) := by decide +kernel
theorem d29_91 : decode prog_3_method_3_code 91 = .ok (.getfield 46, 3) := by decide +kernel
theorem d29_94 : decode prog_3_method_3_code 94 = .ok (.iaload, 1) := by decide +kernel
theorem d29_95 : decode prog_3_method_3_code 95 = .ok (.istore 10, 2) := by decide +kernel
theorem d29_97 : decode prog_3_method_3_code 97 = .ok (.aload_n 0, 1) := by decide +kernel
theorem d29_98 : decode prog_3_method_3_code 98 = .ok (.aload 9, 2) := by decide +kernel
theorem d29_100 : decode prog_3_method_3_code 100 = .ok (.iload 10, 2) := by decide +kernel
theorem d29_102 : decode prog_3_method_3_code 102 = .ok (.invokevirtual 49, 3) := by decide +kernel
theorem d29_105 : decode prog_3_method_3_code 105 = .ok (.ifCond .eq 25, 3) := by decide +kernel
theorem d29_108 : decode prog_3_method_3_code 108 = .ok (.aload_n 0, 1) := by decide +kernel
theorem d29_109 : decode prog_3_method_3_code 109 = .ok (.aload 9, 2) := by decide +kernel
theorem d29_111 : decode prog_3_method_3_code 111 = .ok (.iload 10, 2) := by decide +kernel
theorem d29_113 : decode prog_3_method_3_code 113 = .ok (.iload 10, 2) := by decide +kernel
theorem d29_115 : decode prog_3_method_3_code 115 = .ok (.aload 9, 2) := by decide +kernel
theorem d29_117 : decode prog_3_method_3_code 117 = .ok (.getfield 53, 3) := by decide +kernel
theorem d29_120 : decode prog_3_method_3_code 120 = .ok (.invokevirtual 56, 3) := by decide +kernel
theorem d29_123 : decode prog_3_method_3_code 123 = .ok (.ifCond .eq 7, 3) := by decide +kernel
theorem d29_126 : decode prog_3_method_3_code 126 = .ok (.iconst 1, 1) := by decide +kernel
theorem d29_127 : decode prog_3_method_3_code 127 = .ok (.goto 4, 3) := by decide +kernel
theorem d29_130 : decode prog_3_method_3_code 130 = .ok (.iconst 0, 1) := by decide +kernel
theorem d29_131 : decode prog_3_method_3_code 131 = .ok (.istore 7, 2) := by decide +kernel
theorem d29_133 : decode prog_3_method_3_code 133 = .ok (.iinc 8 1, 3) := by decide +kernel
theorem d29_136 : decode prog_3_method_3_code 136 = .ok (.goto (-84), 3) := by decide +kernel
theorem d29_139 : decode prog_3_method_3_code 139 = .ok (.iload 7, 2) := by decide +kernel
theorem d29_141 : decode prog_3_method_3_code 141 = .ok (.ifCond .ne 13, 3) := by decide +kernel
theorem d29_144 : decode prog_3_method_3_code 144 = .ok (.aload_n 0, 1) := by decide +kernel
theorem d29_145 : decode prog_3_method_3_code 145 = .ok (.iconst 0, 1) := by decide +kernel
theorem d29_146 : decode prog_3_method_3_code 146 = .ok (.putfield 22, 3) := by decide +kernel
theorem d29_149 : decode prog_3_method_3_code 149 = .ok (.aload_n 0, 1) := by decide +kernel
theorem d29_150 : decode prog_3_method_3_code 150 = .ok (.getfield 26, 3) := by decide +kernel
theorem d29_153 : decode prog_3_method_3_code 153 = .ok (.ireturn, 1) := by decide +kernel
theorem d29_154 : decode prog_3_method_3_code 154 = .ok (.aload_n 0, 1) := by decide +kernel
theorem d29_155 : decode prog_3_method_3_code 155 = .ok (.getfield 22, 3) := by decide +kernel
theorem d29_158 : decode prog_3_method_3_code 158 = .ok (.ireturn, 1) := by decide +kernel
theorem d30_0 : decode prog_3_method_4_code 0 = .ok (.aload_n 0, 1) := by decide +kernel
theorem d30_1 : decode prog_3_method_4_code 1 = .ok (.iload_n 3, 1) := by decide +kernel
theorem d30_2 : decode prog_3_method_4_code 2 = .ok (.putfield 26, 3) := by decide +kernel
theorem d30_5 : decode prog_3_method_4_code 5 = .ok (.aload_n 0, 1) := by decide +kernel
theorem d30_6 : decode prog_3_method_4_code 6 = .ok (.bipush 64, 2) := by decide +kernel
theorem d30_8 : decode prog_3_method_4_code 8 = .ok (.iload_n 1, 1) := by decide +kernel
theorem d30_9 : decode prog_3_method_4_code 9 = .ok (.imul, 1) := by decide +kernel
theorem d30_10 : decode prog_3_method_4_code 10 = .ok (.iload_n 2, 1) := by decide +kernel
theorem d30_11 : decode prog_3_method_4_code 11 = .ok (.iadd, 1) := by decide +kernel
theorem d30_12 : decode prog_3_method_4_code 12 = .ok (.putfield 29, 3) := by decide +kernel
theorem d30_15 : decode prog_3_method_4_code 15 = .ok (.iconst 0, 1) := by decide +kernel
theorem d30_16 : decode prog_3_method_4_code 16 = .ok (.ireturn, 1) := by decide +kernel
theorem d31_0 : decode prog_3_method_5_code 0 = .ok (.iconst 0, 1) := by decide +kernel
theorem d31_1 : decode prog_3_method_5_code 1 = .ok (.istore 6, 2) := by decide +kernel
theorem d31_3 : decode prog_3_method_5_code 3 = .ok (.iload 6, 2) := by decide +kernel
theorem d31_5 : decode prog_3_method_5_code 5 = .ok (.aload_n 0, 1) := by decide +kernel
theorem d31_6 : decode prog_3_method_5_code 6 = .ok (.getfield 22, 3) := by decide +kernel
theorem d31_9 : decode prog_3_method_5_code 9 = .ok (.if_icmp .ge 29, 3) := by decide +kernel
theorem d31_12 : decode prog_3_method_5_code 12 = .ok (.aload_n 0, 1) := by decide +kernel
theorem d31_13 : decode prog_3_method_5_code 13 = .ok (.getfield 17, 3) := by decide +kernel
theorem d31_16 : decode prog_3_method_5_code 16 = .ok (.iload 6, 2) := by decide +kernel
theorem d31_18 : decode prog_3_method_5_code 18 = .ok (.aaload, 1) := by decide +kernel
theorem d31_19 : decode prog_3_method_5_code 19 = .ok (.iload_n 1, 1) := by decide +kernel
theorem d31_20 : decode prog_3_method_5_code 20 = .ok (.lload_n 2, 1) := by decide +kernel
theorem d31_21 : decode prog_3_method_5_code 21 = .ok (.lload 4, 2) := by decide +kernel
theorem d31_23 : decode prog_3_method_5_code 23 = .ok (.invokevirtual 60, 3) := by decide +kernel
theorem d31_26 : decode prog_3_method_5_code 26 = .ok (.ifCond .eq 6, 3) := by decide +kernel
theorem d31_29 : decode prog_3_method_5_code 29 = .ok (.iload 6, 2) := by decide +kernel
theorem d31_31 : decode prog_3_method_5_code 31 = .ok (.ireturn, 1) := by decide +kernel
theorem d31_32 : decode prog_3_method_5_code 32 = .ok (.iinc 6 1, 3) := by decide +kernel
theorem d31_35 : decode prog_3_method_5_code 35 = .ok (.goto (-32), 3) := by decide +kernel
theorem d31_38 : decode prog_3_method_5_code 38 = .ok (.aload_n 0, 1) := by decide +kernel
theorem d31_39 : decode prog_3_method_5_code 39 = .ok (.getfield 22, 3) := by decide +kernel
theorem d31_42 : decode prog_3_method_5_code 42 = .ok (.bipush 20, 2) := by decide +kernel
theorem d31_44 : decode prog_3_method_5_code 44 = .ok (.if_icmp .lt 6, 3) := by decide +kernel
theorem d31_47 : decode prog_3_method_5_code 47 = .ok (.bipush (-7), 2) := by decide +kernel
theorem d31_49 : decode prog_3_method_5_code 49 = .ok (.ireturn, 1) := by decide +kernel
theorem d31_50 : decode prog_3_method_5_code 50 = .ok (.aload_n 0, 1) := by decide +kernel
theorem d31_51 : decode prog_3_method_5_code 51 = .ok (.getfield 17, 3) := by decide +kernel
theorem d31_54 : decode prog_3_method_5_code 54 = .ok (.aload_n 0, 1) := by decide +kernel
theorem d31_55 : decode prog_3_method_5_code 55 = .ok (.getfield 22, 3) := by decide +kernel
theorem d31_58 : decode prog_3_method_5_code 58 = .ok (.aaload, 1) := by decide +kernel
theorem d31_59 : decode prog_3_method_5_code 59 = .ok (.aload_n 0, 1) := by decide +kernel
theorem d31_60 : decode prog_3_method_5_code 60 = .ok (.getfield 9, 3) := by decide +kernel
theorem d31_63 : decode prog_3_method_5_code 63 = .ok (.iload_n 1, 1) := by decide +kernel
theorem d31_64 : decode prog_3_method_5_code 64 = .ok (.lload_n 2, 1) := by decide +kernel
theorem d31_65 : decode prog_3_method_5_code 65 = .ok (.lload 4, 2) := by decide +kernel
theorem d31_67 : decode prog_3_method_5_code 67 = .ok (.invokevirtual 64, 3) := by decide +kernel
theorem d31_70 : decode prog_3_method_5_code 70 = .ok (.ifCond .ne 6, 3) := by decide +kernel
theorem d31_73 : decode prog_3_method_5_code 73 = .ok (.bipush (-4), 2) := by decide +kernel
theorem d31_75 : decode prog_3_method_5_code 75 = .ok (.ireturn, 1) := by decide +kernel
theorem d31_76 : decode prog_3_method_5_code 76 = .ok (.aload_n 0, 1) := by decide +kernel
theorem d31_77 : decode prog_3_method_5_code 77 = .ok (.dup, 1) := by decide +kernel
theorem d31_78 : decode prog_3_method_5_code 78 = .ok (.getfield 22, 3) := by decide +kernel
theorem d31_81 : decode prog_3_method_5_code 81 = .ok (.iconst 1, 1) := by decide +kernel
theorem d31_82 : decode prog_3_method_5_code 82 = .ok (.iadd, 1) := by decide +kernel
theorem d31_83 : decode prog_3_method_5_code 83 = .ok (.putfield 22, 3) := by decide +kernel
theorem d31_86 : decode prog_3_method_5_code 86 = .ok (.aload_n 0, 1) := by decide +kernel
theorem d31_87 : decode prog_3_method_5_code 87 = .ok (.getfield 22, 3) := by decide +kernel
theorem d31_90 : decode prog_3_method_5_code 90 = .ok (.iconst 1, 1) := by decide +kernel
theorem d31_91 : decode prog_3_method_5_code 91 = .ok (.isub, 1) := by decide +kernel
theorem d31_92 : decode prog_3_method_5_code 92 = .ok (.ireturn, 1) := by decide +kernel
theorem d32_0 : decode prog_3_method_6_code 0 = .ok (.aload_n 1, 1) := by decide +kernel
theorem d32_1 : decode prog_3_method_6_code 1 = .ok (.getfield 68, 3) := by decide +kernel
theorem d32_4 : decode prog_3_method_6_code 4 = .ok (.iload_n 3, 1) := by decide +kernel
theorem d32_5 : decode prog_3_method_6_code 5 = .ok (.iaload, 1) := by decide +kernel
theorem d32_6 : decode prog_3_method_6_code 6 = .ok (.iload 4, 2) := by decide +kernel
theorem d32_8 : decode prog_3_method_6_code 8 = .ok (.if_icmp .ne 5, 3) := by decide +kernel
theorem d32_11 : decode prog_3_method_6_code 11 = .ok (.iconst 1, 1) := by decide +kernel
theorem d32_12 : decode prog_3_method_6_code 12 = .ok (.ireturn, 1) := by decide +kernel
theorem d32_13 : decode prog_3_method_6_code 13 = .ok (.aload_n 1, 1) := by decide +kernel
theorem d32_14 : decode prog_3_method_6_code 14 = .ok (.getfield 68, 3) := by decide +kernel
theorem d32_17 : decode prog_3_method_6_code 17 = .ok (.iload_n 3, 1) := by decide +kernel
theorem d32_18 : decode prog_3_method_6_code 18 = .ok (.iaload, 1) := by decide +kernel
theorem d32_19 : decode prog_3_method_6_code 19 = .ok (.sipush 300, 3) := by decide +kernel
theorem d32_22 : decode prog_3_method_6_code 22 = .ok (.if_icmp .ne 11, 3) := by decide +kernel
theorem d32_25 : decode prog_3_method_6_code 25 = .ok (.iload 4, 2) := by decide +kernel
theorem d32_27 : decode prog_3_method_6_code 27 = .ok (.invokestatic 73, 3) := by decide +kernel
theorem d32_30 : decode prog_3_method_6_code 30 = .ok (.ifCond .ne 15, 3) := by decide +kernel
theorem d32_33 : decode prog_3_method_6_code 33 = .ok (.aload_n 0, 1) := by decide +kernel
theorem d32_34 : decode prog_3_method_6_code 34 = .ok (.aload_n 1, 1) := by decide +kernel
theorem d32_35 : decode prog_3_method_6_code 35 = .ok (.getfield 46, 3) := by decide +kernel
theorem d32_38 : decode prog_3_method_6_code 38 = .ok (.iload_n 2, 1) := by decide +kernel
theorem d32_39 : decode prog_3_method_6_code 39 = .ok (.bipush (-2), 2) := by decide +kernel
theorem d32_41 : decode prog_3_method_6_code 41 = .ok (.invokevirtual 36, 3) := by decide +kernel
theorem d32_44 : decode prog_3_method_6_code 44 = .ok (.ireturn, 1) := by decide +kernel
theorem d32_45 : decode prog_3_method_6_code 45 = .ok (.iload 4, 2) := by decide +kernel
theorem d32_47 : decode prog_3_method_6_code 47 = .ok (.aload_n 1, 1) := by decide +kernel
theorem d32_48 : decode prog_3_method_6_code 48 = .ok (.getfield 77, 3) := by decide +kernel
theorem d32_51 : decode prog_3_method_6_code 51 = .ok (.iload_n 3, 1) := by decide +kernel
theorem d32_52 : decode prog_3_method_6_code 52 = .ok (.laload, 1) := by decide +kernel
theorem d32_53 : decode prog_3_method_6_code 53 = .ok (.invokestatic 81, 3) := by decide +kernel
theorem d32_56 : decode prog_3_method_6_code 56 = .ok (.ifCond .ne 17, 3) := by decide +kernel
theorem d32_59 : decode prog_3_method_6_code 59 = .ok (.aload_n 0, 1) := by decide +kernel
theorem d32_60 : decode prog_3_method_6_code 60 = .ok (.aload_n 1, 1) := by decide +kernel
theorem d32_61 : decode prog_3_method_6_code 61 = .ok (.getfield 46, 3) := by decide +kernel
theorem d32_64 : decode prog_3_method_6_code 64 = .ok (.iload_n 2, 1) := by decide +kernel
theorem d32_65 : decode prog_3_method_6_code 65 = .ok (.bipush (-3), 2) := by decide +kernel
theorem d32_67 : decode prog_3_method_6_code 67 = .ok (.invokevirtual 36, 3) := by decide +kernel
theorem d32_70 : decode prog_3_method_6_code 70 = .ok (.ifCond .eq 7, 3) := by decide +kernel
theorem d32_73 : decode prog_3_method_6_code 73 = .ok (.iconst 1, 1) := by decide +kernel
theorem d32_74 : decode prog_3_method_6_code 74 = .ok (.goto 4, 3) := by decide +kernel
theorem d32_77 : decode prog_3_method_6_code 77 = .ok (.iconst 0, 1) := by decide +kernel
theorem d32_78 : decode prog_3_method_6_code 78 = .ok (.ireturn, 1) := by decide +kernel
theorem d33_0 : decode prog_3_method_7_code 0 = .ok (.aload_n 1, 1) := by decide +kernel
theorem d33_1 : decode prog_3_method_7_code 1 = .ok (.iload_n 2, 1) := by decide +kernel
theorem d33_2 : decode prog_3_method_7_code 2 = .ok (.invokevirtual 85, 3) := by decide +kernel
theorem d33_5 : decode prog_3_method_7_code 5 = .ok (.ifCond .eq 5, 3) := by decide +kernel
theorem d33_8 : decode prog_3_method_7_code 8 = .ok (.iconst 1, 1) := by decide +kernel
theorem d33_9 : decode prog_3_method_7_code 9 = .ok (.ireturn, 1) := by decide +kernel
theorem d33_10 : decode prog_3_method_7_code 10 = .ok (.aload_n 0, 1) := by decide +kernel
theorem d33_11 : decode prog_3_method_7_code 11 = .ok (.getfield 9, 3) := by decide +kernel
theorem d33_14 : decode prog_3_method_7_code 14 = .ok (.getfield 88, 3) := by decide +kernel
theorem d33_17 : decode prog_3_method_7_code 17 = .ok (.iload_n 2, 1) := by decide +kernel
theorem d33_18 : decode prog_3_method_7_code 18 = .ok (.iaload, 1) := by decide +kernel
theorem d33_19 : decode prog_3_method_7_code 19 = .ok (.tableswitch 135 0 16 #[81, 100, 135, 135, 135, 135, 135, 135, 135, 135, 135, 135, 135, 107, 114, 121, 128], 81) := by decide +kernel
theorem tk33_19 : mm_tk 0 16 #[81, 100, 135, 135, 135, 135, 135, 135, 135, 135, 135, 135, 135, 107, 114, 121, 128] := by unfold mm_tk; decide +kernel
theorem d33_100 : decode prog_3_method_7_code 100 = .ok (.aload_n 1, 1) := by decide +kernel
theorem d33_101 : decode prog_3_method_7_code 101 = .ok (.iload_n 2, 1) := by decide +kernel
theorem d33_102 : decode prog_3_method_7_code 102 = .ok (.sipush 300, 3) := by decide +kernel
theorem d33_105 : decode prog_3_method_7_code 105 = .ok (.aload_n 0, 1) := by decide +kernel
theorem d33_106 : decode prog_3_method_7_code 106 = .ok (.getfield 9, 3) := by decide +kernel
theorem d33_109 : decode prog_3_method_7_code 109 = .ok (.getfield 91, 3) := by decide +kernel
theorem d33_112 : decode prog_3_method_7_code 112 = .ok (.iload_n 2, 1) := by decide +kernel
theorem d33_113 : decode prog_3_method_7_code 113 = .ok (.iaload, 1) := by decide +kernel
theorem d33_114 : decode prog_3_method_7_code 114 = .ok (.i2l, 1) := by decide +kernel
theorem d33_115 : decode prog_3_method_7_code 115 = .ok (.invokevirtual 94, 3) := by decide +kernel
theorem d33_118 : decode prog_3_method_7_code 118 = .ok (.ireturn, 1) := by decide +kernel
theorem d33_119 : decode prog_3_method_7_code 119 = .ok (.aload_n 0, 1) := by decide +kernel
theorem d33_120 : decode prog_3_method_7_code 120 = .ok (.aload_n 1, 1) := by decide +kernel
theorem d33_121 : decode prog_3_method_7_code 121 = .ok (.iload_n 2, 1) := by decide +kernel
theorem d33_122 : decode prog_3_method_7_code 122 = .ok (.invokevirtual 98, 3) := by decide +kernel
theorem d33_125 : decode prog_3_method_7_code 125 = .ok (.ireturn, 1) := by decide +kernel
theorem d33_126 : decode prog_3_method_7_code 126 = .ok (.aload_n 0, 1) := by decide +kernel
theorem d33_127 : decode prog_3_method_7_code 127 = .ok (.aload_n 1, 1) := by decide +kernel
theorem d33_128 : decode prog_3_method_7_code 128 = .ok (.iload_n 2, 1) := by decide +kernel
theorem d33_129 : decode prog_3_method_7_code 129 = .ok (.invokevirtual 101, 3) := by decide +kernel
theorem d33_132 : decode prog_3_method_7_code 132 = .ok (.ireturn, 1) := by decide +kernel
theorem d33_133 : decode prog_3_method_7_code 133 = .ok (.aload_n 0, 1) := by decide +kernel
theorem d33_134 : decode prog_3_method_7_code 134 = .ok (.aload_n 1, 1) := by decide +kernel
theorem d33_135 : decode prog_3_method_7_code 135 = .ok (.iload_n 2, 1) := by decide +kernel
theorem d33_136 : decode prog_3_method_7_code 136 = .ok (.invokevirtual 104, 3) := by decide +kernel
theorem d33_139 : decode prog_3_method_7_code 139 = .ok (.ireturn, 1) := by decide +kernel
theorem d33_140 : decode prog_3_method_7_code 140 = .ok (.aload_n 0, 1) := by decide +kernel
theorem d33_141 : decode prog_3_method_7_code 141 = .ok (.aload_n 1, 1) := by decide +kernel
theorem d33_142 : decode prog_3_method_7_code 142 = .ok (.iload_n 2, 1) := by decide +kernel
theorem d33_143 : decode prog_3_method_7_code 143 = .ok (.invokevirtual 107, 3) := by decide +kernel
theorem d33_146 : decode prog_3_method_7_code 146 = .ok (.ireturn, 1) := by decide +kernel
theorem d33_147 : decode prog_3_method_7_code 147 = .ok (.aload_n 0, 1) := by decide +kernel
theorem d33_148 : decode prog_3_method_7_code 148 = .ok (.aload_n 1, 1) := by decide +kernel
theorem d33_149 : decode prog_3_method_7_code 149 = .ok (.iload_n 2, 1) := by decide +kernel
theorem d33_150 : decode prog_3_method_7_code 150 = .ok (.invokevirtual 110, 3) := by decide +kernel
theorem d33_153 : decode prog_3_method_7_code 153 = .ok (.ireturn, 1) := by decide +kernel
theorem d33_154 : decode prog_3_method_7_code 154 = .ok (.aload_n 0, 1) := by decide +kernel
theorem d33_155 : decode prog_3_method_7_code 155 = .ok (.aload_n 1, 1) := by decide +kernel
theorem d33_156 : decode prog_3_method_7_code 156 = .ok (.iload_n 2, 1) := by decide +kernel
theorem d33_157 : decode prog_3_method_7_code 157 = .ok (.invokevirtual 113, 3) := by decide +kernel
theorem d33_160 : decode prog_3_method_7_code 160 = .ok (.ireturn, 1) := by decide +kernel
theorem d34_0 : decode prog_3_method_8_code 0 = .ok (.aload_n 0, 1) := by decide +kernel
theorem d34_1 : decode prog_3_method_8_code 1 = .ok (.getfield 9, 3) := by decide +kernel
theorem d34_4 : decode prog_3_method_8_code 4 = .ok (.getfield 91, 3) := by decide +kernel
theorem d34_7 : decode prog_3_method_8_code 7 = .ok (.iload_n 2, 1) := by decide +kernel
theorem d34_8 : decode prog_3_method_8_code 8 = .ok (.iaload, 1) := by decide +kernel
theorem d34_9 : decode prog_3_method_8_code 9 = .ok (.istore_n 3, 1) := by decide +kernel
theorem d34_10 : decode prog_3_method_8_code 10 = .ok (.aload_n 1, 1) := by decide +kernel
theorem d34_11 : decode prog_3_method_8_code 11 = .ok (.getfield 116, 3) := by decide +kernel
theorem d34_14 : decode prog_3_method_8_code 14 = .ok (.iload_n 3, 1) := by decide +kernel
theorem d34_15 : decode prog_3_method_8_code 15 = .ok (.iaload, 1) := by decide +kernel
theorem d34_16 : decode prog_3_method_8_code 16 = .ok (.istore 4, 2) := by decide +kernel
theorem d34_18 : decode prog_3_method_8_code 18 = .ok (.iload 4, 2) := by decide +kernel
theorem d34_20 : decode prog_3_method_8_code 20 = .ok (.sipush 400, 3) := by decide +kernel
theorem d34_23 : decode prog_3_method_8_code 23 = .ok (.if_icmp .ne 15, 3) := by decide +kernel
theorem d34_26 : decode prog_3_method_8_code 26 = .ok (.aload_n 0, 1) := by decide +kernel
theorem d34_27 : decode prog_3_method_8_code 27 = .ok (.aload_n 1, 1) := by decide +kernel
theorem d34_28 : decode prog_3_method_8_code 28 = .ok (.getfield 46, 3) := by decide +kernel
theorem d34_31 : decode prog_3_method_8_code 31 = .ok (.iload_n 2, 1) := by decide +kernel
theorem d34_32 : decode prog_3_method_8_code 32 = .ok (.bipush (-2), 2) := by decide +kernel
theorem d34_34 : decode prog_3_method_8_code 34 = .ok (.invokevirtual 36, 3) := by decide +kernel
theorem d34_37 : decode prog_3_method_8_code 37 = .ok (.ireturn, 1) := by decide +kernel
theorem d34_38 : decode prog_3_method_8_code 38 = .ok (.iload 4, 2) := by decide +kernel
theorem d34_40 : decode prog_3_method_8_code 40 = .ok (.sipush 300, 3) := by decide +kernel
theorem d34_43 : decode prog_3_method_8_code 43 = .ok (.if_icmp .ne 19, 3) := by decide +kernel
theorem d34_46 : decode prog_3_method_8_code 46 = .ok (.aload_n 1, 1) := by decide +kernel
theorem d34_47 : decode prog_3_method_8_code 47 = .ok (.iload_n 2, 1) := by decide +kernel
theorem d34_48 : decode prog_3_method_8_code 48 = .ok (.iload 4, 2) := by decide +kernel
theorem d34_50 : decode prog_3_method_8_code 50 = .ok (.aload_n 1, 1) := by decide +kernel
theorem d34_51 : decode prog_3_method_8_code 51 = .ok (.getfield 119, 3) := by decide +kernel
theorem d34_54 : decode prog_3_method_8_code 54 = .ok (.iload_n 3, 1) := by decide +kernel
theorem d34_55 : decode prog_3_method_8_code 55 = .ok (.laload, 1) := by decide +kernel
theorem d34_56 : decode prog_3_method_8_code 56 = .ok (.invokevirtual 94, 3) := by decide +kernel
theorem d34_59 : decode prog_3_method_8_code 59 = .ok (.goto 10, 3) := by decide +kernel
theorem d34_62 : decode prog_3_method_8_code 62 = .ok (.aload_n 1, 1) := by decide +kernel
theorem d34_63 : decode prog_3_method_8_code 63 = .ok (.iload_n 2, 1) := by decide +kernel
theorem d34_64 : decode prog_3_method_8_code 64 = .ok (.iload 4, 2) := by decide +kernel
theorem d34_66 : decode prog_3_method_8_code 66 = .ok (.invokevirtual 122, 3) := by decide +kernel
theorem d34_69 : decode prog_3_method_8_code 69 = .ok (.ireturn, 1) := by decide +kernel
theorem d35_0 : decode prog_3_method_9_code 0 = .ok (.aload_n 0, 1) := by decide +kernel
theorem d35_1 : decode prog_3_method_9_code 1 = .ok (.getfield 9, 3) := by decide +kernel
theorem d35_4 : decode prog_3_method_9_code 4 = .ok (.getfield 88, 3) := by decide +kernel
theorem d35_7 : decode prog_3_method_9_code 7 = .ok (.iload_n 2, 1) := by decide +kernel
theorem d35_8 : decode prog_3_method_9_code 8 = .ok (.iaload, 1) := by decide +kernel
theorem d35_9 : decode prog_3_method_9_code 9 = .ok (.istore_n 3, 1) := by decide +kernel
theorem d35_10 : decode prog_3_method_9_code 10 = .ok (.aload_n 0, 1) := by decide +kernel
theorem d35_11 : decode prog_3_method_9_code 11 = .ok (.getfield 9, 3) := by decide +kernel
theorem d35_14 : decode prog_3_method_9_code 14 = .ok (.getfield 91, 3) := by decide +kernel
theorem d35_17 : decode prog_3_method_9_code 17 = .ok (.iload_n 2, 1) := by decide +kernel
theorem d35_18 : decode prog_3_method_9_code 18 = .ok (.iaload, 1) := by decide +kernel
theorem d35_19 : decode prog_3_method_9_code 19 = .ok (.istore 4, 2) := by decide +kernel
theorem d35_21 : decode prog_3_method_9_code 21 = .ok (.aload_n 0, 1) := by decide +kernel
theorem d35_22 : decode prog_3_method_9_code 22 = .ok (.getfield 9, 3) := by decide +kernel
theorem d35_25 : decode prog_3_method_9_code 25 = .ok (.getfield 126, 3) := by decide +kernel
theorem d35_28 : decode prog_3_method_9_code 28 = .ok (.iload_n 2, 1) := by decide +kernel
theorem d35_29 : decode prog_3_method_9_code 29 = .ok (.iaload, 1) := by decide +kernel
theorem d35_30 : decode prog_3_method_9_code 30 = .ok (.istore 5, 2) := by decide +kernel
theorem d35_32 : decode prog_3_method_9_code 32 = .ok (.aload_n 0, 1) := by decide +kernel
theorem d35_33 : decode prog_3_method_9_code 33 = .ok (.aload_n 1, 1) := by decide +kernel
theorem d35_34 : decode prog_3_method_9_code 34 = .ok (.iload 4, 2) := by decide +kernel
theorem d35_36 : decode prog_3_method_9_code 36 = .ok (.invokevirtual 49, 3) := by decide +kernel
theorem d35_39 : decode prog_3_method_9_code 39 = .ok (.ifCond .eq 26, 3) := by decide +kernel
theorem d35_42 : decode prog_3_method_9_code 42 = .ok (.aload_n 0, 1) := by decide +kernel
theorem d35_43 : decode prog_3_method_9_code 43 = .ok (.aload_n 1, 1) := by decide +kernel
theorem d35_44 : decode prog_3_method_9_code 44 = .ok (.iload 5, 2) := by decide +kernel
theorem d35_46 : decode prog_3_method_9_code 46 = .ok (.invokevirtual 49, 3) := by decide +kernel
theorem d35_49 : decode prog_3_method_9_code 49 = .ok (.ifCond .eq 16, 3) := by decide +kernel
theorem d35_52 : decode prog_3_method_9_code 52 = .ok (.aload_n 0, 1) := by decide +kernel
theorem d35_53 : decode prog_3_method_9_code 53 = .ok (.aload_n 1, 1) := by decide +kernel
theorem d35_54 : decode prog_3_method_9_code 54 = .ok (.iload_n 2, 1) := by decide +kernel
theorem d35_55 : decode prog_3_method_9_code 55 = .ok (.iload 4, 2) := by decide +kernel
theorem d35_57 : decode prog_3_method_9_code 57 = .ok (.iload 5, 2) := by decide +kernel
theorem d35_59 : decode prog_3_method_9_code 59 = .ok (.invokevirtual 129, 3) := by decide +kernel
theorem d35_62 : decode prog_3_method_9_code 62 = .ok (.ifCond .ne 5, 3) := by decide +kernel
theorem d35_65 : decode prog_3_method_9_code 65 = .ok (.iconst 0, 1) := by decide +kernel
theorem d35_66 : decode prog_3_method_9_code 66 = .ok (.ireturn, 1) := by decide +kernel
theorem d35_67 : decode prog_3_method_9_code 67 = .ok (.aload_n 0, 1) := by decide +kernel
theorem d35_68 : decode prog_3_method_9_code 68 = .ok (.aload_n 1, 1) := by decide +kernel
theorem d35_69 : decode prog_3_method_9_code 69 = .ok (.iload 4, 2) := by decide +kernel
theorem d35_71 : decode prog_3_method_9_code 71 = .ok (.iload 5, 2) := by decide +kernel
theorem d35_73 : decode prog_3_method_9_code 73 = .ok (.invokevirtual 132, 3) := by decide +kernel
theorem d35_76 : decode prog_3_method_9_code 76 = .ok (.istore 6, 2) := by decide +kernel
theorem d35_78 : decode prog_3_method_9_code 78 = .ok (.iload 6, 2) := by decide +kernel
theorem d35_80 : decode prog_3_method_9_code 80 = .ok (.ifCond .ne 9, 3) := by decide +kernel
theorem d35_83 : decode prog_3_method_9_code 83 = .ok (.iload_n 3, 1) := by decide +kernel
theorem d35_84 : decode prog_3_method_9_code 84 = .ok (.bipush 12, 2) := by decide +kernel
theorem d35_86 : decode prog_3_method_9_code 86 = .ok (.if_icmp .ne 18, 3) := by decide +kernel
theorem d35_89 : decode prog_3_method_9_code 89 = .ok (.iload 6, 2) := by decide +kernel
theorem d35_91 : decode prog_3_method_9_code 91 = .ok (.sipush 300, 3) := by decide +kernel
theorem d35_94 : decode prog_3_method_9_code 94 = .ok (.if_icmp .ne 22, 3) := by decide +kernel
theorem d35_97 : decode prog_3_method_9_code 97 = .ok (.iload_n 3, 1) := by decide +kernel
theorem d35_98 : decode prog_3_method_9_code 98 = .ok (.invokestatic 138, 3) := by decide +kernel
theorem d35_101 : decode prog_3_method_9_code 101 = .ok (.ifCond .eq 15, 3) := by decide +kernel
theorem d35_104 : decode prog_3_method_9_code 104 = .ok (.aload_n 0, 1) := by decide +kernel
theorem d35_105 : decode prog_3_method_9_code 105 = .ok (.aload_n 1, 1) := by decide +kernel
theorem d35_106 : decode prog_3_method_9_code 106 = .ok (.getfield 46, 3) := by decide +kernel
theorem d35_109 : decode prog_3_method_9_code 109 = .ok (.iload_n 2, 1) := by decide +kernel
theorem d35_110 : decode prog_3_method_9_code 110 = .ok (.bipush (-2), 2) := by decide +kernel
theorem d35_112 : decode prog_3_method_9_code 112 = .ok (.invokevirtual 36, 3) := by decide +kernel
theorem d35_115 : decode prog_3_method_9_code 115 = .ok (.ireturn, 1) := by decide +kernel
theorem d35_116 : decode prog_3_method_9_code 116 = .ok (.iload_n 3, 1) := by decide +kernel
theorem d35_117 : decode prog_3_method_9_code 117 = .ok (.invokestatic 141, 3) := by decide +kernel
theorem d35_120 : decode prog_3_method_9_code 120 = .ok (.ifCond .eq 7, 3) := by decide +kernel
theorem d35_123 : decode prog_3_method_9_code 123 = .ok (.iconst 0, 1) := by decide +kernel
theorem d35_124 : decode prog_3_method_9_code 124 = .ok (.goto 5, 3) := by decide +kernel
theorem d35_127 : decode prog_3_method_9_code 127 = .ok (.iload 6, 2) := by decide +kernel
theorem d35_129 : decode prog_3_method_9_code 129 = .ok (.istore 7, 2) := by decide +kernel
theorem d35_131 : decode prog_3_method_9_code 131 = .ok (.aload_n 1, 1) := by decide +kernel
theorem d35_132 : decode prog_3_method_9_code 132 = .ok (.getfield 144, 3) := by decide +kernel
theorem d35_135 : decode prog_3_method_9_code 135 = .ok (.iload 4, 2) := by decide +kernel
theorem d35_137 : decode prog_3_method_9_code 137 = .ok (.baload, 1) := by decide +kernel
theorem d35_138 : decode prog_3_method_9_code 138 = .ok (.ifCond .eq 13, 3) := by decide +kernel
theorem d35_141 : decode prog_3_method_9_code 141 = .ok (.aload_n 1, 1) := by decide +kernel
theorem d35_142 : decode prog_3_method_9_code 142 = .ok (.getfield 144, 3) := by decide +kernel
theorem d35_145 : decode prog_3_method_9_code 145 = .ok (.iload 5, 2) := by decide +kernel
theorem d35_147 : decode prog_3_method_9_code 147 = .ok (.baload, 1) := by decide +kernel
theorem d35_148 : decode prog_3_method_9_code 148 = .ok (.ifCond .ne 11, 3) := by decide +kernel
theorem d35_151 : decode prog_3_method_9_code 151 = .ok (.aload_n 1, 1) := by decide +kernel
theorem d35_152 : decode prog_3_method_9_code 152 = .ok (.iload_n 2, 1) := by decide +kernel
theorem d35_153 : decode prog_3_method_9_code 153 = .ok (.iload 7, 2) := by decide +kernel
theorem d35_155 : decode prog_3_method_9_code 155 = .ok (.invokevirtual 122, 3) := by decide +kernel
theorem d35_158 : decode prog_3_method_9_code 158 = .ok (.ireturn, 1) := by decide +kernel
theorem d35_159 : decode prog_3_method_9_code 159 = .ok (.iload_n 3, 1) := by decide +kernel
theorem d35_160 : decode prog_3_method_9_code 160 = .ok (.iload 6, 2) := by decide +kernel
theorem d35_162 : decode prog_3_method_9_code 162 = .ok (.aload_n 1, 1) := by decide +kernel
theorem d35_163 : decode prog_3_method_9_code 163 = .ok (.getfield 77, 3) := by decide +kernel
theorem d35_166 : decode prog_3_method_9_code 166 = .ok (.iload 4, 2) := by decide +kernel
theorem d35_168 : decode prog_3_method_9_code 168 = .ok (.laload, 1) := by decide +kernel
theorem d35_169 : decode prog_3_method_9_code 169 = .ok (.aload_n 1, 1) := by decide +kernel
theorem d35_170 : decode prog_3_method_9_code 170 = .ok (.getfield 77, 3) := by decide +kernel
theorem d35_173 : decode prog_3_method_9_code 173 = .ok (.iload 5, 2) := by decide +kernel
theorem d35_175 : decode prog_3_method_9_code 175 = .ok (.laload, 1) := by decide +kernel
theorem d35_176 : decode prog_3_method_9_code 176 = .ok (.invokestatic 148, 3) := by decide +kernel
theorem d35_179 : decode prog_3_method_9_code 179 = .ok (.lstore 8, 2) := by decide +kernel
theorem d35_181 : decode prog_3_method_9_code 181 = .ok (.lload 8, 2) := by decide +kernel
theorem d35_183 : decode prog_3_method_9_code 183 = .ok (.invokestatic 154, 3) := by decide +kernel
theorem d35_186 : decode prog_3_method_9_code 186 = .ok (.ifCond .eq 29, 3) := by decide +kernel
theorem d35_189 : decode prog_3_method_9_code 189 = .ok (.aload_n 0, 1) := by decide +kernel
theorem d35_190 : decode prog_3_method_9_code 190 = .ok (.aload_n 1, 1) := by decide +kernel
theorem d35_191 : decode prog_3_method_9_code 191 = .ok (.getfield 46, 3) := by decide +kernel
theorem d35_194 : decode prog_3_method_9_code 194 = .ok (.iload_n 2, 1) := by decide +kernel
theorem d35_195 : decode prog_3_method_9_code 195 = .ok (.lload 8, 2) := by decide +kernel
theorem d35_197 : decode prog_3_method_9_code 197 = .ok (.ldc2_w 158, 3) := by decide +kernel
theorem d35_200 : decode prog_3_method_9_code 200 = .ok (.lcmp, 1) := by decide +kernel
theorem d35_201 : decode prog_3_method_9_code 201 = .ok (.ifCond .ne 8, 3) := by decide +kernel
theorem d35_204 : decode prog_3_method_9_code 204 = .ok (.bipush (-5), 2) := by decide +kernel
theorem d35_206 : decode prog_3_method_9_code 206 = .ok (.goto 5, 3) := by decide +kernel
theorem d35_209 : decode prog_3_method_9_code 209 = .ok (.bipush (-3), 2) := by decide +kernel
theorem d35_211 : decode prog_3_method_9_code 211 = .ok (.invokevirtual 36, 3) := by decide +kernel
theorem d35_214 : decode prog_3_method_9_code 214 = .ok (.ireturn, 1) := by decide +kernel
theorem d35_215 : decode prog_3_method_9_code 215 = .ok (.aload_n 1, 1) := by decide +kernel
theorem d35_216 : decode prog_3_method_9_code 216 = .ok (.iload_n 2, 1) := by decide +kernel
theorem d35_217 : decode prog_3_method_9_code 217 = .ok (.iload 7, 2) := by decide +kernel
theorem d35_219 : decode prog_3_method_9_code 219 = .ok (.lload 8, 2) := by decide +kernel
theorem d35_221 : decode prog_3_method_9_code 221 = .ok (.invokevirtual 94, 3) := by decide +kernel
theorem d35_224 : decode prog_3_method_9_code 224 = .ok (.ireturn, 1) := by decide +kernel
theorem d36_0 : decode prog_3_method_10_code 0 = .ok (.aload_n 1, 1) := by decide +kernel
theorem d36_1 : decode prog_3_method_10_code 1 = .ok (.getfield 68, 3) := by decide +kernel
theorem d36_4 : decode prog_3_method_10_code 4 = .ok (.iload_n 3, 1) := by decide +kernel
theorem d36_5 : decode prog_3_method_10_code 5 = .ok (.iaload, 1) := by decide +kernel
theorem d36_6 : decode prog_3_method_10_code 6 = .ok (.sipush 300, 3) := by decide +kernel
theorem d36_9 : decode prog_3_method_10_code 9 = .ok (.if_icmp .ne 20, 3) := by decide +kernel
theorem d36_12 : decode prog_3_method_10_code 12 = .ok (.aload_n 0, 1) := by decide +kernel
theorem d36_13 : decode prog_3_method_10_code 13 = .ok (.aload_n 1, 1) := by decide +kernel
theorem d36_14 : decode prog_3_method_10_code 14 = .ok (.iload_n 2, 1) := by decide +kernel
theorem d36_15 : decode prog_3_method_10_code 15 = .ok (.iload_n 3, 1) := by decide +kernel
theorem d36_16 : decode prog_3_method_10_code 16 = .ok (.aload_n 1, 1) := by decide +kernel
theorem d36_17 : decode prog_3_method_10_code 17 = .ok (.getfield 68, 3) := by decide +kernel
theorem d36_20 : decode prog_3_method_10_code 20 = .ok (.iload 4, 2) := by decide +kernel
theorem d36_22 : decode prog_3_method_10_code 22 = .ok (.iaload, 1) := by decide +kernel
theorem d36_23 : decode prog_3_method_10_code 23 = .ok (.invokevirtual 56, 3) := by decide +kernel
theorem d36_26 : decode prog_3_method_10_code 26 = .ok (.goto 17, 3) := by decide +kernel
theorem d36_29 : decode prog_3_method_10_code 29 = .ok (.aload_n 0, 1) := by decide +kernel
theorem d36_30 : decode prog_3_method_10_code 30 = .ok (.aload_n 1, 1) := by decide +kernel
theorem d36_31 : decode prog_3_method_10_code 31 = .ok (.iload_n 2, 1) := by decide +kernel
theorem d36_32 : decode prog_3_method_10_code 32 = .ok (.iload 4, 2) := by decide +kernel
theorem d36_34 : decode prog_3_method_10_code 34 = .ok (.aload_n 1, 1) := by decide +kernel
theorem d36_35 : decode prog_3_method_10_code 35 = .ok (.getfield 68, 3) := by decide +kernel
theorem d36_38 : decode prog_3_method_10_code 38 = .ok (.iload_n 3, 1) := by decide +kernel
theorem d36_39 : decode prog_3_method_10_code 39 = .ok (.iaload, 1) := by decide +kernel
theorem d36_40 : decode prog_3_method_10_code 40 = .ok (.invokevirtual 56, 3) := by decide +kernel
theorem d36_43 : decode prog_3_method_10_code 43 = .ok (.ireturn, 1) := by decide +kernel
theorem d37_0 : decode prog_3_method_11_code 0 = .ok (.aload_n 1, 1) := by decide +kernel
theorem d37_1 : decode prog_3_method_11_code 1 = .ok (.getfield 68, 3) := by decide +kernel
theorem d37_4 : decode prog_3_method_11_code 4 = .ok (.iload_n 2, 1) := by decide +kernel
theorem d37_5 : decode prog_3_method_11_code 5 = .ok (.iaload, 1) := by decide +kernel
theorem d37_6 : decode prog_3_method_11_code 6 = .ok (.sipush 300, 3) := by decide +kernel
theorem d37_9 : decode prog_3_method_11_code 9 = .ok (.if_icmp .ne 12, 3) := by decide +kernel
theorem d37_12 : decode prog_3_method_11_code 12 = .ok (.aload_n 1, 1) := by decide +kernel
theorem d37_13 : decode prog_3_method_11_code 13 = .ok (.getfield 68, 3) := by decide +kernel
theorem d37_16 : decode prog_3_method_11_code 16 = .ok (.iload_n 3, 1) := by decide +kernel
theorem d37_17 : decode prog_3_method_11_code 17 = .ok (.iaload, 1) := by decide +kernel
theorem d37_18 : decode prog_3_method_11_code 18 = .ok (.goto 9, 3) := by decide +kernel
theorem d37_21 : decode prog_3_method_11_code 21 = .ok (.aload_n 1, 1) := by decide +kernel
theorem d37_22 : decode prog_3_method_11_code 22 = .ok (.getfield 68, 3) := by decide +kernel
theorem d37_25 : decode prog_3_method_11_code 25 = .ok (.iload_n 2, 1) := by decide +kernel
theorem d37_26 : decode prog_3_method_11_code 26 = .ok (.iaload, 1) := by decide +kernel
theorem d37_27 : decode prog_3_method_11_code 27 = .ok (.ireturn, 1) := by decide +kernel
theorem d38_0 : decode prog_3_method_12_code 0 = .ok (.aload_n 0, 1) := by decide +kernel
theorem d38_1 : decode prog_3_method_12_code 1 = .ok (.getfield 9, 3) := by decide +kernel
theorem d38_4 : decode prog_3_method_12_code 4 = .ok (.getfield 91, 3) := by decide +kernel
theorem d38_7 : decode prog_3_method_12_code 7 = .ok (.iload_n 2, 1) := by decide +kernel
theorem d38_8 : decode prog_3_method_12_code 8 = .ok (.iaload, 1) := by decide +kernel
theorem d38_9 : decode prog_3_method_12_code 9 = .ok (.istore_n 3, 1) := by decide +kernel
theorem d38_10 : decode prog_3_method_12_code 10 = .ok (.aload_n 0, 1) := by decide +kernel
theorem d38_11 : decode prog_3_method_12_code 11 = .ok (.getfield 9, 3) := by decide +kernel
theorem d38_14 : decode prog_3_method_12_code 14 = .ok (.getfield 126, 3) := by decide +kernel
theorem d38_17 : decode prog_3_method_12_code 17 = .ok (.iload_n 2, 1) := by decide +kernel
theorem d38_18 : decode prog_3_method_12_code 18 = .ok (.iaload, 1) := by decide +kernel
theorem d38_19 : decode prog_3_method_12_code 19 = .ok (.istore 4, 2) := by decide +kernel
theorem d38_21 : decode prog_3_method_12_code 21 = .ok (.aload_n 0, 1) := by decide +kernel
theorem d38_22 : decode prog_3_method_12_code 22 = .ok (.getfield 9, 3) := by decide +kernel
theorem d38_25 : decode prog_3_method_12_code 25 = .ok (.getfield 160, 3) := by decide +kernel
theorem d38_28 : decode prog_3_method_12_code 28 = .ok (.iload_n 2, 1) := by decide +kernel
theorem d38_29 : decode prog_3_method_12_code 29 = .ok (.iaload, 1) := by decide +kernel
theorem d38_30 : decode prog_3_method_12_code 30 = .ok (.istore 5, 2) := by decide +kernel
theorem d38_32 : decode prog_3_method_12_code 32 = .ok (.aload_n 0, 1) := by decide +kernel
theorem d38_33 : decode prog_3_method_12_code 33 = .ok (.aload_n 1, 1) := by decide +kernel
theorem d38_34 : decode prog_3_method_12_code 34 = .ok (.iload_n 3, 1) := by decide +kernel
theorem d38_35 : decode prog_3_method_12_code 35 = .ok (.invokevirtual 49, 3) := by decide +kernel
theorem d38_38 : decode prog_3_method_12_code 38 = .ok (.ifCond .ne 5, 3) := by decide +kernel
theorem d38_41 : decode prog_3_method_12_code 41 = .ok (.iconst 0, 1) := by decide +kernel
theorem d38_42 : decode prog_3_method_12_code 42 = .ok (.ireturn, 1) := by decide +kernel
theorem d38_43 : decode prog_3_method_12_code 43 = .ok (.aload_n 1, 1) := by decide +kernel
theorem d38_44 : decode prog_3_method_12_code 44 = .ok (.getfield 68, 3) := by decide +kernel
theorem d38_47 : decode prog_3_method_12_code 47 = .ok (.iload_n 3, 1) := by decide +kernel
theorem d38_48 : decode prog_3_method_12_code 48 = .ok (.iaload, 1) := by decide +kernel
theorem d38_49 : decode prog_3_method_12_code 49 = .ok (.ifCond .eq 15, 3) := by decide +kernel
theorem d38_52 : decode prog_3_method_12_code 52 = .ok (.aload_n 0, 1) := by decide +kernel
theorem d38_53 : decode prog_3_method_12_code 53 = .ok (.aload_n 1, 1) := by decide +kernel
theorem d38_54 : decode prog_3_method_12_code 54 = .ok (.getfield 46, 3) := by decide +kernel
theorem d38_57 : decode prog_3_method_12_code 57 = .ok (.iload_n 2, 1) := by decide +kernel
theorem d38_58 : decode prog_3_method_12_code 58 = .ok (.bipush (-2), 2) := by decide +kernel
theorem d38_60 : decode prog_3_method_12_code 60 = .ok (.invokevirtual 36, 3) := by decide +kernel
theorem d38_63 : decode prog_3_method_12_code 63 = .ok (.ireturn, 1) := by decide +kernel
theorem d38_64 : decode prog_3_method_12_code 64 = .ok (.aload_n 1, 1) := by decide +kernel
theorem d38_65 : decode prog_3_method_12_code 65 = .ok (.getfield 144, 3) := by decide +kernel
theorem d38_68 : decode prog_3_method_12_code 68 = .ok (.iload_n 3, 1) := by decide +kernel
theorem d38_69 : decode prog_3_method_12_code 69 = .ok (.baload, 1) := by decide +kernel
theorem d38_70 : decode prog_3_method_12_code 70 = .ok (.ifCond .eq 49, 3) := by decide +kernel
theorem d38_73 : decode prog_3_method_12_code 73 = .ok (.aload_n 1, 1) := by decide +kernel
theorem d38_74 : decode prog_3_method_12_code 74 = .ok (.getfield 77, 3) := by decide +kernel
theorem d38_77 : decode prog_3_method_12_code 77 = .ok (.iload_n 3, 1) := by decide +kernel
theorem d38_78 : decode prog_3_method_12_code 78 = .ok (.laload, 1) := by decide +kernel
theorem d38_79 : decode prog_3_method_12_code 79 = .ok (.lconst 0, 1) := by decide +kernel
theorem d38_80 : decode prog_3_method_12_code 80 = .ok (.lcmp, 1) := by decide +kernel
theorem d38_81 : decode prog_3_method_12_code 81 = .ok (.ifCond .eq 8, 3) := by decide +kernel
theorem d38_84 : decode prog_3_method_12_code 84 = .ok (.iload 4, 2) := by decide +kernel
theorem d38_86 : decode prog_3_method_12_code 86 = .ok (.goto 5, 3) := by decide +kernel
theorem d38_89 : decode prog_3_method_12_code 89 = .ok (.iload 5, 2) := by decide +kernel
theorem d38_91 : decode prog_3_method_12_code 91 = .ok (.istore 6, 2) := by decide +kernel
theorem d38_93 : decode prog_3_method_12_code 93 = .ok (.aload_n 0, 1) := by decide +kernel
theorem d38_94 : decode prog_3_method_12_code 94 = .ok (.aload_n 1, 1) := by decide +kernel
theorem d38_95 : decode prog_3_method_12_code 95 = .ok (.iload 6, 2) := by decide +kernel
theorem d38_97 : decode prog_3_method_12_code 97 = .ok (.invokevirtual 49, 3) := by decide +kernel
theorem d38_100 : decode prog_3_method_12_code 100 = .ok (.ifCond .eq 17, 3) := by decide +kernel
theorem d38_103 : decode prog_3_method_12_code 103 = .ok (.aload_n 1, 1) := by decide +kernel
theorem d38_104 : decode prog_3_method_12_code 104 = .ok (.iload_n 2, 1) := by decide +kernel
theorem d38_105 : decode prog_3_method_12_code 105 = .ok (.iload 6, 2) := by decide +kernel
theorem d38_107 : decode prog_3_method_12_code 107 = .ok (.invokevirtual 163, 3) := by decide +kernel
theorem d38_110 : decode prog_3_method_12_code 110 = .ok (.ifCond .eq 7, 3) := by decide +kernel
theorem d38_113 : decode prog_3_method_12_code 113 = .ok (.iconst 1, 1) := by decide +kernel
theorem d38_114 : decode prog_3_method_12_code 114 = .ok (.goto 4, 3) := by decide +kernel
theorem d38_117 : decode prog_3_method_12_code 117 = .ok (.iconst 0, 1) := by decide +kernel
theorem d38_118 : decode prog_3_method_12_code 118 = .ok (.ireturn, 1) := by decide +kernel
theorem d38_119 : decode prog_3_method_12_code 119 = .ok (.aload_n 0, 1) := by decide +kernel
theorem d38_120 : decode prog_3_method_12_code 120 = .ok (.aload_n 1, 1) := by decide +kernel
theorem d38_121 : decode prog_3_method_12_code 121 = .ok (.iload 4, 2) := by decide +kernel
theorem d38_123 : decode prog_3_method_12_code 123 = .ok (.invokevirtual 49, 3) := by decide +kernel
theorem d38_126 : decode prog_3_method_12_code 126 = .ok (.ifCond .eq 26, 3) := by decide +kernel
theorem d38_129 : decode prog_3_method_12_code 129 = .ok (.aload_n 0, 1) := by decide +kernel
theorem d38_130 : decode prog_3_method_12_code 130 = .ok (.aload_n 1, 1) := by decide +kernel
theorem d38_131 : decode prog_3_method_12_code 131 = .ok (.iload 5, 2) := by decide +kernel
theorem d38_133 : decode prog_3_method_12_code 133 = .ok (.invokevirtual 49, 3) := by decide +kernel
theorem d38_136 : decode prog_3_method_12_code 136 = .ok (.ifCond .eq 16, 3) := by decide +kernel
theorem d38_139 : decode prog_3_method_12_code 139 = .ok (.aload_n 0, 1) := by decide +kernel
theorem d38_140 : decode prog_3_method_12_code 140 = .ok (.aload_n 1, 1) := by decide +kernel
theorem d38_141 : decode prog_3_method_12_code 141 = .ok (.iload_n 2, 1) := by decide +kernel
theorem d38_142 : decode prog_3_method_12_code 142 = .ok (.iload 4, 2) := by decide +kernel
theorem d38_144 : decode prog_3_method_12_code 144 = .ok (.iload 5, 2) := by decide +kernel
theorem d38_146 : decode prog_3_method_12_code 146 = .ok (.invokevirtual 129, 3) := by decide +kernel
theorem d38_149 : decode prog_3_method_12_code 149 = .ok (.ifCond .ne 5, 3) := by decide +kernel
theorem d38_152 : decode prog_3_method_12_code 152 = .ok (.iconst 0, 1) := by decide +kernel
theorem d38_153 : decode prog_3_method_12_code 153 = .ok (.ireturn, 1) := by decide +kernel
theorem d38_154 : decode prog_3_method_12_code 154 = .ok (.aload_n 0, 1) := by decide +kernel
theorem d38_155 : decode prog_3_method_12_code 155 = .ok (.aload_n 1, 1) := by decide +kernel
theorem d38_156 : decode prog_3_method_12_code 156 = .ok (.iload 4, 2) := by decide +kernel
theorem d38_158 : decode prog_3_method_12_code 158 = .ok (.iload 5, 2) := by decide +kernel
theorem d38_160 : decode prog_3_method_12_code 160 = .ok (.invokevirtual 132, 3) := by decide +kernel
theorem d38_163 : decode prog_3_method_12_code 163 = .ok (.istore 6, 2) := by decide +kernel
theorem d38_165 : decode prog_3_method_12_code 165 = .ok (.iload 6, 2) := by decide +kernel
theorem d38_167 : decode prog_3_method_12_code 167 = .ok (.sipush 300, 3) := by decide +kernel
theorem d38_170 : decode prog_3_method_12_code 170 = .ok (.if_icmp .ne 17, 3) := by decide +kernel
theorem d38_173 : decode prog_3_method_12_code 173 = .ok (.aload_n 0, 1) := by decide +kernel
theorem d38_174 : decode prog_3_method_12_code 174 = .ok (.aload_n 1, 1) := by decide +kernel
theorem d38_175 : decode prog_3_method_12_code 175 = .ok (.getfield 46, 3) := by decide +kernel
theorem d38_178 : decode prog_3_method_12_code 178 = .ok (.iload_n 2, 1) := by decide +kernel
theorem d38_179 : decode prog_3_method_12_code 179 = .ok (.bipush (-2), 2) := by decide +kernel
theorem d38_181 : decode prog_3_method_12_code 181 = .ok (.invokevirtual 36, 3) := by decide +kernel
theorem d38_184 : decode prog_3_method_12_code 184 = .ok (.goto 10, 3) := by decide +kernel
theorem d38_187 : decode prog_3_method_12_code 187 = .ok (.aload_n 1, 1) := by decide +kernel
theorem d38_188 : decode prog_3_method_12_code 188 = .ok (.iload_n 2, 1) := by decide +kernel
theorem d38_189 : decode prog_3_method_12_code 189 = .ok (.iload 6, 2) := by decide +kernel
theorem d38_191 : decode prog_3_method_12_code 191 = .ok (.invokevirtual 122, 3) := by decide +kernel
theorem d38_194 : decode prog_3_method_12_code 194 = .ok (.ireturn, 1) := by decide +kernel
theorem d39_0 : decode prog_3_method_13_code 0 = .ok (.aload_n 0, 1) := by decide +kernel
theorem d39_1 : decode prog_3_method_13_code 1 = .ok (.getfield 9, 3) := by decide +kernel
theorem d39_4 : decode prog_3_method_13_code 4 = .ok (.getfield 91, 3) := by decide +kernel
theorem d39_7 : decode prog_3_method_13_code 7 = .ok (.iload_n 2, 1) := by decide +kernel
theorem d39_8 : decode prog_3_method_13_code 8 = .ok (.iaload, 1) := by decide +kernel
theorem d39_9 : decode prog_3_method_13_code 9 = .ok (.istore_n 3, 1) := by decide +kernel
theorem d39_10 : decode prog_3_method_13_code 10 = .ok (.aload_n 0, 1) := by decide +kernel
theorem d39_11 : decode prog_3_method_13_code 11 = .ok (.aload_n 1, 1) := by decide +kernel
theorem d39_12 : decode prog_3_method_13_code 12 = .ok (.iload_n 3, 1) := by decide +kernel
theorem d39_13 : decode prog_3_method_13_code 13 = .ok (.invokevirtual 49, 3) := by decide +kernel
theorem d39_16 : decode prog_3_method_13_code 16 = .ok (.ifCond .ne 5, 3) := by decide +kernel
theorem d39_19 : decode prog_3_method_13_code 19 = .ok (.iconst 0, 1) := by decide +kernel
theorem d39_20 : decode prog_3_method_13_code 20 = .ok (.ireturn, 1) := by decide +kernel
theorem d39_21 : decode prog_3_method_13_code 21 = .ok (.aload_n 1, 1) := by decide +kernel
theorem d39_22 : decode prog_3_method_13_code 22 = .ok (.getfield 68, 3) := by decide +kernel
theorem d39_25 : decode prog_3_method_13_code 25 = .ok (.iload_n 3, 1) := by decide +kernel
theorem d39_26 : decode prog_3_method_13_code 26 = .ok (.iaload, 1) := by decide +kernel
theorem d39_27 : decode prog_3_method_13_code 27 = .ok (.ifCond .ne 15, 3) := by decide +kernel
theorem d39_30 : decode prog_3_method_13_code 30 = .ok (.aload_n 0, 1) := by decide +kernel
theorem d39_31 : decode prog_3_method_13_code 31 = .ok (.aload_n 1, 1) := by decide +kernel
theorem d39_32 : decode prog_3_method_13_code 32 = .ok (.getfield 46, 3) := by decide +kernel
theorem d39_35 : decode prog_3_method_13_code 35 = .ok (.iload_n 2, 1) := by decide +kernel
theorem d39_36 : decode prog_3_method_13_code 36 = .ok (.bipush (-2), 2) := by decide +kernel
theorem d39_38 : decode prog_3_method_13_code 38 = .ok (.invokevirtual 36, 3) := by decide +kernel
theorem d39_41 : decode prog_3_method_13_code 41 = .ok (.ireturn, 1) := by decide +kernel
theorem d39_42 : decode prog_3_method_13_code 42 = .ok (.aload_n 1, 1) := by decide +kernel
theorem d39_43 : decode prog_3_method_13_code 43 = .ok (.aload_n 0, 1) := by decide +kernel
theorem d39_44 : decode prog_3_method_13_code 44 = .ok (.getfield 9, 3) := by decide +kernel
theorem d39_47 : decode prog_3_method_13_code 47 = .ok (.getfield 126, 3) := by decide +kernel
theorem d39_50 : decode prog_3_method_13_code 50 = .ok (.iload_n 2, 1) := by decide +kernel
theorem d39_51 : decode prog_3_method_13_code 51 = .ok (.iaload, 1) := by decide +kernel
theorem d39_52 : decode prog_3_method_13_code 52 = .ok (.invokevirtual 166, 3) := by decide +kernel
theorem d39_55 : decode prog_3_method_13_code 55 = .ok (.istore 4, 2) := by decide +kernel
theorem d39_57 : decode prog_3_method_13_code 57 = .ok (.iload 4, 2) := by decide +kernel
theorem d39_59 : decode prog_3_method_13_code 59 = .ok (.sipush 500, 3) := by decide +kernel
theorem d39_62 : decode prog_3_method_13_code 62 = .ok (.if_icmp .ne 15, 3) := by decide +kernel
theorem d39_65 : decode prog_3_method_13_code 65 = .ok (.aload_n 0, 1) := by decide +kernel
theorem d39_66 : decode prog_3_method_13_code 66 = .ok (.aload_n 1, 1) := by decide +kernel
theorem d39_67 : decode prog_3_method_13_code 67 = .ok (.getfield 46, 3) := by decide +kernel
theorem d39_70 : decode prog_3_method_13_code 70 = .ok (.iload_n 2, 1) := by decide +kernel
theorem d39_71 : decode prog_3_method_13_code 71 = .ok (.bipush (-4), 2) := by decide +kernel
theorem d39_73 : decode prog_3_method_13_code 73 = .ok (.invokevirtual 36, 3) := by decide +kernel
theorem d39_76 : decode prog_3_method_13_code 76 = .ok (.ireturn, 1) := by decide +kernel
theorem d39_77 : decode prog_3_method_13_code 77 = .ok (.aload_n 1, 1) := by decide +kernel
theorem d39_78 : decode prog_3_method_13_code 78 = .ok (.getfield 144, 3) := by decide +kernel
theorem d39_81 : decode prog_3_method_13_code 81 = .ok (.iload_n 3, 1) := by decide +kernel
theorem d39_82 : decode prog_3_method_13_code 82 = .ok (.baload, 1) := by decide +kernel
theorem d39_83 : decode prog_3_method_13_code 83 = .ok (.ifCond .ne 11, 3) := by decide +kernel
theorem d39_86 : decode prog_3_method_13_code 86 = .ok (.aload_n 1, 1) := by decide +kernel
theorem d39_87 : decode prog_3_method_13_code 87 = .ok (.iload_n 2, 1) := by decide +kernel
theorem d39_88 : decode prog_3_method_13_code 88 = .ok (.iload 4, 2) := by decide +kernel
theorem d39_90 : decode prog_3_method_13_code 90 = .ok (.invokevirtual 122, 3) := by decide +kernel
theorem d39_93 : decode prog_3_method_13_code 93 = .ok (.ireturn, 1) := by decide +kernel
theorem d39_94 : decode prog_3_method_13_code 94 = .ok (.iload 4, 2) := by decide +kernel
theorem d39_96 : decode prog_3_method_13_code 96 = .ok (.aload_n 1, 1) := by decide +kernel
theorem d39_97 : decode prog_3_method_13_code 97 = .ok (.getfield 77, 3) := by decide +kernel
theorem d39_100 : decode prog_3_method_13_code 100 = .ok (.iload_n 3, 1) := by decide +kernel
theorem d39_101 : decode prog_3_method_13_code 101 = .ok (.laload, 1) := by decide +kernel
theorem d39_102 : decode prog_3_method_13_code 102 = .ok (.invokestatic 81, 3) := by decide +kernel
theorem d39_105 : decode prog_3_method_13_code 105 = .ok (.ifCond .eq 19, 3) := by decide +kernel
theorem d39_108 : decode prog_3_method_13_code 108 = .ok (.aload_n 1, 1) := by decide +kernel
theorem d39_109 : decode prog_3_method_13_code 109 = .ok (.iload_n 2, 1) := by decide +kernel
theorem d39_110 : decode prog_3_method_13_code 110 = .ok (.iload 4, 2) := by decide +kernel
theorem d39_112 : decode prog_3_method_13_code 112 = .ok (.aload_n 1, 1) := by decide +kernel
theorem d39_113 : decode prog_3_method_13_code 113 = .ok (.getfield 77, 3) := by decide +kernel
theorem d39_116 : decode prog_3_method_13_code 116 = .ok (.iload_n 3, 1) := by decide +kernel
theorem d39_117 : decode prog_3_method_13_code 117 = .ok (.laload, 1) := by decide +kernel
theorem d39_118 : decode prog_3_method_13_code 118 = .ok (.invokevirtual 94, 3) := by decide +kernel
theorem d39_121 : decode prog_3_method_13_code 121 = .ok (.goto 14, 3) := by decide +kernel
theorem d39_124 : decode prog_3_method_13_code 124 = .ok (.aload_n 0, 1) := by decide +kernel
theorem d39_125 : decode prog_3_method_13_code 125 = .ok (.aload_n 1, 1) := by decide +kernel
theorem d39_126 : decode prog_3_method_13_code 126 = .ok (.getfield 46, 3) := by decide +kernel
theorem d39_129 : decode prog_3_method_13_code 129 = .ok (.iload_n 2, 1) := by decide +kernel
theorem d39_130 : decode prog_3_method_13_code 130 = .ok (.bipush (-3), 2) := by decide +kernel
theorem d39_132 : decode prog_3_method_13_code 132 = .ok (.invokevirtual 36, 3) := by decide +kernel
theorem d39_135 : decode prog_3_method_13_code 135 = .ok (.ireturn, 1) := by decide +kernel
end
section
/-! decode rows, printed by a program of mine out of the listing -/
theorem d40_0 : decode prog_3_method_14_code 0 = .ok (.aload_n 0, 1) := by decide +kernel
theorem d40_1 : decode prog_3_method_14_code 1 = .ok (.getfield 9, 3) := by decide +kernel
theorem d40_4 : decode prog_3_method_14_code 4 = .ok (.getfield 91, 3) := by decide +kernel
theorem d40_7 : decode prog_3_method_14_code 7 = .ok (.iload_n 2, 1) := by decide +kernel
theorem d40_8 : decode prog_3_method_14_code 8 = .ok (.iaload, 1) := by decide +kernel
theorem d40_9 : decode prog_3_method_14_code 9 = .ok (.istore_n 3, 1) := by decide +kernel
theorem d40_10 : decode prog_3_method_14_code 10 = .ok (.aload_n 0, 1) := by decide +kernel
theorem d40_11 : decode prog_3_method_14_code 11 = .ok (.getfield 9, 3) := by decide +kernel
theorem d40_14 : decode prog_3_method_14_code 14 = .ok (.getfield 126, 3) := by decide +kernel
theorem d40_17 : decode prog_3_method_14_code 17 = .ok (.iload_n 2, 1) := by decide +kernel
theorem d40_18 : decode prog_3_method_14_code 18 = .ok (.iaload, 1) := by decide +kernel
theorem d40_19 : decode prog_3_method_14_code 19 = .ok (.istore 4, 2) := by decide +kernel
theorem d40_21 : decode prog_3_method_14_code 21 = .ok (.aload_n 0, 1) := by decide +kernel
theorem d40_22 : decode prog_3_method_14_code 22 = .ok (.getfield 9, 3) := by decide +kernel
theorem d40_25 : decode prog_3_method_14_code 25 = .ok (.getfield 160, 3) := by decide +kernel
theorem d40_28 : decode prog_3_method_14_code 28 = .ok (.iload_n 2, 1) := by decide +kernel
theorem d40_29 : decode prog_3_method_14_code 29 = .ok (.iaload, 1) := by decide +kernel
theorem d40_30 : decode prog_3_method_14_code 30 = .ok (.istore 5, 2) := by decide +kernel
theorem d40_32 : decode prog_3_method_14_code 32 = .ok (.aload_n 0, 1) := by decide +kernel
theorem d40_33 : decode prog_3_method_14_code 33 = .ok (.getfield 9, 3) := by decide +kernel
theorem d40_36 : decode prog_3_method_14_code 36 = .ok (.iload_n 3, 1) := by decide +kernel
theorem d40_37 : decode prog_3_method_14_code 37 = .ok (.invokevirtual 170, 3) := by decide +kernel
theorem d40_40 : decode prog_3_method_14_code 40 = .ok (.ifCond .eq 39, 3) := by decide +kernel
theorem d40_43 : decode prog_3_method_14_code 43 = .ok (.aload_n 0, 1) := by decide +kernel
theorem d40_44 : decode prog_3_method_14_code 44 = .ok (.iload 4, 2) := by decide +kernel
theorem d40_46 : decode prog_3_method_14_code 46 = .ok (.aload_n 0, 1) := by decide +kernel
theorem d40_47 : decode prog_3_method_14_code 47 = .ok (.getfield 9, 3) := by decide +kernel
theorem d40_50 : decode prog_3_method_14_code 50 = .ok (.getfield 173, 3) := by decide +kernel
theorem d40_53 : decode prog_3_method_14_code 53 = .ok (.iload_n 3, 1) := by decide +kernel
theorem d40_54 : decode prog_3_method_14_code 54 = .ok (.iaload, 1) := by decide +kernel
theorem d40_55 : decode prog_3_method_14_code 55 = .ok (.invokevirtual 176, 3) := by decide +kernel
theorem d40_58 : decode prog_3_method_14_code 58 = .ok (.ifCond .eq 21, 3) := by decide +kernel
theorem d40_61 : decode prog_3_method_14_code 61 = .ok (.aload_n 0, 1) := by decide +kernel
theorem d40_62 : decode prog_3_method_14_code 62 = .ok (.iload 5, 2) := by decide +kernel
theorem d40_64 : decode prog_3_method_14_code 64 = .ok (.aload_n 0, 1) := by decide +kernel
theorem d40_65 : decode prog_3_method_14_code 65 = .ok (.getfield 9, 3) := by decide +kernel
theorem d40_68 : decode prog_3_method_14_code 68 = .ok (.getfield 179, 3) := by decide +kernel
theorem d40_71 : decode prog_3_method_14_code 71 = .ok (.iload_n 3, 1) := by decide +kernel
theorem d40_72 : decode prog_3_method_14_code 72 = .ok (.iaload, 1) := by decide +kernel
theorem d40_73 : decode prog_3_method_14_code 73 = .ok (.invokevirtual 176, 3) := by decide +kernel
theorem d40_76 : decode prog_3_method_14_code 76 = .ok (.ifCond .ne 15, 3) := by decide +kernel
theorem d40_79 : decode prog_3_method_14_code 79 = .ok (.aload_n 0, 1) := by decide +kernel
theorem d40_80 : decode prog_3_method_14_code 80 = .ok (.aload_n 1, 1) := by decide +kernel
theorem d40_81 : decode prog_3_method_14_code 81 = .ok (.getfield 46, 3) := by decide +kernel
theorem d40_84 : decode prog_3_method_14_code 84 = .ok (.iload_n 2, 1) := by decide +kernel
theorem d40_85 : decode prog_3_method_14_code 85 = .ok (.bipush (-6), 2) := by decide +kernel
theorem d40_87 : decode prog_3_method_14_code 87 = .ok (.invokevirtual 36, 3) := by decide +kernel
theorem d40_90 : decode prog_3_method_14_code 90 = .ok (.ireturn, 1) := by decide +kernel
theorem d40_91 : decode prog_3_method_14_code 91 = .ok (.iload 4, 2) := by decide +kernel
theorem d40_93 : decode prog_3_method_14_code 93 = .ok (.iconst (-1), 1) := by decide +kernel
theorem d40_94 : decode prog_3_method_14_code 94 = .ok (.if_icmp .eq 13, 3) := by decide +kernel
theorem d40_97 : decode prog_3_method_14_code 97 = .ok (.aload_n 0, 1) := by decide +kernel
theorem d40_98 : decode prog_3_method_14_code 98 = .ok (.aload_n 1, 1) := by decide +kernel
theorem d40_99 : decode prog_3_method_14_code 99 = .ok (.iload 4, 2) := by decide +kernel
theorem d40_101 : decode prog_3_method_14_code 101 = .ok (.invokevirtual 49, 3) := by decide +kernel
theorem d40_104 : decode prog_3_method_14_code 104 = .ok (.ifCond .eq 19, 3) := by decide +kernel
theorem d40_107 : decode prog_3_method_14_code 107 = .ok (.iload 5, 2) := by decide +kernel
theorem d40_109 : decode prog_3_method_14_code 109 = .ok (.iconst (-1), 1) := by decide +kernel
theorem d40_110 : decode prog_3_method_14_code 110 = .ok (.if_icmp .eq 15, 3) := by decide +kernel
theorem d40_113 : decode prog_3_method_14_code 113 = .ok (.aload_n 0, 1) := by decide +kernel
theorem d40_114 : decode prog_3_method_14_code 114 = .ok (.aload_n 1, 1) := by decide +kernel
theorem d40_115 : decode prog_3_method_14_code 115 = .ok (.iload 5, 2) := by decide +kernel
theorem d40_117 : decode prog_3_method_14_code 117 = .ok (.invokevirtual 49, 3) := by decide +kernel
theorem d40_120 : decode prog_3_method_14_code 120 = .ok (.ifCond .ne 5, 3) := by decide +kernel
theorem d40_123 : decode prog_3_method_14_code 123 = .ok (.iconst 0, 1) := by decide +kernel
theorem d40_124 : decode prog_3_method_14_code 124 = .ok (.ireturn, 1) := by decide +kernel
theorem d40_125 : decode prog_3_method_14_code 125 = .ok (.aload_n 0, 1) := by decide +kernel
theorem d40_126 : decode prog_3_method_14_code 126 = .ok (.aload_n 1, 1) := by decide +kernel
theorem d40_127 : decode prog_3_method_14_code 127 = .ok (.iload 4, 2) := by decide +kernel
theorem d40_129 : decode prog_3_method_14_code 129 = .ok (.aload_n 0, 1) := by decide +kernel
theorem d40_130 : decode prog_3_method_14_code 130 = .ok (.getfield 9, 3) := by decide +kernel
theorem d40_133 : decode prog_3_method_14_code 133 = .ok (.getfield 173, 3) := by decide +kernel
theorem d40_136 : decode prog_3_method_14_code 136 = .ok (.iload_n 3, 1) := by decide +kernel
theorem d40_137 : decode prog_3_method_14_code 137 = .ok (.iaload, 1) := by decide +kernel
theorem d40_138 : decode prog_3_method_14_code 138 = .ok (.invokevirtual 182, 3) := by decide +kernel
theorem d40_141 : decode prog_3_method_14_code 141 = .ok (.ifCond .eq 22, 3) := by decide +kernel
theorem d40_144 : decode prog_3_method_14_code 144 = .ok (.aload_n 0, 1) := by decide +kernel
theorem d40_145 : decode prog_3_method_14_code 145 = .ok (.aload_n 1, 1) := by decide +kernel
theorem d40_146 : decode prog_3_method_14_code 146 = .ok (.iload 5, 2) := by decide +kernel
theorem d40_148 : decode prog_3_method_14_code 148 = .ok (.aload_n 0, 1) := by decide +kernel
theorem d40_149 : decode prog_3_method_14_code 149 = .ok (.getfield 9, 3) := by decide +kernel
theorem d40_152 : decode prog_3_method_14_code 152 = .ok (.getfield 179, 3) := by decide +kernel
theorem d40_155 : decode prog_3_method_14_code 155 = .ok (.iload_n 3, 1) := by decide +kernel
theorem d40_156 : decode prog_3_method_14_code 156 = .ok (.iaload, 1) := by decide +kernel
theorem d40_157 : decode prog_3_method_14_code 157 = .ok (.invokevirtual 182, 3) := by decide +kernel
theorem d40_160 : decode prog_3_method_14_code 160 = .ok (.ifCond .ne 15, 3) := by decide +kernel
theorem d40_163 : decode prog_3_method_14_code 163 = .ok (.aload_n 0, 1) := by decide +kernel
theorem d40_164 : decode prog_3_method_14_code 164 = .ok (.aload_n 1, 1) := by decide +kernel
theorem d40_165 : decode prog_3_method_14_code 165 = .ok (.getfield 46, 3) := by decide +kernel
theorem d40_168 : decode prog_3_method_14_code 168 = .ok (.iload_n 2, 1) := by decide +kernel
theorem d40_169 : decode prog_3_method_14_code 169 = .ok (.bipush (-2), 2) := by decide +kernel
theorem d40_171 : decode prog_3_method_14_code 171 = .ok (.invokevirtual 36, 3) := by decide +kernel
theorem d40_174 : decode prog_3_method_14_code 174 = .ok (.ireturn, 1) := by decide +kernel
theorem d40_175 : decode prog_3_method_14_code 175 = .ok (.aload_n 0, 1) := by decide +kernel
theorem d40_176 : decode prog_3_method_14_code 176 = .ok (.iload_n 3, 1) := by decide +kernel
theorem d40_177 : decode prog_3_method_14_code 177 = .ok (.aload_n 0, 1) := by decide +kernel
theorem d40_178 : decode prog_3_method_14_code 178 = .ok (.aload_n 1, 1) := by decide +kernel
theorem d40_179 : decode prog_3_method_14_code 179 = .ok (.iload 4, 2) := by decide +kernel
theorem d40_181 : decode prog_3_method_14_code 181 = .ok (.invokevirtual 186, 3) := by decide +kernel
theorem d40_184 : decode prog_3_method_14_code 184 = .ok (.aload_n 0, 1) := by decide +kernel
theorem d40_185 : decode prog_3_method_14_code 185 = .ok (.aload_n 1, 1) := by decide +kernel
theorem d40_186 : decode prog_3_method_14_code 186 = .ok (.iload 5, 2) := by decide +kernel
theorem d40_188 : decode prog_3_method_14_code 188 = .ok (.invokevirtual 186, 3) := by decide +kernel
theorem d40_191 : decode prog_3_method_14_code 191 = .ok (.invokevirtual 32, 3) := by decide +kernel
theorem d40_194 : decode prog_3_method_14_code 194 = .ok (.istore 6, 2) := by decide +kernel
theorem d40_196 : decode prog_3_method_14_code 196 = .ok (.iload 6, 2) := by decide +kernel
theorem d40_198 : decode prog_3_method_14_code 198 = .ok (.ifCond .ge 15, 3) := by decide +kernel
theorem d40_201 : decode prog_3_method_14_code 201 = .ok (.aload_n 0, 1) := by decide +kernel
theorem d40_202 : decode prog_3_method_14_code 202 = .ok (.aload_n 1, 1) := by decide +kernel
theorem d40_203 : decode prog_3_method_14_code 203 = .ok (.getfield 46, 3) := by decide +kernel
theorem d40_206 : decode prog_3_method_14_code 206 = .ok (.iload_n 2, 1) := by decide +kernel
theorem d40_207 : decode prog_3_method_14_code 207 = .ok (.iload 6, 2) := by decide +kernel
theorem d40_209 : decode prog_3_method_14_code 209 = .ok (.invokevirtual 36, 3) := by decide +kernel
theorem d40_212 : decode prog_3_method_14_code 212 = .ok (.ireturn, 1) := by decide +kernel
theorem d40_213 : decode prog_3_method_14_code 213 = .ok (.aload_n 0, 1) := by decide +kernel
theorem d40_214 : decode prog_3_method_14_code 214 = .ok (.getfield 17, 3) := by decide +kernel
theorem d40_217 : decode prog_3_method_14_code 217 = .ok (.iload 6, 2) := by decide +kernel
theorem d40_219 : decode prog_3_method_14_code 219 = .ok (.aaload, 1) := by decide +kernel
theorem d40_220 : decode prog_3_method_14_code 220 = .ok (.astore 7, 2) := by decide +kernel
theorem d40_222 : decode prog_3_method_14_code 222 = .ok (.aload_n 0, 1) := by decide +kernel
theorem d40_223 : decode prog_3_method_14_code 223 = .ok (.aload_n 1, 1) := by decide +kernel
theorem d40_224 : decode prog_3_method_14_code 224 = .ok (.iload_n 2, 1) := by decide +kernel
theorem d40_225 : decode prog_3_method_14_code 225 = .ok (.iload 4, 2) := by decide +kernel
theorem d40_227 : decode prog_3_method_14_code 227 = .ok (.aload 7, 2) := by decide +kernel
theorem d40_229 : decode prog_3_method_14_code 229 = .ok (.getfield 116, 3) := by decide +kernel
theorem d40_232 : decode prog_3_method_14_code 232 = .ok (.iconst 0, 1) := by decide +kernel
theorem d40_233 : decode prog_3_method_14_code 233 = .ok (.iaload, 1) := by decide +kernel
theorem d40_234 : decode prog_3_method_14_code 234 = .ok (.invokevirtual 190, 3) := by decide +kernel
theorem d40_237 : decode prog_3_method_14_code 237 = .ok (.ifCond .eq 21, 3) := by decide +kernel
theorem d40_240 : decode prog_3_method_14_code 240 = .ok (.aload_n 0, 1) := by decide +kernel
theorem d40_241 : decode prog_3_method_14_code 241 = .ok (.aload_n 1, 1) := by decide +kernel
theorem d40_242 : decode prog_3_method_14_code 242 = .ok (.iload_n 2, 1) := by decide +kernel
theorem d40_243 : decode prog_3_method_14_code 243 = .ok (.iload 5, 2) := by decide +kernel
theorem d40_245 : decode prog_3_method_14_code 245 = .ok (.aload 7, 2) := by decide +kernel
theorem d40_247 : decode prog_3_method_14_code 247 = .ok (.getfield 116, 3) := by decide +kernel
theorem d40_250 : decode prog_3_method_14_code 250 = .ok (.iconst 1, 1) := by decide +kernel
theorem d40_251 : decode prog_3_method_14_code 251 = .ok (.iaload, 1) := by decide +kernel
theorem d40_252 : decode prog_3_method_14_code 252 = .ok (.invokevirtual 190, 3) := by decide +kernel
theorem d40_255 : decode prog_3_method_14_code 255 = .ok (.ifCond .ne 5, 3) := by decide +kernel
theorem d40_258 : decode prog_3_method_14_code 258 = .ok (.iconst 0, 1) := by decide +kernel
theorem d40_259 : decode prog_3_method_14_code 259 = .ok (.ireturn, 1) := by decide +kernel
theorem d40_260 : decode prog_3_method_14_code 260 = .ok (.aload_n 1, 1) := by decide +kernel
theorem d40_261 : decode prog_3_method_14_code 261 = .ok (.getfield 193, 3) := by decide +kernel
theorem d40_264 : decode prog_3_method_14_code 264 = .ok (.iload_n 2, 1) := by decide +kernel
theorem d40_265 : decode prog_3_method_14_code 265 = .ok (.iload 6, 2) := by decide +kernel
theorem d40_267 : decode prog_3_method_14_code 267 = .ok (.iastore, 1) := by decide +kernel
theorem d40_268 : decode prog_3_method_14_code 268 = .ok (.aload_n 1, 1) := by decide +kernel
theorem d40_269 : decode prog_3_method_14_code 269 = .ok (.iload_n 2, 1) := by decide +kernel
theorem d40_270 : decode prog_3_method_14_code 270 = .ok (.aload 7, 2) := by decide +kernel
theorem d40_272 : decode prog_3_method_14_code 272 = .ok (.getfield 53, 3) := by decide +kernel
theorem d40_275 : decode prog_3_method_14_code 275 = .ok (.invokevirtual 122, 3) := by decide +kernel
theorem d40_278 : decode prog_3_method_14_code 278 = .ok (.ireturn, 1) := by decide +kernel
theorem d41_0 : decode prog_3_method_15_code 0 = .ok (.iload_n 1, 1) := by decide +kernel
theorem d41_1 : decode prog_3_method_15_code 1 = .ok (.iconst (-1), 1) := by decide +kernel
theorem d41_2 : decode prog_3_method_15_code 2 = .ok (.if_icmp .eq 7, 3) := by decide +kernel
theorem d41_5 : decode prog_3_method_15_code 5 = .ok (.iconst 1, 1) := by decide +kernel
theorem d41_6 : decode prog_3_method_15_code 6 = .ok (.goto 4, 3) := by decide +kernel
theorem d41_9 : decode prog_3_method_15_code 9 = .ok (.iconst 0, 1) := by decide +kernel
theorem d41_10 : decode prog_3_method_15_code 10 = .ok (.iload_n 2, 1) := by decide +kernel
theorem d41_11 : decode prog_3_method_15_code 11 = .ok (.sipush 400, 3) := by decide +kernel
theorem d41_14 : decode prog_3_method_15_code 14 = .ok (.if_icmp .eq 7, 3) := by decide +kernel
theorem d41_17 : decode prog_3_method_15_code 17 = .ok (.iconst 1, 1) := by decide +kernel
theorem d41_18 : decode prog_3_method_15_code 18 = .ok (.goto 4, 3) := by decide +kernel
theorem d41_21 : decode prog_3_method_15_code 21 = .ok (.iconst 0, 1) := by decide +kernel
theorem d41_22 : decode prog_3_method_15_code 22 = .ok (.if_icmp .ne 7, 3) := by decide +kernel
theorem d41_25 : decode prog_3_method_15_code 25 = .ok (.iconst 1, 1) := by decide +kernel
theorem d41_26 : decode prog_3_method_15_code 26 = .ok (.goto 4, 3) := by decide +kernel
theorem d41_29 : decode prog_3_method_15_code 29 = .ok (.iconst 0, 1) := by decide +kernel
theorem d41_30 : decode prog_3_method_15_code 30 = .ok (.ireturn, 1) := by decide +kernel
theorem d42_0 : decode prog_3_method_16_code 0 = .ok (.iload_n 3, 1) := by decide +kernel
theorem d42_1 : decode prog_3_method_16_code 1 = .ok (.sipush 300, 3) := by decide +kernel
theorem d42_4 : decode prog_3_method_16_code 4 = .ok (.if_icmp .ne 20, 3) := by decide +kernel
theorem d42_7 : decode prog_3_method_16_code 7 = .ok (.iload_n 2, 1) := by decide +kernel
theorem d42_8 : decode prog_3_method_16_code 8 = .ok (.iconst (-1), 1) := by decide +kernel
theorem d42_9 : decode prog_3_method_16_code 9 = .ok (.if_icmp .eq 19, 3) := by decide +kernel
theorem d42_12 : decode prog_3_method_16_code 12 = .ok (.aload_n 1, 1) := by decide +kernel
theorem d42_13 : decode prog_3_method_16_code 13 = .ok (.getfield 68, 3) := by decide +kernel
theorem d42_16 : decode prog_3_method_16_code 16 = .ok (.iload_n 2, 1) := by decide +kernel
theorem d42_17 : decode prog_3_method_16_code 17 = .ok (.iaload, 1) := by decide +kernel
theorem d42_18 : decode prog_3_method_16_code 18 = .ok (.sipush 300, 3) := by decide +kernel
theorem d42_21 : decode prog_3_method_16_code 21 = .ok (.if_icmp .ne 7, 3) := by decide +kernel
theorem d42_24 : decode prog_3_method_16_code 24 = .ok (.iconst 1, 1) := by decide +kernel
theorem d42_25 : decode prog_3_method_16_code 25 = .ok (.goto 4, 3) := by decide +kernel
theorem d42_28 : decode prog_3_method_16_code 28 = .ok (.iconst 0, 1) := by decide +kernel
theorem d42_29 : decode prog_3_method_16_code 29 = .ok (.ireturn, 1) := by decide +kernel
theorem d43_0 : decode prog_3_method_17_code 0 = .ok (.iload_n 2, 1) := by decide +kernel
theorem d43_1 : decode prog_3_method_17_code 1 = .ok (.iconst (-1), 1) := by decide +kernel
theorem d43_2 : decode prog_3_method_17_code 2 = .ok (.if_icmp .eq 21, 3) := by decide +kernel
theorem d43_5 : decode prog_3_method_17_code 5 = .ok (.aload_n 1, 1) := by decide +kernel
theorem d43_6 : decode prog_3_method_17_code 6 = .ok (.getfield 144, 3) := by decide +kernel
theorem d43_9 : decode prog_3_method_17_code 9 = .ok (.iload_n 2, 1) := by decide +kernel
theorem d43_10 : decode prog_3_method_17_code 10 = .ok (.baload, 1) := by decide +kernel
theorem d43_11 : decode prog_3_method_17_code 11 = .ok (.ifCond .eq 12, 3) := by decide +kernel
theorem d43_14 : decode prog_3_method_17_code 14 = .ok (.aload_n 1, 1) := by decide +kernel
theorem d43_15 : decode prog_3_method_17_code 15 = .ok (.getfield 77, 3) := by decide +kernel
theorem d43_18 : decode prog_3_method_17_code 18 = .ok (.iload_n 2, 1) := by decide +kernel
theorem d43_19 : decode prog_3_method_17_code 19 = .ok (.laload, 1) := by decide +kernel
theorem d43_20 : decode prog_3_method_17_code 20 = .ok (.goto 4, 3) := by decide +kernel
theorem d43_23 : decode prog_3_method_17_code 23 = .ok (.lconst 0, 1) := by decide +kernel
theorem d43_24 : decode prog_3_method_17_code 24 = .ok (.lreturn, 1) := by decide +kernel
theorem d44_0 : decode prog_3_method_18_code 0 = .ok (.iload_n 3, 1) := by decide +kernel
theorem d44_1 : decode prog_3_method_18_code 1 = .ok (.iconst (-1), 1) := by decide +kernel
theorem d44_2 : decode prog_3_method_18_code 2 = .ok (.if_icmp .eq 15, 3) := by decide +kernel
theorem d44_5 : decode prog_3_method_18_code 5 = .ok (.aload_n 0, 1) := by decide +kernel
theorem d44_6 : decode prog_3_method_18_code 6 = .ok (.aload_n 1, 1) := by decide +kernel
theorem d44_7 : decode prog_3_method_18_code 7 = .ok (.iload_n 2, 1) := by decide +kernel
theorem d44_8 : decode prog_3_method_18_code 8 = .ok (.iload_n 3, 1) := by decide +kernel
theorem d44_9 : decode prog_3_method_18_code 9 = .ok (.iload 4, 2) := by decide +kernel
theorem d44_11 : decode prog_3_method_18_code 11 = .ok (.invokevirtual 56, 3) := by decide +kernel
theorem d44_14 : decode prog_3_method_18_code 14 = .ok (.ifCond .eq 7, 3) := by decide +kernel
theorem d44_17 : decode prog_3_method_18_code 17 = .ok (.iconst 1, 1) := by decide +kernel
theorem d44_18 : decode prog_3_method_18_code 18 = .ok (.goto 4, 3) := by decide +kernel
theorem d44_21 : decode prog_3_method_18_code 21 = .ok (.iconst 0, 1) := by decide +kernel
theorem d44_22 : decode prog_3_method_18_code 22 = .ok (.ireturn, 1) := by decide +kernel
theorem d45_0 : decode prog_3_method_19_code 0 = .ok (.aload_n 0, 1) := by decide +kernel
theorem d45_1 : decode prog_3_method_19_code 1 = .ok (.getfield 9, 3) := by decide +kernel
theorem d45_4 : decode prog_3_method_19_code 4 = .ok (.getfield 91, 3) := by decide +kernel
theorem d45_7 : decode prog_3_method_19_code 7 = .ok (.iload_n 2, 1) := by decide +kernel
theorem d45_8 : decode prog_3_method_19_code 8 = .ok (.iaload, 1) := by decide +kernel
theorem d45_9 : decode prog_3_method_19_code 9 = .ok (.istore_n 3, 1) := by decide +kernel
theorem d45_10 : decode prog_3_method_19_code 10 = .ok (.aload_n 0, 1) := by decide +kernel
theorem d45_11 : decode prog_3_method_19_code 11 = .ok (.aload_n 1, 1) := by decide +kernel
theorem d45_12 : decode prog_3_method_19_code 12 = .ok (.iload_n 3, 1) := by decide +kernel
theorem d45_13 : decode prog_3_method_19_code 13 = .ok (.invokevirtual 49, 3) := by decide +kernel
theorem d45_16 : decode prog_3_method_19_code 16 = .ok (.ifCond .ne 5, 3) := by decide +kernel
theorem d45_19 : decode prog_3_method_19_code 19 = .ok (.iconst 0, 1) := by decide +kernel
theorem d45_20 : decode prog_3_method_19_code 20 = .ok (.ireturn, 1) := by decide +kernel
theorem d45_21 : decode prog_3_method_19_code 21 = .ok (.aload_n 1, 1) := by decide +kernel
theorem d45_22 : decode prog_3_method_19_code 22 = .ok (.getfield 68, 3) := by decide +kernel
theorem d45_25 : decode prog_3_method_19_code 25 = .ok (.iload_n 3, 1) := by decide +kernel
theorem d45_26 : decode prog_3_method_19_code 26 = .ok (.iaload, 1) := by decide +kernel
theorem d45_27 : decode prog_3_method_19_code 27 = .ok (.istore 4, 2) := by decide +kernel
theorem d45_29 : decode prog_3_method_19_code 29 = .ok (.iload 4, 2) := by decide +kernel
theorem d45_31 : decode prog_3_method_19_code 31 = .ok (.invokestatic 73, 3) := by decide +kernel
theorem d45_34 : decode prog_3_method_19_code 34 = .ok (.ifCond .eq 20, 3) := by decide +kernel
theorem d45_37 : decode prog_3_method_19_code 37 = .ok (.aload_n 1, 1) := by decide +kernel
theorem d45_38 : decode prog_3_method_19_code 38 = .ok (.iload_n 2, 1) := by decide +kernel
theorem d45_39 : decode prog_3_method_19_code 39 = .ok (.sipush 300, 3) := by decide +kernel
theorem d45_42 : decode prog_3_method_19_code 42 = .ok (.iload 4, 2) := by decide +kernel
theorem d45_44 : decode prog_3_method_19_code 44 = .ok (.invokestatic 196, 3) := by decide +kernel
theorem d45_47 : decode prog_3_method_19_code 47 = .ok (.i2l, 1) := by decide +kernel
theorem d45_48 : decode prog_3_method_19_code 48 = .ok (.invokevirtual 94, 3) := by decide +kernel
theorem d45_51 : decode prog_3_method_19_code 51 = .ok (.goto 14, 3) := by decide +kernel
theorem d45_54 : decode prog_3_method_19_code 54 = .ok (.aload_n 0, 1) := by decide +kernel
theorem d45_55 : decode prog_3_method_19_code 55 = .ok (.aload_n 1, 1) := by decide +kernel
theorem d45_56 : decode prog_3_method_19_code 56 = .ok (.getfield 46, 3) := by decide +kernel
theorem d45_59 : decode prog_3_method_19_code 59 = .ok (.iload_n 2, 1) := by decide +kernel
theorem d45_60 : decode prog_3_method_19_code 60 = .ok (.bipush (-2), 2) := by decide +kernel
theorem d45_62 : decode prog_3_method_19_code 62 = .ok (.invokevirtual 36, 3) := by decide +kernel
theorem d45_65 : decode prog_3_method_19_code 65 = .ok (.ireturn, 1) := by decide +kernel
theorem d46_0 : decode prog_4_method_2_code 0 = .ok (.aload_n 0, 1) := by decide +kernel
theorem d46_1 : decode prog_4_method_2_code 1 = .ok (.iload_n 2, 1) := by decide +kernel
theorem d46_2 : decode prog_4_method_2_code 2 = .ok (.putfield 32, 3) := by decide +kernel
theorem d46_5 : decode prog_4_method_2_code 5 = .ok (.aload_n 0, 1) := by decide +kernel
theorem d46_6 : decode prog_4_method_2_code 6 = .ok (.getfield 15, 3) := by decide +kernel
theorem d46_9 : decode prog_4_method_2_code 9 = .ok (.iconst 0, 1) := by decide +kernel
theorem d46_10 : decode prog_4_method_2_code 10 = .ok (.lload_n 3, 1) := by decide +kernel
theorem d46_11 : decode prog_4_method_2_code 11 = .ok (.lastore, 1) := by decide +kernel
theorem d46_12 : decode prog_4_method_2_code 12 = .ok (.aload_n 0, 1) := by decide +kernel
theorem d46_13 : decode prog_4_method_2_code 13 = .ok (.getfield 15, 3) := by decide +kernel
theorem d46_16 : decode prog_4_method_2_code 16 = .ok (.iconst 1, 1) := by decide +kernel
theorem d46_17 : decode prog_4_method_2_code 17 = .ok (.lload 5, 2) := by decide +kernel
theorem d46_19 : decode prog_4_method_2_code 19 = .ok (.lastore, 1) := by decide +kernel
theorem d46_20 : decode prog_4_method_2_code 20 = .ok (.iconst 0, 1) := by decide +kernel
theorem d46_21 : decode prog_4_method_2_code 21 = .ok (.istore 7, 2) := by decide +kernel
theorem d46_23 : decode prog_4_method_2_code 23 = .ok (.iload 7, 2) := by decide +kernel
theorem d46_25 : decode prog_4_method_2_code 25 = .ok (.bipush 60, 2) := by decide +kernel
theorem d46_27 : decode prog_4_method_2_code 27 = .ok (.if_icmp .ge 27, 3) := by decide +kernel
theorem d46_30 : decode prog_4_method_2_code 30 = .ok (.aload_n 0, 1) := by decide +kernel
theorem d46_31 : decode prog_4_method_2_code 31 = .ok (.getfield 19, 3) := by decide +kernel
theorem d46_34 : decode prog_4_method_2_code 34 = .ok (.iload 7, 2) := by decide +kernel
theorem d46_36 : decode prog_4_method_2_code 36 = .ok (.sipush 400, 3) := by decide +kernel
theorem d46_39 : decode prog_4_method_2_code 39 = .ok (.iastore, 1) := by decide +kernel
theorem d46_40 : decode prog_4_method_2_code 40 = .ok (.aload_n 0, 1) := by decide +kernel
theorem d46_41 : decode prog_4_method_2_code 41 = .ok (.getfield 22, 3) := by decide +kernel
theorem d46_44 : decode prog_4_method_2_code 44 = .ok (.iload 7, 2) := by decide +kernel
theorem d46_46 : decode prog_4_method_2_code 46 = .ok (.iconst 0, 1) := by decide +kernel
theorem d46_47 : decode prog_4_method_2_code 47 = .ok (.bastore, 1) := by decide +kernel
theorem d46_48 : decode prog_4_method_2_code 48 = .ok (.iinc 7 1, 3) := by decide +kernel
theorem d46_51 : decode prog_4_method_2_code 51 = .ok (.goto (-28), 3) := by decide +kernel
theorem d46_54 : decode prog_4_method_2_code 54 = .ok (.aload_n 0, 1) := by decide +kernel
theorem d46_55 : decode prog_4_method_2_code 55 = .ok (.getfield 9, 3) := by decide +kernel
theorem d46_58 : decode prog_4_method_2_code 58 = .ok (.iconst 0, 1) := by decide +kernel
theorem d46_59 : decode prog_4_method_2_code 59 = .ok (.aload_n 1, 1) := by decide +kernel
theorem d46_60 : decode prog_4_method_2_code 60 = .ok (.getfield 41, 3) := by decide +kernel
theorem d46_63 : decode prog_4_method_2_code 63 = .ok (.iload_n 2, 1) := by decide +kernel
theorem d46_64 : decode prog_4_method_2_code 64 = .ok (.iaload, 1) := by decide +kernel
theorem d46_65 : decode prog_4_method_2_code 65 = .ok (.iastore, 1) := by decide +kernel
theorem d46_66 : decode prog_4_method_2_code 66 = .ok (.aload_n 0, 1) := by decide +kernel
theorem d46_67 : decode prog_4_method_2_code 67 = .ok (.getfield 9, 3) := by decide +kernel
theorem d46_70 : decode prog_4_method_2_code 70 = .ok (.iconst 1, 1) := by decide +kernel
theorem d46_71 : decode prog_4_method_2_code 71 = .ok (.aload_n 1, 1) := by decide +kernel
theorem d46_72 : decode prog_4_method_2_code 72 = .ok (.getfield 46, 3) := by decide +kernel
theorem d46_75 : decode prog_4_method_2_code 75 = .ok (.iload_n 2, 1) := by decide +kernel
theorem d46_76 : decode prog_4_method_2_code 76 = .ok (.iaload, 1) := by decide +kernel
theorem d46_77 : decode prog_4_method_2_code 77 = .ok (.iastore, 1) := by decide +kernel
theorem d46_78 : decode prog_4_method_2_code 78 = .ok (.aload_n 0, 1) := by decide +kernel
theorem d46_79 : decode prog_4_method_2_code 79 = .ok (.getfield 9, 3) := by decide +kernel
theorem d46_82 : decode prog_4_method_2_code 82 = .ok (.iconst 0, 1) := by decide +kernel
theorem d46_83 : decode prog_4_method_2_code 83 = .ok (.aload_n 0, 1) := by decide +kernel
theorem d46_84 : decode prog_4_method_2_code 84 = .ok (.aload_n 0, 1) := by decide +kernel
theorem d46_85 : decode prog_4_method_2_code 85 = .ok (.getfield 9, 3) := by decide +kernel
theorem d46_88 : decode prog_4_method_2_code 88 = .ok (.iconst 0, 1) := by decide +kernel
theorem d46_89 : decode prog_4_method_2_code 89 = .ok (.iaload, 1) := by decide +kernel
theorem d46_90 : decode prog_4_method_2_code 90 = .ok (.invokevirtual 49, 3) := by decide +kernel
theorem d46_93 : decode prog_4_method_2_code 93 = .ok (.iastore, 1) := by decide +kernel
theorem d46_94 : decode prog_4_method_2_code 94 = .ok (.aload_n 0, 1) := by decide +kernel
theorem d46_95 : decode prog_4_method_2_code 95 = .ok (.getfield 9, 3) := by decide +kernel
theorem d46_98 : decode prog_4_method_2_code 98 = .ok (.iconst 1, 1) := by decide +kernel
theorem d46_99 : decode prog_4_method_2_code 99 = .ok (.aload_n 0, 1) := by decide +kernel
theorem d46_100 : decode prog_4_method_2_code 100 = .ok (.aload_n 0, 1) := by decide +kernel
theorem d46_101 : decode prog_4_method_2_code 101 = .ok (.getfield 9, 3) := by decide +kernel
theorem d46_104 : decode prog_4_method_2_code 104 = .ok (.iconst 1, 1) := by decide +kernel
theorem d46_105 : decode prog_4_method_2_code 105 = .ok (.iaload, 1) := by decide +kernel
theorem d46_106 : decode prog_4_method_2_code 106 = .ok (.invokevirtual 49, 3) := by decide +kernel
theorem d46_109 : decode prog_4_method_2_code 109 = .ok (.iastore, 1) := by decide +kernel
theorem d46_110 : decode prog_4_method_2_code 110 = .ok (.aload_n 0, 1) := by decide +kernel
theorem d46_111 : decode prog_4_method_2_code 111 = .ok (.aload_n 0, 1) := by decide +kernel
theorem d46_112 : decode prog_4_method_2_code 112 = .ok (.aload_n 1, 1) := by decide +kernel
theorem d46_113 : decode prog_4_method_2_code 113 = .ok (.getfield 53, 3) := by decide +kernel
theorem d46_116 : decode prog_4_method_2_code 116 = .ok (.iload_n 2, 1) := by decide +kernel
theorem d46_117 : decode prog_4_method_2_code 117 = .ok (.iaload, 1) := by decide +kernel
theorem d46_118 : decode prog_4_method_2_code 118 = .ok (.invokevirtual 49, 3) := by decide +kernel
theorem d46_121 : decode prog_4_method_2_code 121 = .ok (.putfield 38, 3) := by decide +kernel
theorem d46_124 : decode prog_4_method_2_code 124 = .ok (.aload_n 0, 1) := by decide +kernel
theorem d46_125 : decode prog_4_method_2_code 125 = .ok (.getfield 9, 3) := by decide +kernel
theorem d46_128 : decode prog_4_method_2_code 128 = .ok (.iconst 0, 1) := by decide +kernel
theorem d46_129 : decode prog_4_method_2_code 129 = .ok (.iaload, 1) := by decide +kernel
theorem d46_130 : decode prog_4_method_2_code 130 = .ok (.sipush 500, 3) := by decide +kernel
theorem d46_133 : decode prog_4_method_2_code 133 = .ok (.if_icmp .eq 29, 3) := by decide +kernel
theorem d46_136 : decode prog_4_method_2_code 136 = .ok (.aload_n 0, 1) := by decide +kernel
theorem d46_137 : decode prog_4_method_2_code 137 = .ok (.getfield 9, 3) := by decide +kernel
theorem d46_140 : decode prog_4_method_2_code 140 = .ok (.iconst 1, 1) := by decide +kernel
theorem d46_141 : decode prog_4_method_2_code 141 = .ok (.iaload, 1) := by decide +kernel
theorem d46_142 : decode prog_4_method_2_code 142 = .ok (.sipush 500, 3) := by decide +kernel
theorem d46_145 : decode prog_4_method_2_code 145 = .ok (.if_icmp .eq 17, 3) := by decide +kernel
theorem d46_148 : decode prog_4_method_2_code 148 = .ok (.aload_n 0, 1) := by decide +kernel
theorem d46_149 : decode prog_4_method_2_code 149 = .ok (.getfield 38, 3) := by decide +kernel
theorem d46_152 : decode prog_4_method_2_code 152 = .ok (.sipush 500, 3) := by decide +kernel
theorem d46_155 : decode prog_4_method_2_code 155 = .ok (.if_icmp .eq 7, 3) := by decide +kernel
theorem d46_158 : decode prog_4_method_2_code 158 = .ok (.iconst 1, 1) := by decide +kernel
theorem d46_159 : decode prog_4_method_2_code 159 = .ok (.goto 4, 3) := by decide +kernel
theorem d46_162 : decode prog_4_method_2_code 162 = .ok (.iconst 0, 1) := by decide +kernel
theorem d46_163 : decode prog_4_method_2_code 163 = .ok (.ireturn, 1) := by decide +kernel
theorem d47_0 : decode prog_4_method_3_code 0 = .ok (.iload_n 1, 1) := by decide +kernel
theorem d47_1 : decode prog_4_method_3_code 1 = .ok (.invokestatic 56, 3) := by decide +kernel
theorem d47_4 : decode prog_4_method_3_code 4 = .ok (.ifCond .ne 5, 3) := by decide +kernel
theorem d47_7 : decode prog_4_method_3_code 7 = .ok (.iload_n 1, 1) := by decide +kernel
theorem d47_8 : decode prog_4_method_3_code 8 = .ok (.ireturn, 1) := by decide +kernel
theorem d47_9 : decode prog_4_method_3_code 9 = .ok (.iload_n 1, 1) := by decide +kernel
theorem d47_10 : decode prog_4_method_3_code 10 = .ok (.sipush 200, 3) := by decide +kernel
theorem d47_13 : decode prog_4_method_3_code 13 = .ok (.if_icmp .ge 7, 3) := by decide +kernel
theorem d47_16 : decode prog_4_method_3_code 16 = .ok (.iconst 1, 1) := by decide +kernel
theorem d47_17 : decode prog_4_method_3_code 17 = .ok (.goto 4, 3) := by decide +kernel
theorem d47_20 : decode prog_4_method_3_code 20 = .ok (.iconst 0, 1) := by decide +kernel
theorem d47_21 : decode prog_4_method_3_code 21 = .ok (.istore_n 2, 1) := by decide +kernel
theorem d47_22 : decode prog_4_method_3_code 22 = .ok (.iload_n 1, 1) := by decide +kernel
theorem d47_23 : decode prog_4_method_3_code 23 = .ok (.iload_n 2, 1) := by decide +kernel
theorem d47_24 : decode prog_4_method_3_code 24 = .ok (.ifCond .eq 8, 3) := by decide +kernel
theorem d47_27 : decode prog_4_method_3_code 27 = .ok (.bipush 100, 2) := by decide +kernel
theorem d47_29 : decode prog_4_method_3_code 29 = .ok (.goto 6, 3) := by decide +kernel
theorem d47_32 : decode prog_4_method_3_code 32 = .ok (.sipush 200, 3) := by decide +kernel
theorem d47_35 : decode prog_4_method_3_code 35 = .ok (.isub, 1) := by decide +kernel
theorem d47_36 : decode prog_4_method_3_code 36 = .ok (.istore_n 3, 1) := by decide +kernel
theorem d47_37 : decode prog_4_method_3_code 37 = .ok (.aload_n 0, 1) := by decide +kernel
theorem d47_38 : decode prog_4_method_3_code 38 = .ok (.getfield 9, 3) := by decide +kernel
theorem d47_41 : decode prog_4_method_3_code 41 = .ok (.iload_n 3, 1) := by decide +kernel
theorem d47_42 : decode prog_4_method_3_code 42 = .ok (.iaload, 1) := by decide +kernel
theorem d47_43 : decode prog_4_method_3_code 43 = .ok (.sipush 300, 3) := by decide +kernel
theorem d47_46 : decode prog_4_method_3_code 46 = .ok (.if_icmp .ne 27, 3) := by decide +kernel
theorem d47_49 : decode prog_4_method_3_code 49 = .ok (.aload_n 0, 1) := by decide +kernel
theorem d47_50 : decode prog_4_method_3_code 50 = .ok (.getfield 15, 3) := by decide +kernel
theorem d47_53 : decode prog_4_method_3_code 53 = .ok (.iload_n 3, 1) := by decide +kernel
theorem d47_54 : decode prog_4_method_3_code 54 = .ok (.laload, 1) := by decide +kernel
theorem d47_55 : decode prog_4_method_3_code 55 = .ok (.lconst 1, 1) := by decide +kernel
theorem d47_56 : decode prog_4_method_3_code 56 = .ok (.lcmp, 1) := by decide +kernel
theorem d47_57 : decode prog_4_method_3_code 57 = .ok (.ifCond .lt 16, 3) := by decide +kernel
theorem d47_60 : decode prog_4_method_3_code 60 = .ok (.aload_n 0, 1) := by decide +kernel
theorem d47_61 : decode prog_4_method_3_code 61 = .ok (.getfield 15, 3) := by decide +kernel
theorem d47_64 : decode prog_4_method_3_code 64 = .ok (.iload_n 3, 1) := by decide +kernel
theorem d47_65 : decode prog_4_method_3_code 65 = .ok (.laload, 1) := by decide +kernel
theorem d47_66 : decode prog_4_method_3_code 66 = .ok (.ldc2_w 60, 3) := by decide +kernel
theorem d47_69 : decode prog_4_method_3_code 69 = .ok (.lcmp, 1) := by decide +kernel
theorem d47_70 : decode prog_4_method_3_code 70 = .ok (.ifCond .le 7, 3) := by decide +kernel
theorem d47_73 : decode prog_4_method_3_code 73 = .ok (.sipush 500, 3) := by decide +kernel
theorem d47_76 : decode prog_4_method_3_code 76 = .ok (.ireturn, 1) := by decide +kernel
theorem d47_77 : decode prog_4_method_3_code 77 = .ok (.iload_n 2, 1) := by decide +kernel
theorem d47_78 : decode prog_4_method_3_code 78 = .ok (.ifCond .eq 13, 3) := by decide +kernel
theorem d47_81 : decode prog_4_method_3_code 81 = .ok (.aload_n 0, 1) := by decide +kernel
theorem d47_82 : decode prog_4_method_3_code 82 = .ok (.getfield 15, 3) := by decide +kernel
theorem d47_85 : decode prog_4_method_3_code 85 = .ok (.iload_n 3, 1) := by decide +kernel
theorem d47_86 : decode prog_4_method_3_code 86 = .ok (.laload, 1) := by decide +kernel
theorem d47_87 : decode prog_4_method_3_code 87 = .ok (.l2i, 1) := by decide +kernel
theorem d47_88 : decode prog_4_method_3_code 88 = .ok (.goto 11, 3) := by decide +kernel
theorem d47_91 : decode prog_4_method_3_code 91 = .ok (.aload_n 0, 1) := by decide +kernel
theorem d47_92 : decode prog_4_method_3_code 92 = .ok (.getfield 15, 3) := by decide +kernel
theorem d47_95 : decode prog_4_method_3_code 95 = .ok (.iload_n 3, 1) := by decide +kernel
theorem d47_96 : decode prog_4_method_3_code 96 = .ok (.laload, 1) := by decide +kernel
theorem d47_97 : decode prog_4_method_3_code 97 = .ok (.l2i, 1) := by decide +kernel
theorem d47_98 : decode prog_4_method_3_code 98 = .ok (.ineg, 1) := by decide +kernel
theorem d47_99 : decode prog_4_method_3_code 99 = .ok (.ireturn, 1) := by decide +kernel
theorem d48_0 : decode prog_4_method_4_code 0 = .ok (.aload_n 0, 1) := by decide +kernel
theorem d48_1 : decode prog_4_method_4_code 1 = .ok (.getfield 32, 3) := by decide +kernel
theorem d48_4 : decode prog_4_method_4_code 4 = .ok (.iload_n 1, 1) := by decide +kernel
theorem d48_5 : decode prog_4_method_4_code 5 = .ok (.if_icmp .ne 26, 3) := by decide +kernel
theorem d48_8 : decode prog_4_method_4_code 8 = .ok (.aload_n 0, 1) := by decide +kernel
theorem d48_9 : decode prog_4_method_4_code 9 = .ok (.iconst 0, 1) := by decide +kernel
theorem d48_10 : decode prog_4_method_4_code 10 = .ok (.lload_n 2, 1) := by decide +kernel
theorem d48_11 : decode prog_4_method_4_code 11 = .ok (.invokevirtual 62, 3) := by decide +kernel
theorem d48_14 : decode prog_4_method_4_code 14 = .ok (.ifCond .eq 17, 3) := by decide +kernel
theorem d48_17 : decode prog_4_method_4_code 17 = .ok (.aload_n 0, 1) := by decide +kernel
theorem d48_18 : decode prog_4_method_4_code 18 = .ok (.iconst 1, 1) := by decide +kernel
theorem d48_19 : decode prog_4_method_4_code 19 = .ok (.lload 4, 2) := by decide +kernel
theorem d48_21 : decode prog_4_method_4_code 21 = .ok (.invokevirtual 62, 3) := by decide +kernel
theorem d48_24 : decode prog_4_method_4_code 24 = .ok (.ifCond .eq 7, 3) := by decide +kernel
theorem d48_27 : decode prog_4_method_4_code 27 = .ok (.iconst 1, 1) := by decide +kernel
theorem d48_28 : decode prog_4_method_4_code 28 = .ok (.goto 4, 3) := by decide +kernel
theorem d48_31 : decode prog_4_method_4_code 31 = .ok (.iconst 0, 1) := by decide +kernel
theorem d48_32 : decode prog_4_method_4_code 32 = .ok (.ireturn, 1) := by decide +kernel
theorem d49_0 : decode prog_4_method_5_code 0 = .ok (.aload_n 0, 1) := by decide +kernel
theorem d49_1 : decode prog_4_method_5_code 1 = .ok (.getfield 9, 3) := by decide +kernel
theorem d49_4 : decode prog_4_method_5_code 4 = .ok (.iload_n 1, 1) := by decide +kernel
theorem d49_5 : decode prog_4_method_5_code 5 = .ok (.iaload, 1) := by decide +kernel
theorem d49_6 : decode prog_4_method_5_code 6 = .ok (.sipush 300, 3) := by decide +kernel
theorem d49_9 : decode prog_4_method_5_code 9 = .ok (.if_icmp .ne 14, 3) := by decide +kernel
theorem d49_12 : decode prog_4_method_5_code 12 = .ok (.aload_n 0, 1) := by decide +kernel
theorem d49_13 : decode prog_4_method_5_code 13 = .ok (.getfield 15, 3) := by decide +kernel
theorem d49_16 : decode prog_4_method_5_code 16 = .ok (.iload_n 1, 1) := by decide +kernel
theorem d49_17 : decode prog_4_method_5_code 17 = .ok (.laload, 1) := by decide +kernel
theorem d49_18 : decode prog_4_method_5_code 18 = .ok (.lload_n 2, 1) := by decide +kernel
theorem d49_19 : decode prog_4_method_5_code 19 = .ok (.lcmp, 1) := by decide +kernel
theorem d49_20 : decode prog_4_method_5_code 20 = .ok (.ifCond .ne 7, 3) := by decide +kernel
theorem d49_23 : decode prog_4_method_5_code 23 = .ok (.iconst 1, 1) := by decide +kernel
theorem d49_24 : decode prog_4_method_5_code 24 = .ok (.goto 4, 3) := by decide +kernel
theorem d49_27 : decode prog_4_method_5_code 27 = .ok (.iconst 0, 1) := by decide +kernel
theorem d49_28 : decode prog_4_method_5_code 28 = .ok (.ireturn, 1) := by decide +kernel
theorem d50_0 : decode prog_4_method_6_code 0 = .ok (.aload_n 0, 1) := by decide +kernel
theorem d50_1 : decode prog_4_method_6_code 1 = .ok (.getfield 9, 3) := by decide +kernel
theorem d50_4 : decode prog_4_method_6_code 4 = .ok (.iload_n 1, 1) := by decide +kernel
theorem d50_5 : decode prog_4_method_6_code 5 = .ok (.iaload, 1) := by decide +kernel
theorem d50_6 : decode prog_4_method_6_code 6 = .ok (.sipush 300, 3) := by decide +kernel
theorem d50_9 : decode prog_4_method_6_code 9 = .ok (.if_icmp .eq 19, 3) := by decide +kernel
theorem d50_12 : decode prog_4_method_6_code 12 = .ok (.aload_n 0, 1) := by decide +kernel
theorem d50_13 : decode prog_4_method_6_code 13 = .ok (.getfield 9, 3) := by decide +kernel
theorem d50_16 : decode prog_4_method_6_code 16 = .ok (.iload_n 1, 1) := by decide +kernel
theorem d50_17 : decode prog_4_method_6_code 17 = .ok (.iaload, 1) := by decide +kernel
theorem d50_18 : decode prog_4_method_6_code 18 = .ok (.sipush 400, 3) := by decide +kernel
theorem d50_21 : decode prog_4_method_6_code 21 = .ok (.if_icmp .eq 7, 3) := by decide +kernel
theorem d50_24 : decode prog_4_method_6_code 24 = .ok (.iconst 1, 1) := by decide +kernel
theorem d50_25 : decode prog_4_method_6_code 25 = .ok (.goto 4, 3) := by decide +kernel
theorem d50_28 : decode prog_4_method_6_code 28 = .ok (.iconst 0, 1) := by decide +kernel
theorem d50_29 : decode prog_4_method_6_code 29 = .ok (.ireturn, 1) := by decide +kernel
theorem d51_0 : decode prog_4_method_7_code 0 = .ok (.aload_n 0, 1) := by decide +kernel
theorem d51_1 : decode prog_4_method_7_code 1 = .ok (.iload_n 1, 1) := by decide +kernel
theorem d51_2 : decode prog_4_method_7_code 2 = .ok (.invokevirtual 66, 3) := by decide +kernel
theorem d51_5 : decode prog_4_method_7_code 5 = .ok (.ifCond .eq 16, 3) := by decide +kernel
theorem d51_8 : decode prog_4_method_7_code 8 = .ok (.aload_n 0, 1) := by decide +kernel
theorem d51_9 : decode prog_4_method_7_code 9 = .ok (.getfield 9, 3) := by decide +kernel
theorem d51_12 : decode prog_4_method_7_code 12 = .ok (.iload_n 1, 1) := by decide +kernel
theorem d51_13 : decode prog_4_method_7_code 13 = .ok (.iaload, 1) := by decide +kernel
theorem d51_14 : decode prog_4_method_7_code 14 = .ok (.lload_n 2, 1) := by decide +kernel
theorem d51_15 : decode prog_4_method_7_code 15 = .ok (.invokestatic 69, 3) := by decide +kernel
theorem d51_18 : decode prog_4_method_7_code 18 = .ok (.ifCond .eq 7, 3) := by decide +kernel
theorem d51_21 : decode prog_4_method_7_code 21 = .ok (.iconst 1, 1) := by decide +kernel
theorem d51_22 : decode prog_4_method_7_code 22 = .ok (.goto 4, 3) := by decide +kernel
theorem d51_25 : decode prog_4_method_7_code 25 = .ok (.iconst 0, 1) := by decide +kernel
theorem d51_26 : decode prog_4_method_7_code 26 = .ok (.ireturn, 1) := by decide +kernel
theorem d52_0 : decode prog_4_method_8_code 0 = .ok (.aload_n 0, 1) := by decide +kernel
theorem d52_1 : decode prog_4_method_8_code 1 = .ok (.getfield 19, 3) := by decide +kernel
theorem d52_4 : decode prog_4_method_8_code 4 = .ok (.iload_n 1, 1) := by decide +kernel
theorem d52_5 : decode prog_4_method_8_code 5 = .ok (.iaload, 1) := by decide +kernel
theorem d52_6 : decode prog_4_method_8_code 6 = .ok (.sipush 400, 3) := by decide +kernel
theorem d52_9 : decode prog_4_method_8_code 9 = .ok (.if_icmp .eq 7, 3) := by decide +kernel
theorem d52_12 : decode prog_4_method_8_code 12 = .ok (.iconst 1, 1) := by decide +kernel
theorem d52_13 : decode prog_4_method_8_code 13 = .ok (.goto 4, 3) := by decide +kernel
theorem d52_16 : decode prog_4_method_8_code 16 = .ok (.iconst 0, 1) := by decide +kernel
theorem d52_17 : decode prog_4_method_8_code 17 = .ok (.ireturn, 1) := by decide +kernel
theorem d53_0 : decode prog_4_method_9_code 0 = .ok (.aload_n 0, 1) := by decide +kernel
theorem d53_1 : decode prog_4_method_9_code 1 = .ok (.getfield 19, 3) := by decide +kernel
theorem d53_4 : decode prog_4_method_9_code 4 = .ok (.iload_n 1, 1) := by decide +kernel
theorem d53_5 : decode prog_4_method_9_code 5 = .ok (.iload_n 2, 1) := by decide +kernel
theorem d53_6 : decode prog_4_method_9_code 6 = .ok (.iastore, 1) := by decide +kernel
theorem d53_7 : decode prog_4_method_9_code 7 = .ok (.iconst 1, 1) := by decide +kernel
theorem d53_8 : decode prog_4_method_9_code 8 = .ok (.ireturn, 1) := by decide +kernel
theorem d54_0 : decode prog_4_method_10_code 0 = .ok (.aload_n 0, 1) := by decide +kernel
theorem d54_1 : decode prog_4_method_10_code 1 = .ok (.getfield 19, 3) := by decide +kernel
theorem d54_4 : decode prog_4_method_10_code 4 = .ok (.iload_n 1, 1) := by decide +kernel
theorem d54_5 : decode prog_4_method_10_code 5 = .ok (.iload_n 2, 1) := by decide +kernel
theorem d54_6 : decode prog_4_method_10_code 6 = .ok (.iastore, 1) := by decide +kernel
theorem d54_7 : decode prog_4_method_10_code 7 = .ok (.aload_n 0, 1) := by decide +kernel
theorem d54_8 : decode prog_4_method_10_code 8 = .ok (.getfield 22, 3) := by decide +kernel
theorem d54_11 : decode prog_4_method_10_code 11 = .ok (.iload_n 1, 1) := by decide +kernel
theorem d54_12 : decode prog_4_method_10_code 12 = .ok (.iconst 1, 1) := by decide +kernel
theorem d54_13 : decode prog_4_method_10_code 13 = .ok (.bastore, 1) := by decide +kernel
theorem d54_14 : decode prog_4_method_10_code 14 = .ok (.aload_n 0, 1) := by decide +kernel
theorem d54_15 : decode prog_4_method_10_code 15 = .ok (.getfield 26, 3) := by decide +kernel
theorem d54_18 : decode prog_4_method_10_code 18 = .ok (.iload_n 1, 1) := by decide +kernel
theorem d54_19 : decode prog_4_method_10_code 19 = .ok (.lload_n 3, 1) := by decide +kernel
theorem d54_20 : decode prog_4_method_10_code 20 = .ok (.lastore, 1) := by decide +kernel
theorem d54_21 : decode prog_4_method_10_code 21 = .ok (.iconst 1, 1) := by decide +kernel
theorem d54_22 : decode prog_4_method_10_code 22 = .ok (.ireturn, 1) := by decide +kernel
theorem d55_0 : decode prog_4_method_11_code 0 = .ok (.aload_n 0, 1) := by decide +kernel
theorem d55_1 : decode prog_4_method_11_code 1 = .ok (.getfield 19, 3) := by decide +kernel
theorem d55_4 : decode prog_4_method_11_code 4 = .ok (.iload_n 1, 1) := by decide +kernel
theorem d55_5 : decode prog_4_method_11_code 5 = .ok (.aload_n 0, 1) := by decide +kernel
theorem d55_6 : decode prog_4_method_11_code 6 = .ok (.getfield 19, 3) := by decide +kernel
theorem d55_9 : decode prog_4_method_11_code 9 = .ok (.iload_n 2, 1) := by decide +kernel
theorem d55_10 : decode prog_4_method_11_code 10 = .ok (.iaload, 1) := by decide +kernel
theorem d55_11 : decode prog_4_method_11_code 11 = .ok (.iastore, 1) := by decide +kernel
theorem d55_12 : decode prog_4_method_11_code 12 = .ok (.aload_n 0, 1) := by decide +kernel
theorem d55_13 : decode prog_4_method_11_code 13 = .ok (.getfield 22, 3) := by decide +kernel
theorem d55_16 : decode prog_4_method_11_code 16 = .ok (.iload_n 1, 1) := by decide +kernel
theorem d55_17 : decode prog_4_method_11_code 17 = .ok (.aload_n 0, 1) := by decide +kernel
theorem d55_18 : decode prog_4_method_11_code 18 = .ok (.getfield 22, 3) := by decide +kernel
theorem d55_21 : decode prog_4_method_11_code 21 = .ok (.iload_n 2, 1) := by decide +kernel
theorem d55_22 : decode prog_4_method_11_code 22 = .ok (.baload, 1) := by decide +kernel
theorem d55_23 : decode prog_4_method_11_code 23 = .ok (.bastore, 1) := by decide +kernel
theorem d55_24 : decode prog_4_method_11_code 24 = .ok (.aload_n 0, 1) := by decide +kernel
theorem d55_25 : decode prog_4_method_11_code 25 = .ok (.getfield 26, 3) := by decide +kernel
theorem d55_28 : decode prog_4_method_11_code 28 = .ok (.iload_n 1, 1) := by decide +kernel
theorem d55_29 : decode prog_4_method_11_code 29 = .ok (.aload_n 0, 1) := by decide +kernel
theorem d55_30 : decode prog_4_method_11_code 30 = .ok (.getfield 26, 3) := by decide +kernel
theorem d55_33 : decode prog_4_method_11_code 33 = .ok (.iload_n 2, 1) := by decide +kernel
theorem d55_34 : decode prog_4_method_11_code 34 = .ok (.laload, 1) := by decide +kernel
theorem d55_35 : decode prog_4_method_11_code 35 = .ok (.lastore, 1) := by decide +kernel
theorem d55_36 : decode prog_4_method_11_code 36 = .ok (.iconst 1, 1) := by decide +kernel
theorem d55_37 : decode prog_4_method_11_code 37 = .ok (.ireturn, 1) := by decide +kernel
theorem d56_0 : decode prog_6_method_2_code 0 = .ok (.aload_n 0, 1) := by decide +kernel
theorem d56_1 : decode prog_6_method_2_code 1 = .ok (.iconst 0, 1) := by decide +kernel
theorem d56_2 : decode prog_6_method_2_code 2 = .ok (.putfield 19, 3) := by decide +kernel
theorem d56_5 : decode prog_6_method_2_code 5 = .ok (.aload_n 0, 1) := by decide +kernel
theorem d56_6 : decode prog_6_method_2_code 6 = .ok (.iconst 0, 1) := by decide +kernel
theorem d56_7 : decode prog_6_method_2_code 7 = .ok (.putfield 23, 3) := by decide +kernel
theorem d56_10 : decode prog_6_method_2_code 10 = .ok (.aload_n 0, 1) := by decide +kernel
theorem d56_11 : decode prog_6_method_2_code 11 = .ok (.aload_n 1, 1) := by decide +kernel
theorem d56_12 : decode prog_6_method_2_code 12 = .ok (.aload_n 0, 1) := by decide +kernel
theorem d56_13 : decode prog_6_method_2_code 13 = .ok (.getfield 9, 3) := by decide +kernel
theorem d56_16 : decode prog_6_method_2_code 16 = .ok (.getfield 26, 3) := by decide +kernel
theorem d56_19 : decode prog_6_method_2_code 19 = .ok (.aload_n 1, 1) := by decide +kernel
theorem d56_20 : decode prog_6_method_2_code 20 = .ok (.getfield 32, 3) := by decide +kernel
theorem d56_23 : decode prog_6_method_2_code 23 = .ok (.iaload, 1) := by decide +kernel
theorem d56_24 : decode prog_6_method_2_code 24 = .ok (.lload_n 2, 1) := by decide +kernel
theorem d56_25 : decode prog_6_method_2_code 25 = .ok (.lload 4, 2) := by decide +kernel
theorem d56_27 : decode prog_6_method_2_code 27 = .ok (.iconst 0, 1) := by decide +kernel
theorem d56_28 : decode prog_6_method_2_code 28 = .ok (.invokevirtual 37, 3) := by decide +kernel
theorem d56_31 : decode prog_6_method_2_code 31 = .ok (.lreturn, 1) := by decide +kernel
theorem d57_0 : decode prog_6_method_3_code 0 = .ok (.aload_n 0, 1) := by decide +kernel
theorem d57_1 : decode prog_6_method_3_code 1 = .ok (.getfield 19, 3) := by decide +kernel
theorem d57_4 : decode prog_6_method_3_code 4 = .ok (.sipush 3000, 3) := by decide +kernel
theorem d57_7 : decode prog_6_method_3_code 7 = .ok (.if_icmp .lt 7, 3) := by decide +kernel
theorem d57_10 : decode prog_6_method_3_code 10 = .ok (.ldc2_w 41, 3) := by decide +kernel
theorem d57_13 : decode prog_6_method_3_code 13 = .ok (.lreturn, 1) := by decide +kernel
theorem d57_14 : decode prog_6_method_3_code 14 = .ok (.aload_n 0, 1) := by decide +kernel
theorem d57_15 : decode prog_6_method_3_code 15 = .ok (.dup, 1) := by decide +kernel
theorem d57_16 : decode prog_6_method_3_code 16 = .ok (.getfield 19, 3) := by decide +kernel
theorem d57_19 : decode prog_6_method_3_code 19 = .ok (.iconst 1, 1) := by decide +kernel
theorem d57_20 : decode prog_6_method_3_code 20 = .ok (.iadd, 1) := by decide +kernel
theorem d57_21 : decode prog_6_method_3_code 21 = .ok (.putfield 19, 3) := by decide +kernel
theorem d57_24 : decode prog_6_method_3_code 24 = .ok (.aload_n 1, 1) := by decide +kernel
theorem d57_25 : decode prog_6_method_3_code 25 = .ok (.getfield 43, 3) := by decide +kernel
theorem d57_28 : decode prog_6_method_3_code 28 = .ok (.iload_n 2, 1) := by decide +kernel
theorem d57_29 : decode prog_6_method_3_code 29 = .ok (.baload, 1) := by decide +kernel
theorem d57_30 : decode prog_6_method_3_code 30 = .ok (.ifCond .eq 10, 3) := by decide +kernel
theorem d57_33 : decode prog_6_method_3_code 33 = .ok (.aload_n 1, 1) := by decide +kernel
theorem d57_34 : decode prog_6_method_3_code 34 = .ok (.getfield 47, 3) := by decide +kernel
theorem d57_37 : decode prog_6_method_3_code 37 = .ok (.iload_n 2, 1) := by decide +kernel
theorem d57_38 : decode prog_6_method_3_code 38 = .ok (.laload, 1) := by decide +kernel
theorem d57_39 : decode prog_6_method_3_code 39 = .ok (.lreturn, 1) := by decide +kernel
theorem d57_40 : decode prog_6_method_3_code 40 = .ok (.aload_n 0, 1) := by decide +kernel
theorem d57_41 : decode prog_6_method_3_code 41 = .ok (.getfield 9, 3) := by decide +kernel
theorem d57_44 : decode prog_6_method_3_code 44 = .ok (.getfield 51, 3) := by decide +kernel
theorem d57_47 : decode prog_6_method_3_code 47 = .ok (.iload_n 2, 1) := by decide +kernel
theorem d57_48 : decode prog_6_method_3_code 48 = .ok (.iaload, 1) := by decide +kernel
theorem d57_49 : decode prog_6_method_3_code 49 = .ok (.lookupswitch 98 #[(1, 43), (13, 62), (14, 74), (15, 86)], 43) := by decide +kernel
theorem tk57_49 : mm_lk #[(1, 43), (13, 62), (14, 74), (15, 86)] := by unfold mm_lk; decide +kernel
theorem d57_92 : decode prog_6_method_3_code 92 = .ok (.aload_n 0, 1) := by decide +kernel
theorem d57_93 : decode prog_6_method_3_code 93 = .ok (.getfield 9, 3) := by decide +kernel
theorem d57_96 : decode prog_6_method_3_code 96 = .ok (.getfield 54, 3) := by decide +kernel
theorem d57_99 : decode prog_6_method_3_code 99 = .ok (.iload_n 2, 1) := by decide +kernel
theorem d57_100 : decode prog_6_method_3_code 100 = .ok (.iaload, 1) := by decide +kernel
theorem d57_101 : decode prog_6_method_3_code 101 = .ok (.ifCond .ne 7, 3) := by decide +kernel
theorem d57_104 : decode prog_6_method_3_code 104 = .ok (.lload_n 3, 1) := by decide +kernel
theorem d57_105 : decode prog_6_method_3_code 105 = .ok (.goto 5, 3) := by decide +kernel
theorem d57_108 : decode prog_6_method_3_code 108 = .ok (.lload 5, 2) := by decide +kernel
theorem d57_110 : decode prog_6_method_3_code 110 = .ok (.lreturn, 1) := by decide +kernel
theorem d57_111 : decode prog_6_method_3_code 111 = .ok (.aload_n 0, 1) := by decide +kernel
theorem d57_112 : decode prog_6_method_3_code 112 = .ok (.aload_n 1, 1) := by decide +kernel
theorem d57_113 : decode prog_6_method_3_code 113 = .ok (.iload_n 2, 1) := by decide +kernel
theorem d57_114 : decode prog_6_method_3_code 114 = .ok (.lload_n 3, 1) := by decide +kernel
theorem d57_115 : decode prog_6_method_3_code 115 = .ok (.lload 5, 2) := by decide +kernel
theorem d57_117 : decode prog_6_method_3_code 117 = .ok (.iload 7, 2) := by decide +kernel
theorem d57_119 : decode prog_6_method_3_code 119 = .ok (.invokevirtual 57, 3) := by decide +kernel
theorem d57_122 : decode prog_6_method_3_code 122 = .ok (.lreturn, 1) := by decide +kernel
theorem d57_123 : decode prog_6_method_3_code 123 = .ok (.aload_n 0, 1) := by decide +kernel
theorem d57_124 : decode prog_6_method_3_code 124 = .ok (.aload_n 1, 1) := by decide +kernel
theorem d57_125 : decode prog_6_method_3_code 125 = .ok (.iload_n 2, 1) := by decide +kernel
theorem d57_126 : decode prog_6_method_3_code 126 = .ok (.lload_n 3, 1) := by decide +kernel
theorem d57_127 : decode prog_6_method_3_code 127 = .ok (.lload 5, 2) := by decide +kernel
theorem d57_129 : decode prog_6_method_3_code 129 = .ok (.iload 7, 2) := by decide +kernel
theorem d57_131 : decode prog_6_method_3_code 131 = .ok (.invokevirtual 60, 3) := by decide +kernel
theorem d57_134 : decode prog_6_method_3_code 134 = .ok (.lreturn, 1) := by decide +kernel
theorem d57_135 : decode prog_6_method_3_code 135 = .ok (.aload_n 0, 1) := by decide +kernel
theorem d57_136 : decode prog_6_method_3_code 136 = .ok (.aload_n 1, 1) := by decide +kernel
theorem d57_137 : decode prog_6_method_3_code 137 = .ok (.iload_n 2, 1) := by decide +kernel
theorem d57_138 : decode prog_6_method_3_code 138 = .ok (.lload_n 3, 1) := by decide +kernel
theorem d57_139 : decode prog_6_method_3_code 139 = .ok (.lload 5, 2) := by decide +kernel
theorem d57_141 : decode prog_6_method_3_code 141 = .ok (.iload 7, 2) := by decide +kernel
theorem d57_143 : decode prog_6_method_3_code 143 = .ok (.invokevirtual 63, 3) := by decide +kernel
theorem d57_146 : decode prog_6_method_3_code 146 = .ok (.lreturn, 1) := by decide +kernel
theorem d57_147 : decode prog_6_method_3_code 147 = .ok (.aload_n 0, 1) := by decide +kernel
theorem d57_148 : decode prog_6_method_3_code 148 = .ok (.aload_n 1, 1) := by decide +kernel
theorem d57_149 : decode prog_6_method_3_code 149 = .ok (.iload_n 2, 1) := by decide +kernel
theorem d57_150 : decode prog_6_method_3_code 150 = .ok (.lload_n 3, 1) := by decide +kernel
theorem d57_151 : decode prog_6_method_3_code 151 = .ok (.lload 5, 2) := by decide +kernel
theorem d57_153 : decode prog_6_method_3_code 153 = .ok (.iload 7, 2) := by decide +kernel
theorem d57_155 : decode prog_6_method_3_code 155 = .ok (.invokevirtual 66, 3) := by decide +kernel
theorem d57_158 : decode prog_6_method_3_code 158 = .ok (.lreturn, 1) := by decide +kernel
theorem d58_0 : decode prog_6_method_4_code 0 = .ok (.aload_n 0, 1) := by decide +kernel
theorem d58_1 : decode prog_6_method_4_code 1 = .ok (.aload_n 1, 1) := by decide +kernel
theorem d58_2 : decode prog_6_method_4_code 2 = .ok (.aload_n 0, 1) := by decide +kernel
theorem d58_3 : decode prog_6_method_4_code 3 = .ok (.getfield 9, 3) := by decide +kernel
theorem d58_6 : decode prog_6_method_4_code 6 = .ok (.getfield 54, 3) := by decide +kernel
theorem d58_9 : decode prog_6_method_4_code 9 = .ok (.iload_n 2, 1) := by decide +kernel
theorem d58_10 : decode prog_6_method_4_code 10 = .ok (.iaload, 1) := by decide +kernel
theorem d58_11 : decode prog_6_method_4_code 11 = .ok (.lload_n 3, 1) := by decide +kernel
theorem d58_12 : decode prog_6_method_4_code 12 = .ok (.lload 5, 2) := by decide +kernel
theorem d58_14 : decode prog_6_method_4_code 14 = .ok (.iload 7, 2) := by decide +kernel
theorem d58_16 : decode prog_6_method_4_code 16 = .ok (.invokevirtual 37, 3) := by decide +kernel
theorem d58_19 : decode prog_6_method_4_code 19 = .ok (.lstore 8, 2) := by decide +kernel
theorem d58_21 : decode prog_6_method_4_code 21 = .ok (.lload 8, 2) := by decide +kernel
theorem d58_23 : decode prog_6_method_4_code 23 = .ok (.invokestatic 69, 3) := by decide +kernel
theorem d58_26 : decode prog_6_method_4_code 26 = .ok (.ifCond .eq 6, 3) := by decide +kernel
theorem d58_29 : decode prog_6_method_4_code 29 = .ok (.lload 8, 2) := by decide +kernel
theorem d58_31 : decode prog_6_method_4_code 31 = .ok (.lreturn, 1) := by decide +kernel
theorem d58_32 : decode prog_6_method_4_code 32 = .ok (.aload_n 0, 1) := by decide +kernel
theorem d58_33 : decode prog_6_method_4_code 33 = .ok (.aload_n 1, 1) := by decide +kernel
theorem d58_34 : decode prog_6_method_4_code 34 = .ok (.aload_n 0, 1) := by decide +kernel
theorem d58_35 : decode prog_6_method_4_code 35 = .ok (.getfield 9, 3) := by decide +kernel
theorem d58_38 : decode prog_6_method_4_code 38 = .ok (.getfield 75, 3) := by decide +kernel
theorem d58_41 : decode prog_6_method_4_code 41 = .ok (.iload_n 2, 1) := by decide +kernel
theorem d58_42 : decode prog_6_method_4_code 42 = .ok (.iaload, 1) := by decide +kernel
theorem d58_43 : decode prog_6_method_4_code 43 = .ok (.lload_n 3, 1) := by decide +kernel
theorem d58_44 : decode prog_6_method_4_code 44 = .ok (.lload 5, 2) := by decide +kernel
theorem d58_46 : decode prog_6_method_4_code 46 = .ok (.iload 7, 2) := by decide +kernel
theorem d58_48 : decode prog_6_method_4_code 48 = .ok (.invokevirtual 37, 3) := by decide +kernel
theorem d58_51 : decode prog_6_method_4_code 51 = .ok (.lstore 10, 2) := by decide +kernel
theorem d58_53 : decode prog_6_method_4_code 53 = .ok (.lload 10, 2) := by decide +kernel
theorem d58_55 : decode prog_6_method_4_code 55 = .ok (.invokestatic 69, 3) := by decide +kernel
theorem d58_58 : decode prog_6_method_4_code 58 = .ok (.ifCond .eq 6, 3) := by decide +kernel
theorem d58_61 : decode prog_6_method_4_code 61 = .ok (.lload 10, 2) := by decide +kernel
theorem d58_63 : decode prog_6_method_4_code 63 = .ok (.lreturn, 1) := by decide +kernel
theorem d58_64 : decode prog_6_method_4_code 64 = .ok (.aload_n 0, 1) := by decide +kernel
theorem d58_65 : decode prog_6_method_4_code 65 = .ok (.getfield 9, 3) := by decide +kernel
theorem d58_68 : decode prog_6_method_4_code 68 = .ok (.getfield 51, 3) := by decide +kernel
theorem d58_71 : decode prog_6_method_4_code 71 = .ok (.iload_n 2, 1) := by decide +kernel
theorem d58_72 : decode prog_6_method_4_code 72 = .ok (.iaload, 1) := by decide +kernel
theorem d58_73 : decode prog_6_method_4_code 73 = .ok (.aload_n 1, 1) := by decide +kernel
theorem d58_74 : decode prog_6_method_4_code 74 = .ok (.getfield 78, 3) := by decide +kernel
theorem d58_77 : decode prog_6_method_4_code 77 = .ok (.iload_n 2, 1) := by decide +kernel
theorem d58_78 : decode prog_6_method_4_code 78 = .ok (.iaload, 1) := by decide +kernel
theorem d58_79 : decode prog_6_method_4_code 79 = .ok (.lload 8, 2) := by decide +kernel
theorem d58_81 : decode prog_6_method_4_code 81 = .ok (.lload 10, 2) := by decide +kernel
theorem d58_83 : decode prog_6_method_4_code 83 = .ok (.invokestatic 81, 3) := by decide +kernel
theorem d58_86 : decode prog_6_method_4_code 86 = .ok (.lreturn, 1) := by decide +kernel
theorem d59_0 : decode prog_6_method_5_code 0 = .ok (.aload_n 0, 1) := by decide +kernel
theorem d59_1 : decode prog_6_method_5_code 1 = .ok (.getfield 9, 3) := by decide +kernel
theorem d59_4 : decode prog_6_method_5_code 4 = .ok (.getfield 54, 3) := by decide +kernel
theorem d59_7 : decode prog_6_method_5_code 7 = .ok (.iload_n 2, 1) := by decide +kernel
theorem d59_8 : decode prog_6_method_5_code 8 = .ok (.iaload, 1) := by decide +kernel
theorem d59_9 : decode prog_6_method_5_code 9 = .ok (.istore 8, 2) := by decide +kernel
theorem d59_11 : decode prog_6_method_5_code 11 = .ok (.aload_n 1, 1) := by decide +kernel
theorem d59_12 : decode prog_6_method_5_code 12 = .ok (.getfield 43, 3) := by decide +kernel
theorem d59_15 : decode prog_6_method_5_code 15 = .ok (.iload 8, 2) := by decide +kernel
theorem d59_17 : decode prog_6_method_5_code 17 = .ok (.baload, 1) := by decide +kernel
theorem d59_18 : decode prog_6_method_5_code 18 = .ok (.ifCond .eq 13, 3) := by decide +kernel
theorem d59_21 : decode prog_6_method_5_code 21 = .ok (.aload_n 1, 1) := by decide +kernel
theorem d59_22 : decode prog_6_method_5_code 22 = .ok (.getfield 47, 3) := by decide +kernel
theorem d59_25 : decode prog_6_method_5_code 25 = .ok (.iload 8, 2) := by decide +kernel
theorem d59_27 : decode prog_6_method_5_code 27 = .ok (.laload, 1) := by decide +kernel
theorem d59_28 : decode prog_6_method_5_code 28 = .ok (.goto 15, 3) := by decide +kernel
theorem d59_31 : decode prog_6_method_5_code 31 = .ok (.aload_n 0, 1) := by decide +kernel
theorem d59_32 : decode prog_6_method_5_code 32 = .ok (.aload_n 1, 1) := by decide +kernel
theorem d59_33 : decode prog_6_method_5_code 33 = .ok (.iload 8, 2) := by decide +kernel
theorem d59_35 : decode prog_6_method_5_code 35 = .ok (.lload_n 3, 1) := by decide +kernel
theorem d59_36 : decode prog_6_method_5_code 36 = .ok (.lload 5, 2) := by decide +kernel
theorem d59_38 : decode prog_6_method_5_code 38 = .ok (.iload 7, 2) := by decide +kernel
theorem d59_40 : decode prog_6_method_5_code 40 = .ok (.invokevirtual 37, 3) := by decide +kernel
theorem d59_43 : decode prog_6_method_5_code 43 = .ok (.lstore 9, 2) := by decide +kernel
theorem d59_45 : decode prog_6_method_5_code 45 = .ok (.lload 9, 2) := by decide +kernel
theorem d59_47 : decode prog_6_method_5_code 47 = .ok (.invokestatic 69, 3) := by decide +kernel
theorem d59_50 : decode prog_6_method_5_code 50 = .ok (.ifCond .eq 6, 3) := by decide +kernel
theorem d59_53 : decode prog_6_method_5_code 53 = .ok (.lload 9, 2) := by decide +kernel
theorem d59_55 : decode prog_6_method_5_code 55 = .ok (.lreturn, 1) := by decide +kernel
theorem d59_56 : decode prog_6_method_5_code 56 = .ok (.lload 9, 2) := by decide +kernel
theorem d59_58 : decode prog_6_method_5_code 58 = .ok (.lconst 0, 1) := by decide +kernel
theorem d59_59 : decode prog_6_method_5_code 59 = .ok (.lcmp, 1) := by decide +kernel
theorem d59_60 : decode prog_6_method_5_code 60 = .ok (.ifCond .eq 15, 3) := by decide +kernel
theorem d59_63 : decode prog_6_method_5_code 63 = .ok (.aload_n 0, 1) := by decide +kernel
theorem d59_64 : decode prog_6_method_5_code 64 = .ok (.getfield 9, 3) := by decide +kernel
theorem d59_67 : decode prog_6_method_5_code 67 = .ok (.getfield 75, 3) := by decide +kernel
theorem d59_70 : decode prog_6_method_5_code 70 = .ok (.iload_n 2, 1) := by decide +kernel
theorem d59_71 : decode prog_6_method_5_code 71 = .ok (.iaload, 1) := by decide +kernel
theorem d59_72 : decode prog_6_method_5_code 72 = .ok (.goto 12, 3) := by decide +kernel
theorem d59_75 : decode prog_6_method_5_code 75 = .ok (.aload_n 0, 1) := by decide +kernel
theorem d59_76 : decode prog_6_method_5_code 76 = .ok (.getfield 9, 3) := by decide +kernel
theorem d59_79 : decode prog_6_method_5_code 79 = .ok (.getfield 85, 3) := by decide +kernel
theorem d59_82 : decode prog_6_method_5_code 82 = .ok (.iload_n 2, 1) := by decide +kernel
theorem d59_83 : decode prog_6_method_5_code 83 = .ok (.iaload, 1) := by decide +kernel
theorem d59_84 : decode prog_6_method_5_code 84 = .ok (.istore 11, 2) := by decide +kernel
theorem d59_86 : decode prog_6_method_5_code 86 = .ok (.aload_n 0, 1) := by decide +kernel
theorem d59_87 : decode prog_6_method_5_code 87 = .ok (.aload_n 1, 1) := by decide +kernel
theorem d59_88 : decode prog_6_method_5_code 88 = .ok (.iload 11, 2) := by decide +kernel
theorem d59_90 : decode prog_6_method_5_code 90 = .ok (.lload_n 3, 1) := by decide +kernel
theorem d59_91 : decode prog_6_method_5_code 91 = .ok (.lload 5, 2) := by decide +kernel
theorem d59_93 : decode prog_6_method_5_code 93 = .ok (.iload 7, 2) := by decide +kernel
theorem d59_95 : decode prog_6_method_5_code 95 = .ok (.invokevirtual 37, 3) := by decide +kernel
theorem d59_98 : decode prog_6_method_5_code 98 = .ok (.lreturn, 1) := by decide +kernel
end
section
/-! decode rows, printed by a program of mine out of the listing -/
theorem d60_0 : decode prog_6_method_6_code 0 = .ok (.aload_n 0, 1) := by decide +kernel
theorem d60_1 : decode prog_6_method_6_code 1 = .ok (.aload_n 1, 1) := by decide +kernel
theorem d60_2 : decode prog_6_method_6_code 2 = .ok (.aload_n 0, 1) := by decide +kernel
theorem d60_3 : decode prog_6_method_6_code 3 = .ok (.getfield 9, 3) := by decide +kernel
theorem d60_6 : decode prog_6_method_6_code 6 = .ok (.getfield 54, 3) := by decide +kernel
theorem d60_9 : decode prog_6_method_6_code 9 = .ok (.iload_n 2, 1) := by decide +kernel
theorem d60_10 : decode prog_6_method_6_code 10 = .ok (.iaload, 1) := by decide +kernel
theorem d60_11 : decode prog_6_method_6_code 11 = .ok (.lload_n 3, 1) := by decide +kernel
theorem d60_12 : decode prog_6_method_6_code 12 = .ok (.lload 5, 2) := by decide +kernel
theorem d60_14 : decode prog_6_method_6_code 14 = .ok (.iload 7, 2) := by decide +kernel
theorem d60_16 : decode prog_6_method_6_code 16 = .ok (.invokevirtual 37, 3) := by decide +kernel
theorem d60_19 : decode prog_6_method_6_code 19 = .ok (.lstore 8, 2) := by decide +kernel
theorem d60_21 : decode prog_6_method_6_code 21 = .ok (.lload 8, 2) := by decide +kernel
theorem d60_23 : decode prog_6_method_6_code 23 = .ok (.invokestatic 69, 3) := by decide +kernel
theorem d60_26 : decode prog_6_method_6_code 26 = .ok (.ifCond .eq 8, 3) := by decide +kernel
theorem d60_29 : decode prog_6_method_6_code 29 = .ok (.lload 8, 2) := by decide +kernel
theorem d60_31 : decode prog_6_method_6_code 31 = .ok (.goto 14, 3) := by decide +kernel
theorem d60_34 : decode prog_6_method_6_code 34 = .ok (.aload_n 1, 1) := by decide +kernel
theorem d60_35 : decode prog_6_method_6_code 35 = .ok (.getfield 78, 3) := by decide +kernel
theorem d60_38 : decode prog_6_method_6_code 38 = .ok (.iload_n 2, 1) := by decide +kernel
theorem d60_39 : decode prog_6_method_6_code 39 = .ok (.iaload, 1) := by decide +kernel
theorem d60_40 : decode prog_6_method_6_code 40 = .ok (.lload 8, 2) := by decide +kernel
theorem d60_42 : decode prog_6_method_6_code 42 = .ok (.invokestatic 88, 3) := by decide +kernel
theorem d60_45 : decode prog_6_method_6_code 45 = .ok (.lreturn, 1) := by decide +kernel
theorem d61_0 : decode prog_6_method_7_code 0 = .ok (.iload 7, 2) := by decide +kernel
theorem d61_2 : decode prog_6_method_7_code 2 = .ok (.iconst 5, 1) := by decide +kernel
theorem d61_3 : decode prog_6_method_7_code 3 = .ok (.if_icmp .lt 7, 3) := by decide +kernel
theorem d61_6 : decode prog_6_method_7_code 6 = .ok (.ldc2_w 92, 3) := by decide +kernel
theorem d61_9 : decode prog_6_method_7_code 9 = .ok (.lreturn, 1) := by decide +kernel
theorem d61_10 : decode prog_6_method_7_code 10 = .ok (.aload_n 0, 1) := by decide +kernel
theorem d61_11 : decode prog_6_method_7_code 11 = .ok (.getfield 15, 3) := by decide +kernel
theorem d61_14 : decode prog_6_method_7_code 14 = .ok (.aload_n 1, 1) := by decide +kernel
theorem d61_15 : decode prog_6_method_7_code 15 = .ok (.getfield 94, 3) := by decide +kernel
theorem d61_18 : decode prog_6_method_7_code 18 = .ok (.iload_n 2, 1) := by decide +kernel
theorem d61_19 : decode prog_6_method_7_code 19 = .ok (.iaload, 1) := by decide +kernel
theorem d61_20 : decode prog_6_method_7_code 20 = .ok (.aaload, 1) := by decide +kernel
theorem d61_21 : decode prog_6_method_7_code 21 = .ok (.astore 8, 2) := by decide +kernel
theorem d61_23 : decode prog_6_method_7_code 23 = .ok (.aload 8, 2) := by decide +kernel
theorem d61_25 : decode prog_6_method_7_code 25 = .ok (.iconst 0, 1) := by decide +kernel
theorem d61_26 : decode prog_6_method_7_code 26 = .ok (.invokevirtual 97, 3) := by decide +kernel
theorem d61_29 : decode prog_6_method_7_code 29 = .ok (.ifCond .eq 25, 3) := by decide +kernel
theorem d61_32 : decode prog_6_method_7_code 32 = .ok (.aload_n 0, 1) := by decide +kernel
theorem d61_33 : decode prog_6_method_7_code 33 = .ok (.aload_n 1, 1) := by decide +kernel
theorem d61_34 : decode prog_6_method_7_code 34 = .ok (.aload_n 0, 1) := by decide +kernel
theorem d61_35 : decode prog_6_method_7_code 35 = .ok (.getfield 9, 3) := by decide +kernel
theorem d61_38 : decode prog_6_method_7_code 38 = .ok (.getfield 75, 3) := by decide +kernel
theorem d61_41 : decode prog_6_method_7_code 41 = .ok (.iload_n 2, 1) := by decide +kernel
theorem d61_42 : decode prog_6_method_7_code 42 = .ok (.iaload, 1) := by decide +kernel
theorem d61_43 : decode prog_6_method_7_code 43 = .ok (.lload_n 3, 1) := by decide +kernel
theorem d61_44 : decode prog_6_method_7_code 44 = .ok (.lload 5, 2) := by decide +kernel
theorem d61_46 : decode prog_6_method_7_code 46 = .ok (.iload 7, 2) := by decide +kernel
theorem d61_48 : decode prog_6_method_7_code 48 = .ok (.invokevirtual 37, 3) := by decide +kernel
theorem d61_51 : decode prog_6_method_7_code 51 = .ok (.goto 4, 3) := by decide +kernel
theorem d61_54 : decode prog_6_method_7_code 54 = .ok (.lconst 0, 1) := by decide +kernel
theorem d61_55 : decode prog_6_method_7_code 55 = .ok (.lstore 9, 2) := by decide +kernel
theorem d61_57 : decode prog_6_method_7_code 57 = .ok (.lload 9, 2) := by decide +kernel
theorem d61_59 : decode prog_6_method_7_code 59 = .ok (.invokestatic 69, 3) := by decide +kernel
theorem d61_62 : decode prog_6_method_7_code 62 = .ok (.ifCond .eq 6, 3) := by decide +kernel
theorem d61_65 : decode prog_6_method_7_code 65 = .ok (.lload 9, 2) := by decide +kernel
theorem d61_67 : decode prog_6_method_7_code 67 = .ok (.lreturn, 1) := by decide +kernel
theorem d61_68 : decode prog_6_method_7_code 68 = .ok (.aload 8, 2) := by decide +kernel
theorem d61_70 : decode prog_6_method_7_code 70 = .ok (.iconst 1, 1) := by decide +kernel
theorem d61_71 : decode prog_6_method_7_code 71 = .ok (.invokevirtual 97, 3) := by decide +kernel
theorem d61_74 : decode prog_6_method_7_code 74 = .ok (.ifCond .eq 25, 3) := by decide +kernel
theorem d61_77 : decode prog_6_method_7_code 77 = .ok (.aload_n 0, 1) := by decide +kernel
theorem d61_78 : decode prog_6_method_7_code 78 = .ok (.aload_n 1, 1) := by decide +kernel
theorem d61_79 : decode prog_6_method_7_code 79 = .ok (.aload_n 0, 1) := by decide +kernel
theorem d61_80 : decode prog_6_method_7_code 80 = .ok (.getfield 9, 3) := by decide +kernel
theorem d61_83 : decode prog_6_method_7_code 83 = .ok (.getfield 85, 3) := by decide +kernel
theorem d61_86 : decode prog_6_method_7_code 86 = .ok (.iload_n 2, 1) := by decide +kernel
theorem d61_87 : decode prog_6_method_7_code 87 = .ok (.iaload, 1) := by decide +kernel
theorem d61_88 : decode prog_6_method_7_code 88 = .ok (.lload_n 3, 1) := by decide +kernel
theorem d61_89 : decode prog_6_method_7_code 89 = .ok (.lload 5, 2) := by decide +kernel
theorem d61_91 : decode prog_6_method_7_code 91 = .ok (.iload 7, 2) := by decide +kernel
theorem d61_93 : decode prog_6_method_7_code 93 = .ok (.invokevirtual 37, 3) := by decide +kernel
theorem d61_96 : decode prog_6_method_7_code 96 = .ok (.goto 4, 3) := by decide +kernel
theorem d61_99 : decode prog_6_method_7_code 99 = .ok (.lconst 0, 1) := by decide +kernel
theorem d61_100 : decode prog_6_method_7_code 100 = .ok (.lstore 11, 2) := by decide +kernel
theorem d61_102 : decode prog_6_method_7_code 102 = .ok (.lload 11, 2) := by decide +kernel
theorem d61_104 : decode prog_6_method_7_code 104 = .ok (.invokestatic 69, 3) := by decide +kernel
theorem d61_107 : decode prog_6_method_7_code 107 = .ok (.ifCond .eq 6, 3) := by decide +kernel
theorem d61_110 : decode prog_6_method_7_code 110 = .ok (.lload 11, 2) := by decide +kernel
theorem d61_112 : decode prog_6_method_7_code 112 = .ok (.lreturn, 1) := by decide +kernel
theorem d61_113 : decode prog_6_method_7_code 113 = .ok (.aload_n 0, 1) := by decide +kernel
theorem d61_114 : decode prog_6_method_7_code 114 = .ok (.dup, 1) := by decide +kernel
theorem d61_115 : decode prog_6_method_7_code 115 = .ok (.getfield 23, 3) := by decide +kernel
theorem d61_118 : decode prog_6_method_7_code 118 = .ok (.iconst 1, 1) := by decide +kernel
theorem d61_119 : decode prog_6_method_7_code 119 = .ok (.iadd, 1) := by decide +kernel
theorem d61_120 : decode prog_6_method_7_code 120 = .ok (.putfield 23, 3) := by decide +kernel
theorem d61_123 : decode prog_6_method_7_code 123 = .ok (.aload_n 0, 1) := by decide +kernel
theorem d61_124 : decode prog_6_method_7_code 124 = .ok (.aload 8, 2) := by decide +kernel
theorem d61_126 : decode prog_6_method_7_code 126 = .ok (.aload_n 0, 1) := by decide +kernel
theorem d61_127 : decode prog_6_method_7_code 127 = .ok (.getfield 9, 3) := by decide +kernel
theorem d61_130 : decode prog_6_method_7_code 130 = .ok (.getfield 26, 3) := by decide +kernel
theorem d61_133 : decode prog_6_method_7_code 133 = .ok (.aload 8, 2) := by decide +kernel
theorem d61_135 : decode prog_6_method_7_code 135 = .ok (.getfield 32, 3) := by decide +kernel
theorem d61_138 : decode prog_6_method_7_code 138 = .ok (.iaload, 1) := by decide +kernel
theorem d61_139 : decode prog_6_method_7_code 139 = .ok (.lload 9, 2) := by decide +kernel
theorem d61_141 : decode prog_6_method_7_code 141 = .ok (.lload 11, 2) := by decide +kernel
theorem d61_143 : decode prog_6_method_7_code 143 = .ok (.iload 7, 2) := by decide +kernel
theorem d61_145 : decode prog_6_method_7_code 145 = .ok (.iconst 1, 1) := by decide +kernel
theorem d61_146 : decode prog_6_method_7_code 146 = .ok (.iadd, 1) := by decide +kernel
theorem d61_147 : decode prog_6_method_7_code 147 = .ok (.invokevirtual 37, 3) := by decide +kernel
theorem d61_150 : decode prog_6_method_7_code 150 = .ok (.lreturn, 1) := by decide +kernel
theorem d62_0 : decode prog_10_method_2_code 0 = .ok (.iload_n 1, 1) := by decide +kernel
theorem d62_1 : decode prog_10_method_2_code 1 = .ok (.iconst 1, 1) := by decide +kernel
theorem d62_2 : decode prog_10_method_2_code 2 = .ok (.if_icmp .lt 13, 3) := by decide +kernel
theorem d62_5 : decode prog_10_method_2_code 5 = .ok (.iload_n 1, 1) := by decide +kernel
theorem d62_6 : decode prog_10_method_2_code 6 = .ok (.bipush 31, 2) := by decide +kernel
theorem d62_8 : decode prog_10_method_2_code 8 = .ok (.if_icmp .gt 7, 3) := by decide +kernel
theorem d62_11 : decode prog_10_method_2_code 11 = .ok (.iconst 1, 1) := by decide +kernel
theorem d62_12 : decode prog_10_method_2_code 12 = .ok (.goto 4, 3) := by decide +kernel
theorem d62_15 : decode prog_10_method_2_code 15 = .ok (.iconst 0, 1) := by decide +kernel
theorem d62_16 : decode prog_10_method_2_code 16 = .ok (.ireturn, 1) := by decide +kernel
theorem d63_0 : decode prog_10_method_3_code 0 = .ok (.aload_n 0, 1) := by decide +kernel
theorem d63_1 : decode prog_10_method_3_code 1 = .ok (.iload_n 1, 1) := by decide +kernel
theorem d63_2 : decode prog_10_method_3_code 2 = .ok (.invokevirtual 125, 3) := by decide +kernel
theorem d63_5 : decode prog_10_method_3_code 5 = .ok (.ifCond .ne 38, 3) := by decide +kernel
theorem d63_8 : decode prog_10_method_3_code 8 = .ok (.aload_n 0, 1) := by decide +kernel
theorem d63_9 : decode prog_10_method_3_code 9 = .ok (.iload_n 1, 1) := by decide +kernel
theorem d63_10 : decode prog_10_method_3_code 10 = .ok (.ineg, 1) := by decide +kernel
theorem d63_11 : decode prog_10_method_3_code 11 = .ok (.invokevirtual 125, 3) := by decide +kernel
theorem d63_14 : decode prog_10_method_3_code 14 = .ok (.ifCond .ne 29, 3) := by decide +kernel
theorem d63_17 : decode prog_10_method_3_code 17 = .ok (.iload_n 1, 1) := by decide +kernel
theorem d63_18 : decode prog_10_method_3_code 18 = .ok (.bipush 100, 2) := by decide +kernel
theorem d63_20 : decode prog_10_method_3_code 20 = .ok (.if_icmp .eq 23, 3) := by decide +kernel
theorem d63_23 : decode prog_10_method_3_code 23 = .ok (.iload_n 1, 1) := by decide +kernel
theorem d63_24 : decode prog_10_method_3_code 24 = .ok (.bipush 101, 2) := by decide +kernel
theorem d63_26 : decode prog_10_method_3_code 26 = .ok (.if_icmp .eq 17, 3) := by decide +kernel
theorem d63_29 : decode prog_10_method_3_code 29 = .ok (.iload_n 1, 1) := by decide +kernel
theorem d63_30 : decode prog_10_method_3_code 30 = .ok (.sipush 200, 3) := by decide +kernel
theorem d63_33 : decode prog_10_method_3_code 33 = .ok (.if_icmp .eq 10, 3) := by decide +kernel
theorem d63_36 : decode prog_10_method_3_code 36 = .ok (.iload_n 1, 1) := by decide +kernel
theorem d63_37 : decode prog_10_method_3_code 37 = .ok (.sipush 201, 3) := by decide +kernel
theorem d63_40 : decode prog_10_method_3_code 40 = .ok (.if_icmp .ne 7, 3) := by decide +kernel
theorem d63_43 : decode prog_10_method_3_code 43 = .ok (.iconst 1, 1) := by decide +kernel
theorem d63_44 : decode prog_10_method_3_code 44 = .ok (.goto 4, 3) := by decide +kernel
theorem d63_47 : decode prog_10_method_3_code 47 = .ok (.iconst 0, 1) := by decide +kernel
theorem d63_48 : decode prog_10_method_3_code 48 = .ok (.ireturn, 1) := by decide +kernel
theorem d64_0 : decode prog_10_method_4_code 0 = .ok (.aload_n 0, 1) := by decide +kernel
theorem d64_1 : decode prog_10_method_4_code 1 = .ok (.iload_n 1, 1) := by decide +kernel
theorem d64_2 : decode prog_10_method_4_code 2 = .ok (.invokevirtual 129, 3) := by decide +kernel
theorem d64_5 : decode prog_10_method_4_code 5 = .ok (.ifCond .ne 21, 3) := by decide +kernel
theorem d64_8 : decode prog_10_method_4_code 8 = .ok (.iload_n 1, 1) := by decide +kernel
theorem d64_9 : decode prog_10_method_4_code 9 = .ok (.ifCond .eq 17, 3) := by decide +kernel
theorem d64_12 : decode prog_10_method_4_code 12 = .ok (.iload_n 1, 1) := by decide +kernel
theorem d64_13 : decode prog_10_method_4_code 13 = .ok (.sipush 300, 3) := by decide +kernel
theorem d64_16 : decode prog_10_method_4_code 16 = .ok (.if_icmp .eq 10, 3) := by decide +kernel
theorem d64_19 : decode prog_10_method_4_code 19 = .ok (.iload_n 1, 1) := by decide +kernel
theorem d64_20 : decode prog_10_method_4_code 20 = .ok (.sipush 400, 3) := by decide +kernel
theorem d64_23 : decode prog_10_method_4_code 23 = .ok (.if_icmp .ne 7, 3) := by decide +kernel
theorem d64_26 : decode prog_10_method_4_code 26 = .ok (.iconst 1, 1) := by decide +kernel
theorem d64_27 : decode prog_10_method_4_code 27 = .ok (.goto 4, 3) := by decide +kernel
theorem d64_30 : decode prog_10_method_4_code 30 = .ok (.iconst 0, 1) := by decide +kernel
theorem d64_31 : decode prog_10_method_4_code 31 = .ok (.ireturn, 1) := by decide +kernel
theorem d65_0 : decode prog_10_method_5_code 0 = .ok (.iload_n 1, 1) := by decide +kernel
theorem d65_1 : decode prog_10_method_5_code 1 = .ok (.ifCond .lt 15, 3) := by decide +kernel
theorem d65_4 : decode prog_10_method_5_code 4 = .ok (.iload_n 1, 1) := by decide +kernel
theorem d65_5 : decode prog_10_method_5_code 5 = .ok (.aload_n 0, 1) := by decide +kernel
theorem d65_6 : decode prog_10_method_5_code 6 = .ok (.getfield 7, 3) := by decide +kernel
theorem d65_9 : decode prog_10_method_5_code 9 = .ok (.if_icmp .ge 7, 3) := by decide +kernel
theorem d65_12 : decode prog_10_method_5_code 12 = .ok (.iconst 1, 1) := by decide +kernel
theorem d65_13 : decode prog_10_method_5_code 13 = .ok (.goto 4, 3) := by decide +kernel
theorem d65_16 : decode prog_10_method_5_code 16 = .ok (.iconst 0, 1) := by decide +kernel
theorem d65_17 : decode prog_10_method_5_code 17 = .ok (.ireturn, 1) := by decide +kernel
theorem d66_0 : decode prog_10_method_6_code 0 = .ok (.iload_n 1, 1) := by decide +kernel
theorem d66_1 : decode prog_10_method_6_code 1 = .ok (.ifCond .ge 7, 3) := by decide +kernel
theorem d66_4 : decode prog_10_method_6_code 4 = .ok (.iconst 0, 1) := by decide +kernel
theorem d66_5 : decode prog_10_method_6_code 5 = .ok (.goto 9, 3) := by decide +kernel
theorem d66_8 : decode prog_10_method_6_code 8 = .ok (.aload_n 0, 1) := by decide +kernel
theorem d66_9 : decode prog_10_method_6_code 9 = .ok (.getfield 38, 3) := by decide +kernel
theorem d66_12 : decode prog_10_method_6_code 12 = .ok (.iload_n 1, 1) := by decide +kernel
theorem d66_13 : decode prog_10_method_6_code 13 = .ok (.iaload, 1) := by decide +kernel
theorem d66_14 : decode prog_10_method_6_code 14 = .ok (.ireturn, 1) := by decide +kernel
theorem d67_0 : decode prog_10_method_7_code 0 = .ok (.aload_n 0, 1) := by decide +kernel
theorem d67_1 : decode prog_10_method_7_code 1 = .ok (.iload_n 1, 1) := by decide +kernel
theorem d67_2 : decode prog_10_method_7_code 2 = .ok (.invokevirtual 132, 3) := by decide +kernel
theorem d67_5 : decode prog_10_method_7_code 5 = .ok (.aload_n 0, 1) := by decide +kernel
theorem d67_6 : decode prog_10_method_7_code 6 = .ok (.iload_n 2, 1) := by decide +kernel
theorem d67_7 : decode prog_10_method_7_code 7 = .ok (.invokevirtual 132, 3) := by decide +kernel
theorem d67_10 : decode prog_10_method_7_code 10 = .ok (.if_icmp .le 11, 3) := by decide +kernel
theorem d67_13 : decode prog_10_method_7_code 13 = .ok (.aload_n 0, 1) := by decide +kernel
theorem d67_14 : decode prog_10_method_7_code 14 = .ok (.iload_n 1, 1) := by decide +kernel
theorem d67_15 : decode prog_10_method_7_code 15 = .ok (.invokevirtual 132, 3) := by decide +kernel
theorem d67_18 : decode prog_10_method_7_code 18 = .ok (.goto 8, 3) := by decide +kernel
theorem d67_21 : decode prog_10_method_7_code 21 = .ok (.aload_n 0, 1) := by decide +kernel
theorem d67_22 : decode prog_10_method_7_code 22 = .ok (.iload_n 2, 1) := by decide +kernel
theorem d67_23 : decode prog_10_method_7_code 23 = .ok (.invokevirtual 132, 3) := by decide +kernel
theorem d67_26 : decode prog_10_method_7_code 26 = .ok (.istore 4, 2) := by decide +kernel
theorem d67_28 : decode prog_10_method_7_code 28 = .ok (.iconst 1, 1) := by decide +kernel
theorem d67_29 : decode prog_10_method_7_code 29 = .ok (.iload 4, 2) := by decide +kernel
theorem d67_31 : decode prog_10_method_7_code 31 = .ok (.aload_n 0, 1) := by decide +kernel
theorem d67_32 : decode prog_10_method_7_code 32 = .ok (.iload_n 3, 1) := by decide +kernel
theorem d67_33 : decode prog_10_method_7_code 33 = .ok (.invokevirtual 132, 3) := by decide +kernel
theorem d67_36 : decode prog_10_method_7_code 36 = .ok (.if_icmp .le 8, 3) := by decide +kernel
theorem d67_39 : decode prog_10_method_7_code 39 = .ok (.iload 4, 2) := by decide +kernel
theorem d67_41 : decode prog_10_method_7_code 41 = .ok (.goto 8, 3) := by decide +kernel
theorem d67_44 : decode prog_10_method_7_code 44 = .ok (.aload_n 0, 1) := by decide +kernel
theorem d67_45 : decode prog_10_method_7_code 45 = .ok (.iload_n 3, 1) := by decide +kernel
theorem d67_46 : decode prog_10_method_7_code 46 = .ok (.invokevirtual 132, 3) := by decide +kernel
theorem d67_49 : decode prog_10_method_7_code 49 = .ok (.iadd, 1) := by decide +kernel
theorem d67_50 : decode prog_10_method_7_code 50 = .ok (.ireturn, 1) := by decide +kernel
theorem d68_0 : decode prog_10_method_8_code 0 = .ok (.iload_n 1, 1) := by decide +kernel
theorem d68_1 : decode prog_10_method_8_code 1 = .ok (.iconst 1, 1) := by decide +kernel
theorem d68_2 : decode prog_10_method_8_code 2 = .ok (.if_icmp .le 13, 3) := by decide +kernel
theorem d68_5 : decode prog_10_method_8_code 5 = .ok (.iload_n 1, 1) := by decide +kernel
theorem d68_6 : decode prog_10_method_8_code 6 = .ok (.bipush 13, 2) := by decide +kernel
theorem d68_8 : decode prog_10_method_8_code 8 = .ok (.if_icmp .ge 7, 3) := by decide +kernel
theorem d68_11 : decode prog_10_method_8_code 11 = .ok (.iconst 1, 1) := by decide +kernel
theorem d68_12 : decode prog_10_method_8_code 12 = .ok (.goto 4, 3) := by decide +kernel
theorem d68_15 : decode prog_10_method_8_code 15 = .ok (.iconst 0, 1) := by decide +kernel
theorem d68_16 : decode prog_10_method_8_code 16 = .ok (.istore 5, 2) := by decide +kernel
theorem d68_18 : decode prog_10_method_8_code 18 = .ok (.iload_n 1, 1) := by decide +kernel
theorem d68_19 : decode prog_10_method_8_code 19 = .ok (.ifCond .lt 13, 3) := by decide +kernel
theorem d68_22 : decode prog_10_method_8_code 22 = .ok (.iload_n 1, 1) := by decide +kernel
theorem d68_23 : decode prog_10_method_8_code 23 = .ok (.bipush 17, 2) := by decide +kernel
theorem d68_25 : decode prog_10_method_8_code 25 = .ok (.if_icmp .ge 7, 3) := by decide +kernel
theorem d68_28 : decode prog_10_method_8_code 28 = .ok (.iconst 1, 1) := by decide +kernel
theorem d68_29 : decode prog_10_method_8_code 29 = .ok (.goto 4, 3) := by decide +kernel
theorem d68_32 : decode prog_10_method_8_code 32 = .ok (.iconst 0, 1) := by decide +kernel
theorem d68_33 : decode prog_10_method_8_code 33 = .ok (.istore 6, 2) := by decide +kernel
theorem d68_35 : decode prog_10_method_8_code 35 = .ok (.iload_n 1, 1) := by decide +kernel
theorem d68_36 : decode prog_10_method_8_code 36 = .ok (.iconst 1, 1) := by decide +kernel
theorem d68_37 : decode prog_10_method_8_code 37 = .ok (.if_icmp .ne 19, 3) := by decide +kernel
theorem d68_40 : decode prog_10_method_8_code 40 = .ok (.iload_n 2, 1) := by decide +kernel
theorem d68_41 : decode prog_10_method_8_code 41 = .ok (.ifCond .eq 8, 3) := by decide +kernel
theorem d68_44 : decode prog_10_method_8_code 44 = .ok (.iload_n 2, 1) := by decide +kernel
theorem d68_45 : decode prog_10_method_8_code 45 = .ok (.iconst 1, 1) := by decide +kernel
theorem d68_46 : decode prog_10_method_8_code 46 = .ok (.if_icmp .ne 7, 3) := by decide +kernel
theorem d68_49 : decode prog_10_method_8_code 49 = .ok (.iconst 1, 1) := by decide +kernel
theorem d68_50 : decode prog_10_method_8_code 50 = .ok (.goto 4, 3) := by decide +kernel
theorem d68_53 : decode prog_10_method_8_code 53 = .ok (.iconst 0, 1) := by decide +kernel
theorem d68_54 : decode prog_10_method_8_code 54 = .ok (.istore 6, 2) := by decide +kernel
theorem d68_56 : decode prog_10_method_8_code 56 = .ok (.iload 5, 2) := by decide +kernel
theorem d68_58 : decode prog_10_method_8_code 58 = .ok (.ifCond .eq 26, 3) := by decide +kernel
theorem d68_61 : decode prog_10_method_8_code 61 = .ok (.aload_n 0, 1) := by decide +kernel
theorem d68_62 : decode prog_10_method_8_code 62 = .ok (.iload_n 2, 1) := by decide +kernel
theorem d68_63 : decode prog_10_method_8_code 63 = .ok (.invokevirtual 136, 3) := by decide +kernel
theorem d68_66 : decode prog_10_method_8_code 66 = .ok (.ifCond .eq 15, 3) := by decide +kernel
theorem d68_69 : decode prog_10_method_8_code 69 = .ok (.aload_n 0, 1) := by decide +kernel
theorem d68_70 : decode prog_10_method_8_code 70 = .ok (.iload_n 3, 1) := by decide +kernel
theorem d68_71 : decode prog_10_method_8_code 71 = .ok (.invokevirtual 136, 3) := by decide +kernel
theorem d68_74 : decode prog_10_method_8_code 74 = .ok (.ifCond .eq 7, 3) := by decide +kernel
theorem d68_77 : decode prog_10_method_8_code 77 = .ok (.iconst 1, 1) := by decide +kernel
theorem d68_78 : decode prog_10_method_8_code 78 = .ok (.goto 4, 3) := by decide +kernel
theorem d68_81 : decode prog_10_method_8_code 81 = .ok (.iconst 0, 1) := by decide +kernel
theorem d68_82 : decode prog_10_method_8_code 82 = .ok (.istore 6, 2) := by decide +kernel
theorem d68_84 : decode prog_10_method_8_code 84 = .ok (.iload_n 1, 1) := by decide +kernel
theorem d68_85 : decode prog_10_method_8_code 85 = .ok (.bipush 13, 2) := by decide +kernel
theorem d68_87 : decode prog_10_method_8_code 87 = .ok (.if_icmp .ne 35, 3) := by decide +kernel
theorem d68_90 : decode prog_10_method_8_code 90 = .ok (.aload_n 0, 1) := by decide +kernel
theorem d68_91 : decode prog_10_method_8_code 91 = .ok (.iload_n 2, 1) := by decide +kernel
theorem d68_92 : decode prog_10_method_8_code 92 = .ok (.invokevirtual 136, 3) := by decide +kernel
theorem d68_95 : decode prog_10_method_8_code 95 = .ok (.ifCond .eq 24, 3) := by decide +kernel
theorem d68_98 : decode prog_10_method_8_code 98 = .ok (.aload_n 0, 1) := by decide +kernel
theorem d68_99 : decode prog_10_method_8_code 99 = .ok (.iload_n 3, 1) := by decide +kernel
theorem d68_100 : decode prog_10_method_8_code 100 = .ok (.invokevirtual 136, 3) := by decide +kernel
theorem d68_103 : decode prog_10_method_8_code 103 = .ok (.ifCond .eq 16, 3) := by decide +kernel
theorem d68_106 : decode prog_10_method_8_code 106 = .ok (.aload_n 0, 1) := by decide +kernel
theorem d68_107 : decode prog_10_method_8_code 107 = .ok (.iload 4, 2) := by decide +kernel
theorem d68_109 : decode prog_10_method_8_code 109 = .ok (.invokevirtual 136, 3) := by decide +kernel
theorem d68_112 : decode prog_10_method_8_code 112 = .ok (.ifCond .eq 7, 3) := by decide +kernel
theorem d68_115 : decode prog_10_method_8_code 115 = .ok (.iconst 1, 1) := by decide +kernel
theorem d68_116 : decode prog_10_method_8_code 116 = .ok (.goto 4, 3) := by decide +kernel
theorem d68_119 : decode prog_10_method_8_code 119 = .ok (.iconst 0, 1) := by decide +kernel
theorem d68_120 : decode prog_10_method_8_code 120 = .ok (.istore 6, 2) := by decide +kernel
theorem d68_122 : decode prog_10_method_8_code 122 = .ok (.iload_n 1, 1) := by decide +kernel
theorem d68_123 : decode prog_10_method_8_code 123 = .ok (.bipush 14, 2) := by decide +kernel
theorem d68_125 : decode prog_10_method_8_code 125 = .ok (.if_icmp .ne 26, 3) := by decide +kernel
theorem d68_128 : decode prog_10_method_8_code 128 = .ok (.aload_n 0, 1) := by decide +kernel
theorem d68_129 : decode prog_10_method_8_code 129 = .ok (.iload_n 2, 1) := by decide +kernel
theorem d68_130 : decode prog_10_method_8_code 130 = .ok (.invokevirtual 136, 3) := by decide +kernel
theorem d68_133 : decode prog_10_method_8_code 133 = .ok (.ifCond .eq 15, 3) := by decide +kernel
theorem d68_136 : decode prog_10_method_8_code 136 = .ok (.aload_n 0, 1) := by decide +kernel
theorem d68_137 : decode prog_10_method_8_code 137 = .ok (.iload_n 3, 1) := by decide +kernel
theorem d68_138 : decode prog_10_method_8_code 138 = .ok (.invokevirtual 129, 3) := by decide +kernel
theorem d68_141 : decode prog_10_method_8_code 141 = .ok (.ifCond .eq 7, 3) := by decide +kernel
theorem d68_144 : decode prog_10_method_8_code 144 = .ok (.iconst 1, 1) := by decide +kernel
theorem d68_145 : decode prog_10_method_8_code 145 = .ok (.goto 4, 3) := by decide +kernel
theorem d68_148 : decode prog_10_method_8_code 148 = .ok (.iconst 0, 1) := by decide +kernel
theorem d68_149 : decode prog_10_method_8_code 149 = .ok (.istore 6, 2) := by decide +kernel
theorem d68_151 : decode prog_10_method_8_code 151 = .ok (.iload_n 1, 1) := by decide +kernel
theorem d68_152 : decode prog_10_method_8_code 152 = .ok (.bipush 15, 2) := by decide +kernel
theorem d68_154 : decode prog_10_method_8_code 154 = .ok (.if_icmp .ne 48, 3) := by decide +kernel
theorem d68_157 : decode prog_10_method_8_code 157 = .ok (.iload_n 2, 1) := by decide +kernel
theorem d68_158 : decode prog_10_method_8_code 158 = .ok (.ifCond .lt 41, 3) := by decide +kernel
theorem d68_161 : decode prog_10_method_8_code 161 = .ok (.iload_n 2, 1) := by decide +kernel
theorem d68_162 : decode prog_10_method_8_code 162 = .ok (.bipush 8, 2) := by decide +kernel
theorem d68_164 : decode prog_10_method_8_code 164 = .ok (.if_icmp .ge 35, 3) := by decide +kernel
theorem d68_167 : decode prog_10_method_8_code 167 = .ok (.iload_n 3, 1) := by decide +kernel
theorem d68_168 : decode prog_10_method_8_code 168 = .ok (.iconst (-1), 1) := by decide +kernel
theorem d68_169 : decode prog_10_method_8_code 169 = .ok (.if_icmp .eq 11, 3) := by decide +kernel
theorem d68_172 : decode prog_10_method_8_code 172 = .ok (.aload_n 0, 1) := by decide +kernel
theorem d68_173 : decode prog_10_method_8_code 173 = .ok (.iload_n 3, 1) := by decide +kernel
theorem d68_174 : decode prog_10_method_8_code 174 = .ok (.invokevirtual 136, 3) := by decide +kernel
theorem d68_177 : decode prog_10_method_8_code 177 = .ok (.ifCond .eq 22, 3) := by decide +kernel
theorem d68_180 : decode prog_10_method_8_code 180 = .ok (.iload 4, 2) := by decide +kernel
theorem d68_182 : decode prog_10_method_8_code 182 = .ok (.iconst (-1), 1) := by decide +kernel
theorem d68_183 : decode prog_10_method_8_code 183 = .ok (.if_icmp .eq 12, 3) := by decide +kernel
theorem d68_186 : decode prog_10_method_8_code 186 = .ok (.aload_n 0, 1) := by decide +kernel
theorem d68_187 : decode prog_10_method_8_code 187 = .ok (.iload 4, 2) := by decide +kernel
theorem d68_189 : decode prog_10_method_8_code 189 = .ok (.invokevirtual 136, 3) := by decide +kernel
theorem d68_192 : decode prog_10_method_8_code 192 = .ok (.ifCond .eq 7, 3) := by decide +kernel
theorem d68_195 : decode prog_10_method_8_code 195 = .ok (.iconst 1, 1) := by decide +kernel
theorem d68_196 : decode prog_10_method_8_code 196 = .ok (.goto 4, 3) := by decide +kernel
theorem d68_199 : decode prog_10_method_8_code 199 = .ok (.iconst 0, 1) := by decide +kernel
theorem d68_200 : decode prog_10_method_8_code 200 = .ok (.istore 6, 2) := by decide +kernel
theorem d68_202 : decode prog_10_method_8_code 202 = .ok (.iload_n 1, 1) := by decide +kernel
theorem d68_203 : decode prog_10_method_8_code 203 = .ok (.bipush 16, 2) := by decide +kernel
theorem d68_205 : decode prog_10_method_8_code 205 = .ok (.if_icmp .ne 10, 3) := by decide +kernel
theorem d68_208 : decode prog_10_method_8_code 208 = .ok (.aload_n 0, 1) := by decide +kernel
theorem d68_209 : decode prog_10_method_8_code 209 = .ok (.iload_n 2, 1) := by decide +kernel
theorem d68_210 : decode prog_10_method_8_code 210 = .ok (.invokevirtual 136, 3) := by decide +kernel
theorem d68_213 : decode prog_10_method_8_code 213 = .ok (.istore 6, 2) := by decide +kernel
theorem d68_215 : decode prog_10_method_8_code 215 = .ok (.iload 6, 2) := by decide +kernel
theorem d68_217 : decode prog_10_method_8_code 217 = .ok (.ifCond .eq 12, 3) := by decide +kernel
theorem d68_220 : decode prog_10_method_8_code 220 = .ok (.aload_n 0, 1) := by decide +kernel
theorem d68_221 : decode prog_10_method_8_code 221 = .ok (.getfield 7, 3) := by decide +kernel
theorem d68_224 : decode prog_10_method_8_code 224 = .ok (.bipush 60, 2) := by decide +kernel
theorem d68_226 : decode prog_10_method_8_code 226 = .ok (.if_icmp .ne 5, 3) := by decide +kernel
theorem d68_229 : decode prog_10_method_8_code 229 = .ok (.iconst (-1), 1) := by decide +kernel
theorem d68_230 : decode prog_10_method_8_code 230 = .ok (.ireturn, 1) := by decide +kernel
theorem d68_231 : decode prog_10_method_8_code 231 = .ok (.iload_n 1, 1) := by decide +kernel
theorem d68_232 : decode prog_10_method_8_code 232 = .ok (.iconst 2, 1) := by decide +kernel
theorem d68_233 : decode prog_10_method_8_code 233 = .ok (.if_icmp .ge 7, 3) := by decide +kernel
theorem d68_236 : decode prog_10_method_8_code 236 = .ok (.iconst 1, 1) := by decide +kernel
theorem d68_237 : decode prog_10_method_8_code 237 = .ok (.goto 59, 3) := by decide +kernel
theorem d68_240 : decode prog_10_method_8_code 240 = .ok (.iload 5, 2) := by decide +kernel
theorem d68_242 : decode prog_10_method_8_code 242 = .ok (.ifCond .eq 13, 3) := by decide +kernel
theorem d68_245 : decode prog_10_method_8_code 245 = .ok (.aload_n 0, 1) := by decide +kernel
theorem d68_246 : decode prog_10_method_8_code 246 = .ok (.iload_n 2, 1) := by decide +kernel
theorem d68_247 : decode prog_10_method_8_code 247 = .ok (.iload_n 3, 1) := by decide +kernel
theorem d68_248 : decode prog_10_method_8_code 248 = .ok (.iconst (-1), 1) := by decide +kernel
theorem d68_249 : decode prog_10_method_8_code 249 = .ok (.invokevirtual 139, 3) := by decide +kernel
theorem d68_252 : decode prog_10_method_8_code 252 = .ok (.goto 44, 3) := by decide +kernel
theorem d68_255 : decode prog_10_method_8_code 255 = .ok (.iload_n 1, 1) := by decide +kernel
theorem d68_256 : decode prog_10_method_8_code 256 = .ok (.bipush 13, 2) := by decide +kernel
theorem d68_258 : decode prog_10_method_8_code 258 = .ok (.if_icmp .ne 14, 3) := by decide +kernel
theorem d68_261 : decode prog_10_method_8_code 261 = .ok (.aload_n 0, 1) := by decide +kernel
theorem d68_262 : decode prog_10_method_8_code 262 = .ok (.iload_n 2, 1) := by decide +kernel
theorem d68_263 : decode prog_10_method_8_code 263 = .ok (.iload_n 3, 1) := by decide +kernel
theorem d68_264 : decode prog_10_method_8_code 264 = .ok (.iload 4, 2) := by decide +kernel
theorem d68_266 : decode prog_10_method_8_code 266 = .ok (.invokevirtual 139, 3) := by decide +kernel
theorem d68_269 : decode prog_10_method_8_code 269 = .ok (.goto 27, 3) := by decide +kernel
theorem d68_272 : decode prog_10_method_8_code 272 = .ok (.iload_n 1, 1) := by decide +kernel
theorem d68_273 : decode prog_10_method_8_code 273 = .ok (.bipush 15, 2) := by decide +kernel
theorem d68_275 : decode prog_10_method_8_code 275 = .ok (.if_icmp .ne 14, 3) := by decide +kernel
theorem d68_278 : decode prog_10_method_8_code 278 = .ok (.aload_n 0, 1) := by decide +kernel
theorem d68_279 : decode prog_10_method_8_code 279 = .ok (.iload_n 3, 1) := by decide +kernel
theorem d68_280 : decode prog_10_method_8_code 280 = .ok (.iload 4, 2) := by decide +kernel
theorem d68_282 : decode prog_10_method_8_code 282 = .ok (.iconst (-1), 1) := by decide +kernel
theorem d68_283 : decode prog_10_method_8_code 283 = .ok (.invokevirtual 139, 3) := by decide +kernel
theorem d68_286 : decode prog_10_method_8_code 286 = .ok (.goto 10, 3) := by decide +kernel
theorem d68_289 : decode prog_10_method_8_code 289 = .ok (.aload_n 0, 1) := by decide +kernel
theorem d68_290 : decode prog_10_method_8_code 290 = .ok (.iload_n 2, 1) := by decide +kernel
theorem d68_291 : decode prog_10_method_8_code 291 = .ok (.iconst (-1), 1) := by decide +kernel
theorem d68_292 : decode prog_10_method_8_code 292 = .ok (.iconst (-1), 1) := by decide +kernel
theorem d68_293 : decode prog_10_method_8_code 293 = .ok (.invokevirtual 139, 3) := by decide +kernel
theorem d68_296 : decode prog_10_method_8_code 296 = .ok (.istore 7, 2) := by decide +kernel
theorem d68_298 : decode prog_10_method_8_code 298 = .ok (.iload 7, 2) := by decide +kernel
theorem d68_300 : decode prog_10_method_8_code 300 = .ok (.bipush 8, 2) := by decide +kernel
theorem d68_302 : decode prog_10_method_8_code 302 = .ok (.if_icmp .le 5, 3) := by decide +kernel
theorem d68_305 : decode prog_10_method_8_code 305 = .ok (.iconst (-1), 1) := by decide +kernel
theorem d68_306 : decode prog_10_method_8_code 306 = .ok (.ireturn, 1) := by decide +kernel
theorem d68_307 : decode prog_10_method_8_code 307 = .ok (.aload_n 0, 1) := by decide +kernel
theorem d68_308 : decode prog_10_method_8_code 308 = .ok (.getfield 25, 3) := by decide +kernel
theorem d68_311 : decode prog_10_method_8_code 311 = .ok (.aload_n 0, 1) := by decide +kernel
theorem d68_312 : decode prog_10_method_8_code 312 = .ok (.getfield 7, 3) := by decide +kernel
theorem d68_315 : decode prog_10_method_8_code 315 = .ok (.iload_n 1, 1) := by decide +kernel
theorem d68_316 : decode prog_10_method_8_code 316 = .ok (.iastore, 1) := by decide +kernel
theorem d68_317 : decode prog_10_method_8_code 317 = .ok (.aload_n 0, 1) := by decide +kernel
theorem d68_318 : decode prog_10_method_8_code 318 = .ok (.getfield 29, 3) := by decide +kernel
theorem d68_321 : decode prog_10_method_8_code 321 = .ok (.aload_n 0, 1) := by decide +kernel
theorem d68_322 : decode prog_10_method_8_code 322 = .ok (.getfield 7, 3) := by decide +kernel
theorem d68_325 : decode prog_10_method_8_code 325 = .ok (.iload_n 2, 1) := by decide +kernel
theorem d68_326 : decode prog_10_method_8_code 326 = .ok (.iastore, 1) := by decide +kernel
theorem d68_327 : decode prog_10_method_8_code 327 = .ok (.aload_n 0, 1) := by decide +kernel
theorem d68_328 : decode prog_10_method_8_code 328 = .ok (.getfield 32, 3) := by decide +kernel
theorem d68_331 : decode prog_10_method_8_code 331 = .ok (.aload_n 0, 1) := by decide +kernel
theorem d68_332 : decode prog_10_method_8_code 332 = .ok (.getfield 7, 3) := by decide +kernel
theorem d68_335 : decode prog_10_method_8_code 335 = .ok (.iload_n 3, 1) := by decide +kernel
theorem d68_336 : decode prog_10_method_8_code 336 = .ok (.iastore, 1) := by decide +kernel
theorem d68_337 : decode prog_10_method_8_code 337 = .ok (.aload_n 0, 1) := by decide +kernel
theorem d68_338 : decode prog_10_method_8_code 338 = .ok (.getfield 35, 3) := by decide +kernel
theorem d68_341 : decode prog_10_method_8_code 341 = .ok (.aload_n 0, 1) := by decide +kernel
theorem d68_342 : decode prog_10_method_8_code 342 = .ok (.getfield 7, 3) := by decide +kernel
theorem d68_345 : decode prog_10_method_8_code 345 = .ok (.iload 4, 2) := by decide +kernel
theorem d68_347 : decode prog_10_method_8_code 347 = .ok (.iastore, 1) := by decide +kernel
theorem d68_348 : decode prog_10_method_8_code 348 = .ok (.aload_n 0, 1) := by decide +kernel
theorem d68_349 : decode prog_10_method_8_code 349 = .ok (.getfield 38, 3) := by decide +kernel
theorem d68_352 : decode prog_10_method_8_code 352 = .ok (.aload_n 0, 1) := by decide +kernel
theorem d68_353 : decode prog_10_method_8_code 353 = .ok (.getfield 7, 3) := by decide +kernel
theorem d68_356 : decode prog_10_method_8_code 356 = .ok (.iload 7, 2) := by decide +kernel
theorem d68_358 : decode prog_10_method_8_code 358 = .ok (.iastore, 1) := by decide +kernel
theorem d68_359 : decode prog_10_method_8_code 359 = .ok (.aload_n 0, 1) := by decide +kernel
theorem d68_360 : decode prog_10_method_8_code 360 = .ok (.dup, 1) := by decide +kernel
theorem d68_361 : decode prog_10_method_8_code 361 = .ok (.getfield 7, 3) := by decide +kernel
theorem d68_364 : decode prog_10_method_8_code 364 = .ok (.iconst 1, 1) := by decide +kernel
theorem d68_365 : decode prog_10_method_8_code 365 = .ok (.iadd, 1) := by decide +kernel
theorem d68_366 : decode prog_10_method_8_code 366 = .ok (.putfield 7, 3) := by decide +kernel
theorem d68_369 : decode prog_10_method_8_code 369 = .ok (.aload_n 0, 1) := by decide +kernel
theorem d68_370 : decode prog_10_method_8_code 370 = .ok (.getfield 7, 3) := by decide +kernel
theorem d68_373 : decode prog_10_method_8_code 373 = .ok (.iconst 1, 1) := by decide +kernel
theorem d68_374 : decode prog_10_method_8_code 374 = .ok (.isub, 1) := by decide +kernel
theorem d68_375 : decode prog_10_method_8_code 375 = .ok (.ireturn, 1) := by decide +kernel
theorem d69_0 : decode prog_10_method_9_code 0 = .ok (.iload_n 1, 1) := by decide +kernel
theorem d69_1 : decode prog_10_method_9_code 1 = .ok (.ifCond .lt 34, 3) := by decide +kernel
theorem d69_4 : decode prog_10_method_9_code 4 = .ok (.iload_n 1, 1) := by decide +kernel
theorem d69_5 : decode prog_10_method_9_code 5 = .ok (.bipush 7, 2) := by decide +kernel
theorem d69_7 : decode prog_10_method_9_code 7 = .ok (.if_icmp .gt 28, 3) := by decide +kernel
theorem d69_10 : decode prog_10_method_9_code 10 = .ok (.aload_n 0, 1) := by decide +kernel
theorem d69_11 : decode prog_10_method_9_code 11 = .ok (.getfield 41, 3) := by decide +kernel
theorem d69_14 : decode prog_10_method_9_code 14 = .ok (.iload_n 1, 1) := by decide +kernel
theorem d69_15 : decode prog_10_method_9_code 15 = .ok (.baload, 1) := by decide +kernel
theorem d69_16 : decode prog_10_method_9_code 16 = .ok (.ifCond .ne 19, 3) := by decide +kernel
theorem d69_19 : decode prog_10_method_9_code 19 = .ok (.aload_n 0, 1) := by decide +kernel
theorem d69_20 : decode prog_10_method_9_code 20 = .ok (.iload_n 2, 1) := by decide +kernel
theorem d69_21 : decode prog_10_method_9_code 21 = .ok (.invokevirtual 143, 3) := by decide +kernel
theorem d69_24 : decode prog_10_method_9_code 24 = .ok (.ifCond .eq 11, 3) := by decide +kernel
theorem d69_27 : decode prog_10_method_9_code 27 = .ok (.aload_n 0, 1) := by decide +kernel
theorem d69_28 : decode prog_10_method_9_code 28 = .ok (.iload_n 3, 1) := by decide +kernel
theorem d69_29 : decode prog_10_method_9_code 29 = .ok (.invokevirtual 143, 3) := by decide +kernel
theorem d69_32 : decode prog_10_method_9_code 32 = .ok (.ifCond .ne 5, 3) := by decide +kernel
theorem d69_35 : decode prog_10_method_9_code 35 = .ok (.iconst (-1), 1) := by decide +kernel
theorem d69_36 : decode prog_10_method_9_code 36 = .ok (.ireturn, 1) := by decide +kernel
theorem d69_37 : decode prog_10_method_9_code 37 = .ok (.aload_n 0, 1) := by decide +kernel
theorem d69_38 : decode prog_10_method_9_code 38 = .ok (.iload 4, 2) := by decide +kernel
theorem d69_40 : decode prog_10_method_9_code 40 = .ok (.invokevirtual 143, 3) := by decide +kernel
theorem d69_43 : decode prog_10_method_9_code 43 = .ok (.ifCond .eq 20, 3) := by decide +kernel
theorem d69_46 : decode prog_10_method_9_code 46 = .ok (.iload 4, 2) := by decide +kernel
theorem d69_48 : decode prog_10_method_9_code 48 = .ok (.sipush 299, 3) := by decide +kernel
theorem d69_51 : decode prog_10_method_9_code 51 = .ok (.if_icmp .gt 12, 3) := by decide +kernel
theorem d69_54 : decode prog_10_method_9_code 54 = .ok (.aload_n 0, 1) := by decide +kernel
theorem d69_55 : decode prog_10_method_9_code 55 = .ok (.iload 5, 2) := by decide +kernel
theorem d69_57 : decode prog_10_method_9_code 57 = .ok (.invokevirtual 136, 3) := by decide +kernel
theorem d69_60 : decode prog_10_method_9_code 60 = .ok (.ifCond .ne 5, 3) := by decide +kernel
theorem d69_63 : decode prog_10_method_9_code 63 = .ok (.iconst (-1), 1) := by decide +kernel
theorem d69_64 : decode prog_10_method_9_code 64 = .ok (.ireturn, 1) := by decide +kernel
theorem d69_65 : decode prog_10_method_9_code 65 = .ok (.aload_n 0, 1) := by decide +kernel
theorem d69_66 : decode prog_10_method_9_code 66 = .ok (.getfield 41, 3) := by decide +kernel
theorem d69_69 : decode prog_10_method_9_code 69 = .ok (.iload_n 1, 1) := by decide +kernel
theorem d69_70 : decode prog_10_method_9_code 70 = .ok (.iconst 1, 1) := by decide +kernel
theorem d69_71 : decode prog_10_method_9_code 71 = .ok (.bastore, 1) := by decide +kernel
theorem d69_72 : decode prog_10_method_9_code 72 = .ok (.aload_n 0, 1) := by decide +kernel
theorem d69_73 : decode prog_10_method_9_code 73 = .ok (.getfield 45, 3) := by decide +kernel
theorem d69_76 : decode prog_10_method_9_code 76 = .ok (.iload_n 1, 1) := by decide +kernel
theorem d69_77 : decode prog_10_method_9_code 77 = .ok (.iload_n 2, 1) := by decide +kernel
theorem d69_78 : decode prog_10_method_9_code 78 = .ok (.iastore, 1) := by decide +kernel
theorem d69_79 : decode prog_10_method_9_code 79 = .ok (.aload_n 0, 1) := by decide +kernel
theorem d69_80 : decode prog_10_method_9_code 80 = .ok (.getfield 48, 3) := by decide +kernel
theorem d69_83 : decode prog_10_method_9_code 83 = .ok (.iload_n 1, 1) := by decide +kernel
theorem d69_84 : decode prog_10_method_9_code 84 = .ok (.iload_n 3, 1) := by decide +kernel
theorem d69_85 : decode prog_10_method_9_code 85 = .ok (.iastore, 1) := by decide +kernel
theorem d69_86 : decode prog_10_method_9_code 86 = .ok (.aload_n 0, 1) := by decide +kernel
theorem d69_87 : decode prog_10_method_9_code 87 = .ok (.getfield 51, 3) := by decide +kernel
theorem d69_90 : decode prog_10_method_9_code 90 = .ok (.iload_n 1, 1) := by decide +kernel
theorem d69_91 : decode prog_10_method_9_code 91 = .ok (.iload 4, 2) := by decide +kernel
theorem d69_93 : decode prog_10_method_9_code 93 = .ok (.iastore, 1) := by decide +kernel
theorem d69_94 : decode prog_10_method_9_code 94 = .ok (.aload_n 0, 1) := by decide +kernel
theorem d69_95 : decode prog_10_method_9_code 95 = .ok (.getfield 54, 3) := by decide +kernel
theorem d69_98 : decode prog_10_method_9_code 98 = .ok (.iload_n 1, 1) := by decide +kernel
theorem d69_99 : decode prog_10_method_9_code 99 = .ok (.iload 5, 2) := by decide +kernel
theorem d69_101 : decode prog_10_method_9_code 101 = .ok (.iastore, 1) := by decide +kernel
theorem d69_102 : decode prog_10_method_9_code 102 = .ok (.iconst 0, 1) := by decide +kernel
theorem d69_103 : decode prog_10_method_9_code 103 = .ok (.ireturn, 1) := by decide +kernel
theorem d70_0 : decode prog_10_method_10_code 0 = .ok (.iload_n 2, 1) := by decide +kernel
theorem d70_1 : decode prog_10_method_10_code 1 = .ok (.bipush 100, 2) := by decide +kernel
theorem d70_3 : decode prog_10_method_10_code 3 = .ok (.if_icmp .lt 10, 3) := by decide +kernel
theorem d70_6 : decode prog_10_method_10_code 6 = .ok (.iload_n 2, 1) := by decide +kernel
theorem d70_7 : decode prog_10_method_10_code 7 = .ok (.sipush 299, 3) := by decide +kernel
theorem d70_10 : decode prog_10_method_10_code 10 = .ok (.if_icmp .le 5, 3) := by decide +kernel
theorem d70_13 : decode prog_10_method_10_code 13 = .ok (.iload_n 2, 1) := by decide +kernel
theorem d70_14 : decode prog_10_method_10_code 14 = .ok (.ireturn, 1) := by decide +kernel
theorem d70_15 : decode prog_10_method_10_code 15 = .ok (.iload_n 2, 1) := by decide +kernel
theorem d70_16 : decode prog_10_method_10_code 16 = .ok (.bipush 100, 2) := by decide +kernel
theorem d70_18 : decode prog_10_method_10_code 18 = .ok (.irem, 1) := by decide +kernel
theorem d70_19 : decode prog_10_method_10_code 19 = .ok (.istore_n 3, 1) := by decide +kernel
theorem d70_20 : decode prog_10_method_10_code 20 = .ok (.iload_n 3, 1) := by decide +kernel
theorem d70_21 : decode prog_10_method_10_code 21 = .ok (.ifCond .ne 17, 3) := by decide +kernel
theorem d70_24 : decode prog_10_method_10_code 24 = .ok (.aload_n 0, 1) := by decide +kernel
theorem d70_25 : decode prog_10_method_10_code 25 = .ok (.getfield 45, 3) := by decide +kernel
theorem d70_28 : decode prog_10_method_10_code 28 = .ok (.aload_n 0, 1) := by decide +kernel
theorem d70_29 : decode prog_10_method_10_code 29 = .ok (.getfield 57, 3) := by decide +kernel
theorem d70_32 : decode prog_10_method_10_code 32 = .ok (.iload_n 1, 1) := by decide +kernel
theorem d70_33 : decode prog_10_method_10_code 33 = .ok (.iaload, 1) := by decide +kernel
theorem d70_34 : decode prog_10_method_10_code 34 = .ok (.iaload, 1) := by decide +kernel
theorem d70_35 : decode prog_10_method_10_code 35 = .ok (.goto 14, 3) := by decide +kernel
theorem d70_38 : decode prog_10_method_10_code 38 = .ok (.aload_n 0, 1) := by decide +kernel
theorem d70_39 : decode prog_10_method_10_code 39 = .ok (.getfield 48, 3) := by decide +kernel
theorem d70_42 : decode prog_10_method_10_code 42 = .ok (.aload_n 0, 1) := by decide +kernel
theorem d70_43 : decode prog_10_method_10_code 43 = .ok (.getfield 57, 3) := by decide +kernel
theorem d70_46 : decode prog_10_method_10_code 46 = .ok (.iload_n 1, 1) := by decide +kernel
theorem d70_47 : decode prog_10_method_10_code 47 = .ok (.iaload, 1) := by decide +kernel
theorem d70_48 : decode prog_10_method_10_code 48 = .ok (.iaload, 1) := by decide +kernel
theorem d70_49 : decode prog_10_method_10_code 49 = .ok (.sipush 300, 3) := by decide +kernel
theorem d70_52 : decode prog_10_method_10_code 52 = .ok (.if_icmp .eq 7, 3) := by decide +kernel
theorem d70_55 : decode prog_10_method_10_code 55 = .ok (.sipush 500, 3) := by decide +kernel
theorem d70_58 : decode prog_10_method_10_code 58 = .ok (.ireturn, 1) := by decide +kernel
theorem d70_59 : decode prog_10_method_10_code 59 = .ok (.iload_n 3, 1) := by decide +kernel
theorem d70_60 : decode prog_10_method_10_code 60 = .ok (.ifCond .ne 12, 3) := by decide +kernel
theorem d70_63 : decode prog_10_method_10_code 63 = .ok (.aload_n 0, 1) := by decide +kernel
theorem d70_64 : decode prog_10_method_10_code 64 = .ok (.getfield 119, 3) := by decide +kernel
theorem d70_67 : decode prog_10_method_10_code 67 = .ok (.iload_n 1, 1) := by decide +kernel
theorem d70_68 : decode prog_10_method_10_code 68 = .ok (.laload, 1) := by decide +kernel
theorem d70_69 : decode prog_10_method_10_code 69 = .ok (.goto 9, 3) := by decide +kernel
theorem d70_72 : decode prog_10_method_10_code 72 = .ok (.aload_n 0, 1) := by decide +kernel
theorem d70_73 : decode prog_10_method_10_code 73 = .ok (.getfield 122, 3) := by decide +kernel
theorem d70_76 : decode prog_10_method_10_code 76 = .ok (.iload_n 1, 1) := by decide +kernel
theorem d70_77 : decode prog_10_method_10_code 77 = .ok (.laload, 1) := by decide +kernel
theorem d70_78 : decode prog_10_method_10_code 78 = .ok (.lstore 4, 2) := by decide +kernel
theorem d70_80 : decode prog_10_method_10_code 80 = .ok (.lload 4, 2) := by decide +kernel
theorem d70_82 : decode prog_10_method_10_code 82 = .ok (.ldc2_w 146, 3) := by decide +kernel
theorem d70_85 : decode prog_10_method_10_code 85 = .ok (.lcmp, 1) := by decide +kernel
theorem d70_86 : decode prog_10_method_10_code 86 = .ok (.ifCond .gt 10, 3) := by decide +kernel
theorem d70_89 : decode prog_10_method_10_code 89 = .ok (.lload 4, 2) := by decide +kernel
theorem d70_91 : decode prog_10_method_10_code 91 = .ok (.lconst 1, 1) := by decide +kernel
theorem d70_92 : decode prog_10_method_10_code 92 = .ok (.lcmp, 1) := by decide +kernel
theorem d70_93 : decode prog_10_method_10_code 93 = .ok (.ifCond .ge 7, 3) := by decide +kernel
theorem d70_96 : decode prog_10_method_10_code 96 = .ok (.iconst 0, 1) := by decide +kernel
theorem d70_97 : decode prog_10_method_10_code 97 = .ok (.goto 6, 3) := by decide +kernel
theorem d70_100 : decode prog_10_method_10_code 100 = .ok (.lload 4, 2) := by decide +kernel
theorem d70_102 : decode prog_10_method_10_code 102 = .ok (.l2i, 1) := by decide +kernel
theorem d70_103 : decode prog_10_method_10_code 103 = .ok (.istore 6, 2) := by decide +kernel
theorem d70_105 : decode prog_10_method_10_code 105 = .ok (.aload_n 0, 1) := by decide +kernel
theorem d70_106 : decode prog_10_method_10_code 106 = .ok (.iload 6, 2) := by decide +kernel
theorem d70_108 : decode prog_10_method_10_code 108 = .ok (.invokevirtual 125, 3) := by decide +kernel
theorem d70_111 : decode prog_10_method_10_code 111 = .ok (.ifCond .ne 7, 3) := by decide +kernel
theorem d70_114 : decode prog_10_method_10_code 114 = .ok (.sipush 500, 3) := by decide +kernel
theorem d70_117 : decode prog_10_method_10_code 117 = .ok (.ireturn, 1) := by decide +kernel
theorem d70_118 : decode prog_10_method_10_code 118 = .ok (.iload_n 2, 1) := by decide +kernel
theorem d70_119 : decode prog_10_method_10_code 119 = .ok (.sipush 200, 3) := by decide +kernel
theorem d70_122 : decode prog_10_method_10_code 122 = .ok (.if_icmp .ge 8, 3) := by decide +kernel
theorem d70_125 : decode prog_10_method_10_code 125 = .ok (.iload 6, 2) := by decide +kernel
theorem d70_127 : decode prog_10_method_10_code 127 = .ok (.goto 6, 3) := by decide +kernel
theorem d70_130 : decode prog_10_method_10_code 130 = .ok (.iload 6, 2) := by decide +kernel
theorem d70_132 : decode prog_10_method_10_code 132 = .ok (.ineg, 1) := by decide +kernel
theorem d70_133 : decode prog_10_method_10_code 133 = .ok (.ireturn, 1) := by decide +kernel
theorem d71_0 : decode prog_10_method_11_code 0 = .ok (.aload_n 0, 1) := by decide +kernel
theorem d71_1 : decode prog_10_method_11_code 1 = .ok (.iload_n 1, 1) := by decide +kernel
theorem d71_2 : decode prog_10_method_11_code 2 = .ok (.invokevirtual 125, 3) := by decide +kernel
theorem d71_5 : decode prog_10_method_11_code 5 = .ok (.ifCond .ne 12, 3) := by decide +kernel
theorem d71_8 : decode prog_10_method_11_code 8 = .ok (.aload_n 0, 1) := by decide +kernel
theorem d71_9 : decode prog_10_method_11_code 9 = .ok (.iload_n 1, 1) := by decide +kernel
theorem d71_10 : decode prog_10_method_11_code 10 = .ok (.ineg, 1) := by decide +kernel
theorem d71_11 : decode prog_10_method_11_code 11 = .ok (.invokevirtual 125, 3) := by decide +kernel
theorem d71_14 : decode prog_10_method_11_code 14 = .ok (.ifCond .eq 7, 3) := by decide +kernel
theorem d71_17 : decode prog_10_method_11_code 17 = .ok (.iconst 1, 1) := by decide +kernel
theorem d71_18 : decode prog_10_method_11_code 18 = .ok (.goto 4, 3) := by decide +kernel
theorem d71_21 : decode prog_10_method_11_code 21 = .ok (.iconst 0, 1) := by decide +kernel
theorem d71_22 : decode prog_10_method_11_code 22 = .ok (.ireturn, 1) := by decide +kernel
theorem d72_0 : decode prog_10_method_12_code 0 = .ok (.iload_n 1, 1) := by decide +kernel
theorem d72_1 : decode prog_10_method_12_code 1 = .ok (.sipush 300, 3) := by decide +kernel
theorem d72_4 : decode prog_10_method_12_code 4 = .ok (.if_icmp .ne 9, 3) := by decide +kernel
theorem d72_7 : decode prog_10_method_12_code 7 = .ok (.ldc2_w 148, 3) := by decide +kernel
theorem d72_10 : decode prog_10_method_12_code 10 = .ok (.goto 17, 3) := by decide +kernel
theorem d72_13 : decode prog_10_method_12_code 13 = .ok (.iload_n 1, 1) := by decide +kernel
theorem d72_14 : decode prog_10_method_12_code 14 = .ok (.ifCond .le 12, 3) := by decide +kernel
theorem d72_17 : decode prog_10_method_12_code 17 = .ok (.lconst 1, 1) := by decide +kernel
theorem d72_18 : decode prog_10_method_12_code 18 = .ok (.iload_n 1, 1) := by decide +kernel
theorem d72_19 : decode prog_10_method_12_code 19 = .ok (.iconst 1, 1) := by decide +kernel
theorem d72_20 : decode prog_10_method_12_code 20 = .ok (.isub, 1) := by decide +kernel
theorem d72_21 : decode prog_10_method_12_code 21 = .ok (.lshl, 1) := by decide +kernel
theorem d72_22 : decode prog_10_method_12_code 22 = .ok (.lneg, 1) := by decide +kernel
theorem d72_23 : decode prog_10_method_12_code 23 = .ok (.goto 4, 3) := by decide +kernel
theorem d72_26 : decode prog_10_method_12_code 26 = .ok (.lconst 0, 1) := by decide +kernel
theorem d72_27 : decode prog_10_method_12_code 27 = .ok (.lreturn, 1) := by decide +kernel
theorem d73_0 : decode prog_10_method_13_code 0 = .ok (.iload_n 1, 1) := by decide +kernel
theorem d73_1 : decode prog_10_method_13_code 1 = .ok (.sipush 300, 3) := by decide +kernel
theorem d73_4 : decode prog_10_method_13_code 4 = .ok (.if_icmp .ne 9, 3) := by decide +kernel
theorem d73_7 : decode prog_10_method_13_code 7 = .ok (.ldc2_w 150, 3) := by decide +kernel
theorem d73_10 : decode prog_10_method_13_code 10 = .ok (.goto 23, 3) := by decide +kernel
theorem d73_13 : decode prog_10_method_13_code 13 = .ok (.iload_n 1, 1) := by decide +kernel
theorem d73_14 : decode prog_10_method_13_code 14 = .ok (.ifCond .le 13, 3) := by decide +kernel
theorem d73_17 : decode prog_10_method_13_code 17 = .ok (.lconst 1, 1) := by decide +kernel
theorem d73_18 : decode prog_10_method_13_code 18 = .ok (.iload_n 1, 1) := by decide +kernel
theorem d73_19 : decode prog_10_method_13_code 19 = .ok (.iconst 1, 1) := by decide +kernel
theorem d73_20 : decode prog_10_method_13_code 20 = .ok (.isub, 1) := by decide +kernel
theorem d73_21 : decode prog_10_method_13_code 21 = .ok (.lshl, 1) := by decide +kernel
theorem d73_22 : decode prog_10_method_13_code 22 = .ok (.lconst 1, 1) := by decide +kernel
theorem d73_23 : decode prog_10_method_13_code 23 = .ok (.lsub, 1) := by decide +kernel
theorem d73_24 : decode prog_10_method_13_code 24 = .ok (.goto 9, 3) := by decide +kernel
theorem d73_27 : decode prog_10_method_13_code 27 = .ok (.lconst 1, 1) := by decide +kernel
theorem d73_28 : decode prog_10_method_13_code 28 = .ok (.iload_n 1, 1) := by decide +kernel
theorem d73_29 : decode prog_10_method_13_code 29 = .ok (.ineg, 1) := by decide +kernel
theorem d73_30 : decode prog_10_method_13_code 30 = .ok (.lshl, 1) := by decide +kernel
theorem d73_31 : decode prog_10_method_13_code 31 = .ok (.lconst 1, 1) := by decide +kernel
theorem d73_32 : decode prog_10_method_13_code 32 = .ok (.lsub, 1) := by decide +kernel
theorem d73_33 : decode prog_10_method_13_code 33 = .ok (.lreturn, 1) := by decide +kernel
theorem d74_0 : decode prog_10_method_14_code 0 = .ok (.lload_n 2, 1) := by decide +kernel
theorem d74_1 : decode prog_10_method_14_code 1 = .ok (.aload_n 0, 1) := by decide +kernel
theorem d74_2 : decode prog_10_method_14_code 2 = .ok (.iload_n 1, 1) := by decide +kernel
theorem d74_3 : decode prog_10_method_14_code 3 = .ok (.invokevirtual 152, 3) := by decide +kernel
theorem d74_6 : decode prog_10_method_14_code 6 = .ok (.lcmp, 1) := by decide +kernel
theorem d74_7 : decode prog_10_method_14_code 7 = .ok (.ifCond .lt 17, 3) := by decide +kernel
theorem d74_10 : decode prog_10_method_14_code 10 = .ok (.lload_n 2, 1) := by decide +kernel
theorem d74_11 : decode prog_10_method_14_code 11 = .ok (.aload_n 0, 1) := by decide +kernel
theorem d74_12 : decode prog_10_method_14_code 12 = .ok (.iload_n 1, 1) := by decide +kernel
theorem d74_13 : decode prog_10_method_14_code 13 = .ok (.invokevirtual 156, 3) := by decide +kernel
theorem d74_16 : decode prog_10_method_14_code 16 = .ok (.lcmp, 1) := by decide +kernel
theorem d74_17 : decode prog_10_method_14_code 17 = .ok (.ifCond .gt 7, 3) := by decide +kernel
theorem d74_20 : decode prog_10_method_14_code 20 = .ok (.iconst 1, 1) := by decide +kernel
theorem d74_21 : decode prog_10_method_14_code 21 = .ok (.goto 4, 3) := by decide +kernel
theorem d74_24 : decode prog_10_method_14_code 24 = .ok (.iconst 0, 1) := by decide +kernel
theorem d74_25 : decode prog_10_method_14_code 25 = .ok (.ireturn, 1) := by decide +kernel
theorem d75_0 : decode prog_10_method_15_code 0 = .ok (.aload_n 0, 1) := by decide +kernel
theorem d75_1 : decode prog_10_method_15_code 1 = .ok (.iload_n 1, 1) := by decide +kernel
theorem d75_2 : decode prog_10_method_15_code 2 = .ok (.putfield 13, 3) := by decide +kernel
theorem d75_5 : decode prog_10_method_15_code 5 = .ok (.aload_n 0, 1) := by decide +kernel
theorem d75_6 : decode prog_10_method_15_code 6 = .ok (.bipush 64, 2) := by decide +kernel
theorem d75_8 : decode prog_10_method_15_code 8 = .ok (.aload_n 0, 1) := by decide +kernel
theorem d75_9 : decode prog_10_method_15_code 9 = .ok (.getfield 57, 3) := by decide +kernel
theorem d75_12 : decode prog_10_method_15_code 12 = .ok (.iload_n 2, 1) := by decide +kernel
theorem d75_13 : decode prog_10_method_15_code 13 = .ok (.iaload, 1) := by decide +kernel
theorem d75_14 : decode prog_10_method_15_code 14 = .ok (.imul, 1) := by decide +kernel
theorem d75_15 : decode prog_10_method_15_code 15 = .ok (.iload_n 3, 1) := by decide +kernel
theorem d75_16 : decode prog_10_method_15_code 16 = .ok (.iadd, 1) := by decide +kernel
theorem d75_17 : decode prog_10_method_15_code 17 = .ok (.putfield 16, 3) := by decide +kernel
theorem d75_20 : decode prog_10_method_15_code 20 = .ok (.iconst (-1), 1) := by decide +kernel
theorem d75_21 : decode prog_10_method_15_code 21 = .ok (.ireturn, 1) := by decide +kernel
theorem d76_0 : decode prog_10_method_16_code 0 = .ok (.iload_n 2, 1) := by decide +kernel
theorem d76_1 : decode prog_10_method_16_code 1 = .ok (.ifCond .ne 12, 3) := by decide +kernel
theorem d76_4 : decode prog_10_method_16_code 4 = .ok (.aload_n 0, 1) := by decide +kernel
theorem d76_5 : decode prog_10_method_16_code 5 = .ok (.getfield 45, 3) := by decide +kernel
theorem d76_8 : decode prog_10_method_16_code 8 = .ok (.iload_n 1, 1) := by decide +kernel
theorem d76_9 : decode prog_10_method_16_code 9 = .ok (.iaload, 1) := by decide +kernel
theorem d76_10 : decode prog_10_method_16_code 10 = .ok (.goto 9, 3) := by decide +kernel
theorem d76_13 : decode prog_10_method_16_code 13 = .ok (.aload_n 0, 1) := by decide +kernel
theorem d76_14 : decode prog_10_method_16_code 14 = .ok (.getfield 48, 3) := by decide +kernel
theorem d76_17 : decode prog_10_method_16_code 17 = .ok (.iload_n 1, 1) := by decide +kernel
theorem d76_18 : decode prog_10_method_16_code 18 = .ok (.iaload, 1) := by decide +kernel
theorem d76_19 : decode prog_10_method_16_code 19 = .ok (.ireturn, 1) := by decide +kernel
theorem d77_0 : decode prog_10_method_17_code 0 = .ok (.aload_n 0, 1) := by decide +kernel
theorem d77_1 : decode prog_10_method_17_code 1 = .ok (.getfield 29, 3) := by decide +kernel
theorem d77_4 : decode prog_10_method_17_code 4 = .ok (.iload_n 1, 1) := by decide +kernel
theorem d77_5 : decode prog_10_method_17_code 5 = .ok (.iaload, 1) := by decide +kernel
theorem d77_6 : decode prog_10_method_17_code 6 = .ok (.istore_n 2, 1) := by decide +kernel
theorem d77_7 : decode prog_10_method_17_code 7 = .ok (.aload_n 0, 1) := by decide +kernel
theorem d77_8 : decode prog_10_method_17_code 8 = .ok (.getfield 41, 3) := by decide +kernel
theorem d77_11 : decode prog_10_method_17_code 11 = .ok (.iload_n 2, 1) := by decide +kernel
theorem d77_12 : decode prog_10_method_17_code 12 = .ok (.baload, 1) := by decide +kernel
theorem d77_13 : decode prog_10_method_17_code 13 = .ok (.ifCond .eq 71, 3) := by decide +kernel
theorem d77_16 : decode prog_10_method_17_code 16 = .ok (.aload_n 0, 1) := by decide +kernel
theorem d77_17 : decode prog_10_method_17_code 17 = .ok (.getfield 32, 3) := by decide +kernel
theorem d77_20 : decode prog_10_method_17_code 20 = .ok (.iload_n 1, 1) := by decide +kernel
theorem d77_21 : decode prog_10_method_17_code 21 = .ok (.iaload, 1) := by decide +kernel
theorem d77_22 : decode prog_10_method_17_code 22 = .ok (.ifCond .lt 7, 3) := by decide +kernel
theorem d77_25 : decode prog_10_method_17_code 25 = .ok (.iconst 1, 1) := by decide +kernel
theorem d77_26 : decode prog_10_method_17_code 26 = .ok (.goto 4, 3) := by decide +kernel
theorem d77_29 : decode prog_10_method_17_code 29 = .ok (.iconst 0, 1) := by decide +kernel
theorem d77_30 : decode prog_10_method_17_code 30 = .ok (.aload_n 0, 1) := by decide +kernel
theorem d77_31 : decode prog_10_method_17_code 31 = .ok (.getfield 45, 3) := by decide +kernel
theorem d77_34 : decode prog_10_method_17_code 34 = .ok (.iload_n 2, 1) := by decide +kernel
theorem d77_35 : decode prog_10_method_17_code 35 = .ok (.iaload, 1) := by decide +kernel
theorem d77_36 : decode prog_10_method_17_code 36 = .ok (.sipush 400, 3) := by decide +kernel
theorem d77_39 : decode prog_10_method_17_code 39 = .ok (.if_icmp .eq 7, 3) := by decide +kernel
theorem d77_42 : decode prog_10_method_17_code 42 = .ok (.iconst 1, 1) := by decide +kernel
theorem d77_43 : decode prog_10_method_17_code 43 = .ok (.goto 4, 3) := by decide +kernel
theorem d77_46 : decode prog_10_method_17_code 46 = .ok (.iconst 0, 1) := by decide +kernel
theorem d77_47 : decode prog_10_method_17_code 47 = .ok (.if_icmp .ne 37, 3) := by decide +kernel
theorem d77_50 : decode prog_10_method_17_code 50 = .ok (.aload_n 0, 1) := by decide +kernel
theorem d77_51 : decode prog_10_method_17_code 51 = .ok (.getfield 35, 3) := by decide +kernel
theorem d77_54 : decode prog_10_method_17_code 54 = .ok (.iload_n 1, 1) := by decide +kernel
theorem d77_55 : decode prog_10_method_17_code 55 = .ok (.iaload, 1) := by decide +kernel
theorem d77_56 : decode prog_10_method_17_code 56 = .ok (.ifCond .lt 7, 3) := by decide +kernel
theorem d77_59 : decode prog_10_method_17_code 59 = .ok (.iconst 1, 1) := by decide +kernel
theorem d77_60 : decode prog_10_method_17_code 60 = .ok (.goto 4, 3) := by decide +kernel
theorem d77_63 : decode prog_10_method_17_code 63 = .ok (.iconst 0, 1) := by decide +kernel
theorem d77_64 : decode prog_10_method_17_code 64 = .ok (.aload_n 0, 1) := by decide +kernel
theorem d77_65 : decode prog_10_method_17_code 65 = .ok (.getfield 48, 3) := by decide +kernel
theorem d77_68 : decode prog_10_method_17_code 68 = .ok (.iload_n 2, 1) := by decide +kernel
theorem d77_69 : decode prog_10_method_17_code 69 = .ok (.iaload, 1) := by decide +kernel
theorem d77_70 : decode prog_10_method_17_code 70 = .ok (.sipush 400, 3) := by decide +kernel
theorem d77_73 : decode prog_10_method_17_code 73 = .ok (.if_icmp .eq 7, 3) := by decide +kernel
theorem d77_76 : decode prog_10_method_17_code 76 = .ok (.iconst 1, 1) := by decide +kernel
theorem d77_77 : decode prog_10_method_17_code 77 = .ok (.goto 4, 3) := by decide +kernel
theorem d77_80 : decode prog_10_method_17_code 80 = .ok (.iconst 0, 1) := by decide +kernel
theorem d77_81 : decode prog_10_method_17_code 81 = .ok (.if_icmp .eq 7, 3) := by decide +kernel
theorem d77_84 : decode prog_10_method_17_code 84 = .ok (.iconst 1, 1) := by decide +kernel
theorem d77_85 : decode prog_10_method_17_code 85 = .ok (.goto 4, 3) := by decide +kernel
theorem d77_88 : decode prog_10_method_17_code 88 = .ok (.iconst 0, 1) := by decide +kernel
theorem d77_89 : decode prog_10_method_17_code 89 = .ok (.ireturn, 1) := by decide +kernel
theorem d78_0 : decode prog_10_method_18_code 0 = .ok (.aload_n 0, 1) := by decide +kernel
theorem d78_1 : decode prog_10_method_18_code 1 = .ok (.getfield 25, 3) := by decide +kernel
theorem d78_4 : decode prog_10_method_18_code 4 = .ok (.iload_n 2, 1) := by decide +kernel
theorem d78_5 : decode prog_10_method_18_code 5 = .ok (.iaload, 1) := by decide +kernel
theorem d78_6 : decode prog_10_method_18_code 6 = .ok (.istore_n 3, 1) := by decide +kernel
theorem d78_7 : decode prog_10_method_18_code 7 = .ok (.iload_n 1, 1) := by decide +kernel
theorem d78_8 : decode prog_10_method_18_code 8 = .ok (.bipush 60, 2) := by decide +kernel
theorem d78_10 : decode prog_10_method_18_code 10 = .ok (.imul, 1) := by decide +kernel
theorem d78_11 : decode prog_10_method_18_code 11 = .ok (.istore 4, 2) := by decide +kernel
theorem d78_13 : decode prog_10_method_18_code 13 = .ok (.iload_n 3, 1) := by decide +kernel
theorem d78_14 : decode prog_10_method_18_code 14 = .ok (.iconst 2, 1) := by decide +kernel
theorem d78_15 : decode prog_10_method_18_code 15 = .ok (.if_icmp .ge 5, 3) := by decide +kernel
theorem d78_18 : decode prog_10_method_18_code 18 = .ok (.iconst (-1), 1) := by decide +kernel
theorem d78_19 : decode prog_10_method_18_code 19 = .ok (.ireturn, 1) := by decide +kernel
theorem d78_20 : decode prog_10_method_18_code 20 = .ok (.iload_n 3, 1) := by decide +kernel
theorem d78_21 : decode prog_10_method_18_code 21 = .ok (.bipush 15, 2) := by decide +kernel
theorem d78_23 : decode prog_10_method_18_code 23 = .ok (.if_icmp .ne 90, 3) := by decide +kernel
theorem d78_26 : decode prog_10_method_18_code 26 = .ok (.aload_n 0, 1) := by decide +kernel
theorem d78_27 : decode prog_10_method_18_code 27 = .ok (.iload_n 2, 1) := by decide +kernel
theorem d78_28 : decode prog_10_method_18_code 28 = .ok (.invokevirtual 159, 3) := by decide +kernel
theorem d78_31 : decode prog_10_method_18_code 31 = .ok (.ifCond .eq 12, 3) := by decide +kernel
theorem d78_34 : decode prog_10_method_18_code 34 = .ok (.aload_n 0, 1) := by decide +kernel
theorem d78_35 : decode prog_10_method_18_code 35 = .ok (.bipush (-6), 2) := by decide +kernel
theorem d78_37 : decode prog_10_method_18_code 37 = .ok (.iload_n 1, 1) := by decide +kernel
theorem d78_38 : decode prog_10_method_18_code 38 = .ok (.iload_n 2, 1) := by decide +kernel
theorem d78_39 : decode prog_10_method_18_code 39 = .ok (.invokevirtual 162, 3) := by decide +kernel
theorem d78_42 : decode prog_10_method_18_code 42 = .ok (.ireturn, 1) := by decide +kernel
theorem d78_43 : decode prog_10_method_18_code 43 = .ok (.aload_n 0, 1) := by decide +kernel
theorem d78_44 : decode prog_10_method_18_code 44 = .ok (.getfield 32, 3) := by decide +kernel
theorem d78_47 : decode prog_10_method_18_code 47 = .ok (.iload_n 2, 1) := by decide +kernel
theorem d78_48 : decode prog_10_method_18_code 48 = .ok (.iaload, 1) := by decide +kernel
theorem d78_49 : decode prog_10_method_18_code 49 = .ok (.ifCond .lt 27, 3) := by decide +kernel
theorem d78_52 : decode prog_10_method_18_code 52 = .ok (.aload_n 0, 1) := by decide +kernel
theorem d78_53 : decode prog_10_method_18_code 53 = .ok (.getfield 66, 3) := by decide +kernel
theorem d78_56 : decode prog_10_method_18_code 56 = .ok (.iload 4, 2) := by decide +kernel
theorem d78_58 : decode prog_10_method_18_code 58 = .ok (.aload_n 0, 1) := by decide +kernel
theorem d78_59 : decode prog_10_method_18_code 59 = .ok (.getfield 32, 3) := by decide +kernel
theorem d78_62 : decode prog_10_method_18_code 62 = .ok (.iload_n 2, 1) := by decide +kernel
theorem d78_63 : decode prog_10_method_18_code 63 = .ok (.iaload, 1) := by decide +kernel
theorem d78_64 : decode prog_10_method_18_code 64 = .ok (.iadd, 1) := by decide +kernel
theorem d78_65 : decode prog_10_method_18_code 65 = .ok (.baload, 1) := by decide +kernel
theorem d78_66 : decode prog_10_method_18_code 66 = .ok (.ifCond .ne 10, 3) := by decide +kernel
theorem d78_69 : decode prog_10_method_18_code 69 = .ok (.aload_n 0, 1) := by decide +kernel
theorem d78_70 : decode prog_10_method_18_code 70 = .ok (.getfield 32, 3) := by decide +kernel
theorem d78_73 : decode prog_10_method_18_code 73 = .ok (.iload_n 2, 1) := by decide +kernel
theorem d78_74 : decode prog_10_method_18_code 74 = .ok (.iaload, 1) := by decide +kernel
theorem d78_75 : decode prog_10_method_18_code 75 = .ok (.ireturn, 1) := by decide +kernel
theorem d78_76 : decode prog_10_method_18_code 76 = .ok (.aload_n 0, 1) := by decide +kernel
theorem d78_77 : decode prog_10_method_18_code 77 = .ok (.getfield 35, 3) := by decide +kernel
theorem d78_80 : decode prog_10_method_18_code 80 = .ok (.iload_n 2, 1) := by decide +kernel
theorem d78_81 : decode prog_10_method_18_code 81 = .ok (.iaload, 1) := by decide +kernel
theorem d78_82 : decode prog_10_method_18_code 82 = .ok (.ifCond .lt 29, 3) := by decide +kernel
theorem d78_85 : decode prog_10_method_18_code 85 = .ok (.aload_n 0, 1) := by decide +kernel
theorem d78_86 : decode prog_10_method_18_code 86 = .ok (.getfield 66, 3) := by decide +kernel
theorem d78_89 : decode prog_10_method_18_code 89 = .ok (.iload 4, 2) := by decide +kernel
theorem d78_91 : decode prog_10_method_18_code 91 = .ok (.aload_n 0, 1) := by decide +kernel
theorem d78_92 : decode prog_10_method_18_code 92 = .ok (.getfield 35, 3) := by decide +kernel
theorem d78_95 : decode prog_10_method_18_code 95 = .ok (.iload_n 2, 1) := by decide +kernel
theorem d78_96 : decode prog_10_method_18_code 96 = .ok (.iaload, 1) := by decide +kernel
theorem d78_97 : decode prog_10_method_18_code 97 = .ok (.iadd, 1) := by decide +kernel
theorem d78_98 : decode prog_10_method_18_code 98 = .ok (.baload, 1) := by decide +kernel
theorem d78_99 : decode prog_10_method_18_code 99 = .ok (.ifCond .ne 12, 3) := by decide +kernel
theorem d78_102 : decode prog_10_method_18_code 102 = .ok (.aload_n 0, 1) := by decide +kernel
theorem d78_103 : decode prog_10_method_18_code 103 = .ok (.getfield 35, 3) := by decide +kernel
theorem d78_106 : decode prog_10_method_18_code 106 = .ok (.iload_n 2, 1) := by decide +kernel
theorem d78_107 : decode prog_10_method_18_code 107 = .ok (.iaload, 1) := by decide +kernel
theorem d78_108 : decode prog_10_method_18_code 108 = .ok (.goto 4, 3) := by decide +kernel
theorem d78_111 : decode prog_10_method_18_code 111 = .ok (.iconst (-1), 1) := by decide +kernel
theorem d78_112 : decode prog_10_method_18_code 112 = .ok (.ireturn, 1) := by decide +kernel
theorem d78_113 : decode prog_10_method_18_code 113 = .ok (.aload_n 0, 1) := by decide +kernel
theorem d78_114 : decode prog_10_method_18_code 114 = .ok (.getfield 66, 3) := by decide +kernel
theorem d78_117 : decode prog_10_method_18_code 117 = .ok (.iload 4, 2) := by decide +kernel
theorem d78_119 : decode prog_10_method_18_code 119 = .ok (.aload_n 0, 1) := by decide +kernel
theorem d78_120 : decode prog_10_method_18_code 120 = .ok (.getfield 29, 3) := by decide +kernel
theorem d78_123 : decode prog_10_method_18_code 123 = .ok (.iload_n 2, 1) := by decide +kernel
theorem d78_124 : decode prog_10_method_18_code 124 = .ok (.iaload, 1) := by decide +kernel
theorem d78_125 : decode prog_10_method_18_code 125 = .ok (.iadd, 1) := by decide +kernel
theorem d78_126 : decode prog_10_method_18_code 126 = .ok (.baload, 1) := by decide +kernel
theorem d78_127 : decode prog_10_method_18_code 127 = .ok (.ifCond .ne 10, 3) := by decide +kernel
theorem d78_130 : decode prog_10_method_18_code 130 = .ok (.aload_n 0, 1) := by decide +kernel
theorem d78_131 : decode prog_10_method_18_code 131 = .ok (.getfield 29, 3) := by decide +kernel
theorem d78_134 : decode prog_10_method_18_code 134 = .ok (.iload_n 2, 1) := by decide +kernel
theorem d78_135 : decode prog_10_method_18_code 135 = .ok (.iaload, 1) := by decide +kernel
theorem d78_136 : decode prog_10_method_18_code 136 = .ok (.ireturn, 1) := by decide +kernel
theorem d78_137 : decode prog_10_method_18_code 137 = .ok (.iload_n 3, 1) := by decide +kernel
theorem d78_138 : decode prog_10_method_18_code 138 = .ok (.bipush 14, 2) := by decide +kernel
theorem d78_140 : decode prog_10_method_18_code 140 = .ok (.if_icmp .eq 9, 3) := by decide +kernel
theorem d78_143 : decode prog_10_method_18_code 143 = .ok (.iload_n 3, 1) := by decide +kernel
theorem d78_144 : decode prog_10_method_18_code 144 = .ok (.bipush 16, 2) := by decide +kernel
theorem d78_146 : decode prog_10_method_18_code 146 = .ok (.if_icmp .ne 5, 3) := by decide +kernel
theorem d78_149 : decode prog_10_method_18_code 149 = .ok (.iconst (-1), 1) := by decide +kernel
theorem d78_150 : decode prog_10_method_18_code 150 = .ok (.ireturn, 1) := by decide +kernel
theorem d78_151 : decode prog_10_method_18_code 151 = .ok (.iload_n 3, 1) := by decide +kernel
theorem d78_152 : decode prog_10_method_18_code 152 = .ok (.bipush 13, 2) := by decide +kernel
theorem d78_154 : decode prog_10_method_18_code 154 = .ok (.if_icmp .ne 29, 3) := by decide +kernel
theorem d78_157 : decode prog_10_method_18_code 157 = .ok (.aload_n 0, 1) := by decide +kernel
theorem d78_158 : decode prog_10_method_18_code 158 = .ok (.getfield 72, 3) := by decide +kernel
theorem d78_161 : decode prog_10_method_18_code 161 = .ok (.iload 4, 2) := by decide +kernel
theorem d78_163 : decode prog_10_method_18_code 163 = .ok (.aload_n 0, 1) := by decide +kernel
theorem d78_164 : decode prog_10_method_18_code 164 = .ok (.getfield 29, 3) := by decide +kernel
theorem d78_167 : decode prog_10_method_18_code 167 = .ok (.iload_n 2, 1) := by decide +kernel
theorem d78_168 : decode prog_10_method_18_code 168 = .ok (.iaload, 1) := by decide +kernel
theorem d78_169 : decode prog_10_method_18_code 169 = .ok (.iadd, 1) := by decide +kernel
theorem d78_170 : decode prog_10_method_18_code 170 = .ok (.iaload, 1) := by decide +kernel
theorem d78_171 : decode prog_10_method_18_code 171 = .ok (.ifCond .eq 12, 3) := by decide +kernel
theorem d78_174 : decode prog_10_method_18_code 174 = .ok (.aload_n 0, 1) := by decide +kernel
theorem d78_175 : decode prog_10_method_18_code 175 = .ok (.bipush (-2), 2) := by decide +kernel
theorem d78_177 : decode prog_10_method_18_code 177 = .ok (.iload_n 1, 1) := by decide +kernel
theorem d78_178 : decode prog_10_method_18_code 178 = .ok (.iload_n 2, 1) := by decide +kernel
theorem d78_179 : decode prog_10_method_18_code 179 = .ok (.invokevirtual 162, 3) := by decide +kernel
theorem d78_182 : decode prog_10_method_18_code 182 = .ok (.ireturn, 1) := by decide +kernel
theorem d78_183 : decode prog_10_method_18_code 183 = .ok (.iload_n 3, 1) := by decide +kernel
theorem d78_184 : decode prog_10_method_18_code 184 = .ok (.bipush 13, 2) := by decide +kernel
theorem d78_186 : decode prog_10_method_18_code 186 = .ok (.if_icmp .ne 24, 3) := by decide +kernel
theorem d78_189 : decode prog_10_method_18_code 189 = .ok (.aload_n 0, 1) := by decide +kernel
theorem d78_190 : decode prog_10_method_18_code 190 = .ok (.getfield 69, 3) := by decide +kernel
theorem d78_193 : decode prog_10_method_18_code 193 = .ok (.iload 4, 2) := by decide +kernel
theorem d78_195 : decode prog_10_method_18_code 195 = .ok (.aload_n 0, 1) := by decide +kernel
theorem d78_196 : decode prog_10_method_18_code 196 = .ok (.getfield 29, 3) := by decide +kernel
theorem d78_199 : decode prog_10_method_18_code 199 = .ok (.iload_n 2, 1) := by decide +kernel
theorem d78_200 : decode prog_10_method_18_code 200 = .ok (.iaload, 1) := by decide +kernel
theorem d78_201 : decode prog_10_method_18_code 201 = .ok (.iadd, 1) := by decide +kernel
theorem d78_202 : decode prog_10_method_18_code 202 = .ok (.baload, 1) := by decide +kernel
theorem d78_203 : decode prog_10_method_18_code 203 = .ok (.ifCond .eq 7, 3) := by decide +kernel
theorem d78_206 : decode prog_10_method_18_code 206 = .ok (.iconst 1, 1) := by decide +kernel
theorem d78_207 : decode prog_10_method_18_code 207 = .ok (.goto 4, 3) := by decide +kernel
theorem d78_210 : decode prog_10_method_18_code 210 = .ok (.iconst 0, 1) := by decide +kernel
theorem d78_211 : decode prog_10_method_18_code 211 = .ok (.istore 5, 2) := by decide +kernel
theorem d78_213 : decode prog_10_method_18_code 213 = .ok (.iload 5, 2) := by decide +kernel
theorem d78_215 : decode prog_10_method_18_code 215 = .ok (.ifCond .eq 26, 3) := by decide +kernel
theorem d78_218 : decode prog_10_method_18_code 218 = .ok (.aload_n 0, 1) := by decide +kernel
theorem d78_219 : decode prog_10_method_18_code 219 = .ok (.getfield 78, 3) := by decide +kernel
theorem d78_222 : decode prog_10_method_18_code 222 = .ok (.iload 4, 2) := by decide +kernel
theorem d78_224 : decode prog_10_method_18_code 224 = .ok (.aload_n 0, 1) := by decide +kernel
theorem d78_225 : decode prog_10_method_18_code 225 = .ok (.getfield 29, 3) := by decide +kernel
theorem d78_228 : decode prog_10_method_18_code 228 = .ok (.iload_n 2, 1) := by decide +kernel
theorem d78_229 : decode prog_10_method_18_code 229 = .ok (.iaload, 1) := by decide +kernel
theorem d78_230 : decode prog_10_method_18_code 230 = .ok (.iadd, 1) := by decide +kernel
theorem d78_231 : decode prog_10_method_18_code 231 = .ok (.laload, 1) := by decide +kernel
theorem d78_232 : decode prog_10_method_18_code 232 = .ok (.lconst 1, 1) := by decide +kernel
theorem d78_233 : decode prog_10_method_18_code 233 = .ok (.lcmp, 1) := by decide +kernel
theorem d78_234 : decode prog_10_method_18_code 234 = .ok (.ifCond .ne 7, 3) := by decide +kernel
theorem d78_237 : decode prog_10_method_18_code 237 = .ok (.iconst 1, 1) := by decide +kernel
theorem d78_238 : decode prog_10_method_18_code 238 = .ok (.goto 4, 3) := by decide +kernel
theorem d78_241 : decode prog_10_method_18_code 241 = .ok (.iconst 0, 1) := by decide +kernel
theorem d78_242 : decode prog_10_method_18_code 242 = .ok (.istore 6, 2) := by decide +kernel
theorem d78_244 : decode prog_10_method_18_code 244 = .ok (.iload 5, 2) := by decide +kernel
theorem d78_246 : decode prog_10_method_18_code 246 = .ok (.ifCond .eq 8, 3) := by decide +kernel
theorem d78_249 : decode prog_10_method_18_code 249 = .ok (.iload 6, 2) := by decide +kernel
theorem d78_251 : decode prog_10_method_18_code 251 = .ok (.ifCond .eq 27, 3) := by decide +kernel
theorem d78_254 : decode prog_10_method_18_code 254 = .ok (.aload_n 0, 1) := by decide +kernel
theorem d78_255 : decode prog_10_method_18_code 255 = .ok (.getfield 66, 3) := by decide +kernel
theorem d78_258 : decode prog_10_method_18_code 258 = .ok (.iload 4, 2) := by decide +kernel
theorem d78_260 : decode prog_10_method_18_code 260 = .ok (.aload_n 0, 1) := by decide +kernel
theorem d78_261 : decode prog_10_method_18_code 261 = .ok (.getfield 32, 3) := by decide +kernel
theorem d78_264 : decode prog_10_method_18_code 264 = .ok (.iload_n 2, 1) := by decide +kernel
theorem d78_265 : decode prog_10_method_18_code 265 = .ok (.iaload, 1) := by decide +kernel
theorem d78_266 : decode prog_10_method_18_code 266 = .ok (.iadd, 1) := by decide +kernel
theorem d78_267 : decode prog_10_method_18_code 267 = .ok (.baload, 1) := by decide +kernel
theorem d78_268 : decode prog_10_method_18_code 268 = .ok (.ifCond .ne 10, 3) := by decide +kernel
theorem d78_271 : decode prog_10_method_18_code 271 = .ok (.aload_n 0, 1) := by decide +kernel
theorem d78_272 : decode prog_10_method_18_code 272 = .ok (.getfield 32, 3) := by decide +kernel
theorem d78_275 : decode prog_10_method_18_code 275 = .ok (.iload_n 2, 1) := by decide +kernel
theorem d78_276 : decode prog_10_method_18_code 276 = .ok (.iaload, 1) := by decide +kernel
theorem d78_277 : decode prog_10_method_18_code 277 = .ok (.ireturn, 1) := by decide +kernel
theorem d78_278 : decode prog_10_method_18_code 278 = .ok (.iload_n 3, 1) := by decide +kernel
theorem d78_279 : decode prog_10_method_18_code 279 = .ok (.bipush 13, 2) := by decide +kernel
theorem d78_281 : decode prog_10_method_18_code 281 = .ok (.if_icmp .ne 39, 3) := by decide +kernel
theorem d78_284 : decode prog_10_method_18_code 284 = .ok (.iload 5, 2) := by decide +kernel
theorem d78_286 : decode prog_10_method_18_code 286 = .ok (.ifCond .eq 8, 3) := by decide +kernel
theorem d78_289 : decode prog_10_method_18_code 289 = .ok (.iload 6, 2) := by decide +kernel
theorem d78_291 : decode prog_10_method_18_code 291 = .ok (.ifCond .ne 29, 3) := by decide +kernel
theorem d78_294 : decode prog_10_method_18_code 294 = .ok (.aload_n 0, 1) := by decide +kernel
theorem d78_295 : decode prog_10_method_18_code 295 = .ok (.getfield 66, 3) := by decide +kernel
theorem d78_298 : decode prog_10_method_18_code 298 = .ok (.iload 4, 2) := by decide +kernel
theorem d78_300 : decode prog_10_method_18_code 300 = .ok (.aload_n 0, 1) := by decide +kernel
theorem d78_301 : decode prog_10_method_18_code 301 = .ok (.getfield 35, 3) := by decide +kernel
theorem d78_304 : decode prog_10_method_18_code 304 = .ok (.iload_n 2, 1) := by decide +kernel
theorem d78_305 : decode prog_10_method_18_code 305 = .ok (.iaload, 1) := by decide +kernel
theorem d78_306 : decode prog_10_method_18_code 306 = .ok (.iadd, 1) := by decide +kernel
theorem d78_307 : decode prog_10_method_18_code 307 = .ok (.baload, 1) := by decide +kernel
theorem d78_308 : decode prog_10_method_18_code 308 = .ok (.ifCond .ne 12, 3) := by decide +kernel
theorem d78_311 : decode prog_10_method_18_code 311 = .ok (.aload_n 0, 1) := by decide +kernel
theorem d78_312 : decode prog_10_method_18_code 312 = .ok (.getfield 35, 3) := by decide +kernel
theorem d78_315 : decode prog_10_method_18_code 315 = .ok (.iload_n 2, 1) := by decide +kernel
theorem d78_316 : decode prog_10_method_18_code 316 = .ok (.iaload, 1) := by decide +kernel
theorem d78_317 : decode prog_10_method_18_code 317 = .ok (.goto 4, 3) := by decide +kernel
theorem d78_320 : decode prog_10_method_18_code 320 = .ok (.iconst (-1), 1) := by decide +kernel
theorem d78_321 : decode prog_10_method_18_code 321 = .ok (.ireturn, 1) := by decide +kernel
end
section
/-! decode rows, printed by a program of mine out of the listing -/
theorem d79_0 : decode prog_10_method_19_code 0 = .ok (.aload_n 0, 1) := by decide +kernel
theorem d79_1 : decode prog_10_method_19_code 1 = .ok (.getfield 66, 3) := by decide +kernel
theorem d79_4 : decode prog_10_method_19_code 4 = .ok (.iload_n 1, 1) := by decide +kernel
theorem d79_5 : decode prog_10_method_19_code 5 = .ok (.bipush 60, 2) := by decide +kernel
theorem d79_7 : decode prog_10_method_19_code 7 = .ok (.imul, 1) := by decide +kernel
theorem d79_8 : decode prog_10_method_19_code 8 = .ok (.iload_n 2, 1) := by decide +kernel
theorem d79_9 : decode prog_10_method_19_code 9 = .ok (.iadd, 1) := by decide +kernel
theorem d79_10 : decode prog_10_method_19_code 10 = .ok (.iconst 1, 1) := by decide +kernel
theorem d79_11 : decode prog_10_method_19_code 11 = .ok (.bastore, 1) := by decide +kernel
theorem d79_12 : decode prog_10_method_19_code 12 = .ok (.aload_n 0, 1) := by decide +kernel
theorem d79_13 : decode prog_10_method_19_code 13 = .ok (.getfield 72, 3) := by decide +kernel
theorem d79_16 : decode prog_10_method_19_code 16 = .ok (.iload_n 1, 1) := by decide +kernel
theorem d79_17 : decode prog_10_method_19_code 17 = .ok (.bipush 60, 2) := by decide +kernel
theorem d79_19 : decode prog_10_method_19_code 19 = .ok (.imul, 1) := by decide +kernel
theorem d79_20 : decode prog_10_method_19_code 20 = .ok (.iload_n 2, 1) := by decide +kernel
theorem d79_21 : decode prog_10_method_19_code 21 = .ok (.iadd, 1) := by decide +kernel
theorem d79_22 : decode prog_10_method_19_code 22 = .ok (.iload_n 3, 1) := by decide +kernel
theorem d79_23 : decode prog_10_method_19_code 23 = .ok (.iastore, 1) := by decide +kernel
theorem d79_24 : decode prog_10_method_19_code 24 = .ok (.aload_n 0, 1) := by decide +kernel
theorem d79_25 : decode prog_10_method_19_code 25 = .ok (.getfield 69, 3) := by decide +kernel
theorem d79_28 : decode prog_10_method_19_code 28 = .ok (.iload_n 1, 1) := by decide +kernel
theorem d79_29 : decode prog_10_method_19_code 29 = .ok (.bipush 60, 2) := by decide +kernel
theorem d79_31 : decode prog_10_method_19_code 31 = .ok (.imul, 1) := by decide +kernel
theorem d79_32 : decode prog_10_method_19_code 32 = .ok (.iload_n 2, 1) := by decide +kernel
theorem d79_33 : decode prog_10_method_19_code 33 = .ok (.iadd, 1) := by decide +kernel
theorem d79_34 : decode prog_10_method_19_code 34 = .ok (.iload 4, 2) := by decide +kernel
theorem d79_36 : decode prog_10_method_19_code 36 = .ok (.bastore, 1) := by decide +kernel
theorem d79_37 : decode prog_10_method_19_code 37 = .ok (.aload_n 0, 1) := by decide +kernel
theorem d79_38 : decode prog_10_method_19_code 38 = .ok (.getfield 78, 3) := by decide +kernel
theorem d79_41 : decode prog_10_method_19_code 41 = .ok (.iload_n 1, 1) := by decide +kernel
theorem d79_42 : decode prog_10_method_19_code 42 = .ok (.bipush 60, 2) := by decide +kernel
theorem d79_44 : decode prog_10_method_19_code 44 = .ok (.imul, 1) := by decide +kernel
theorem d79_45 : decode prog_10_method_19_code 45 = .ok (.iload_n 2, 1) := by decide +kernel
theorem d79_46 : decode prog_10_method_19_code 46 = .ok (.iadd, 1) := by decide +kernel
theorem d79_47 : decode prog_10_method_19_code 47 = .ok (.iload 4, 2) := by decide +kernel
theorem d79_49 : decode prog_10_method_19_code 49 = .ok (.ifCond .eq 8, 3) := by decide +kernel
theorem d79_52 : decode prog_10_method_19_code 52 = .ok (.lload 5, 2) := by decide +kernel
theorem d79_54 : decode prog_10_method_19_code 54 = .ok (.goto 4, 3) := by decide +kernel
theorem d79_57 : decode prog_10_method_19_code 57 = .ok (.lconst 0, 1) := by decide +kernel
theorem d79_58 : decode prog_10_method_19_code 58 = .ok (.lastore, 1) := by decide +kernel
theorem d79_59 : decode prog_10_method_19_code 59 = .ok (.return_, 1) := by decide +kernel
theorem d80_0 : decode prog_10_method_20_code 0 = .ok (.aload_n 0, 1) := by decide +kernel
theorem d80_1 : decode prog_10_method_20_code 1 = .ok (.getfield 72, 3) := by decide +kernel
theorem d80_4 : decode prog_10_method_20_code 4 = .ok (.iload_n 1, 1) := by decide +kernel
theorem d80_5 : decode prog_10_method_20_code 5 = .ok (.bipush 60, 2) := by decide +kernel
theorem d80_7 : decode prog_10_method_20_code 7 = .ok (.imul, 1) := by decide +kernel
theorem d80_8 : decode prog_10_method_20_code 8 = .ok (.iload_n 3, 1) := by decide +kernel
theorem d80_9 : decode prog_10_method_20_code 9 = .ok (.iadd, 1) := by decide +kernel
theorem d80_10 : decode prog_10_method_20_code 10 = .ok (.iaload, 1) := by decide +kernel
theorem d80_11 : decode prog_10_method_20_code 11 = .ok (.istore 5, 2) := by decide +kernel
theorem d80_13 : decode prog_10_method_20_code 13 = .ok (.aload_n 0, 1) := by decide +kernel
theorem d80_14 : decode prog_10_method_20_code 14 = .ok (.getfield 72, 3) := by decide +kernel
theorem d80_17 : decode prog_10_method_20_code 17 = .ok (.iload_n 1, 1) := by decide +kernel
theorem d80_18 : decode prog_10_method_20_code 18 = .ok (.bipush 60, 2) := by decide +kernel
theorem d80_20 : decode prog_10_method_20_code 20 = .ok (.imul, 1) := by decide +kernel
theorem d80_21 : decode prog_10_method_20_code 21 = .ok (.iload 4, 2) := by decide +kernel
theorem d80_23 : decode prog_10_method_20_code 23 = .ok (.iadd, 1) := by decide +kernel
theorem d80_24 : decode prog_10_method_20_code 24 = .ok (.iaload, 1) := by decide +kernel
theorem d80_25 : decode prog_10_method_20_code 25 = .ok (.istore 6, 2) := by decide +kernel
theorem d80_27 : decode prog_10_method_20_code 27 = .ok (.iload 5, 2) := by decide +kernel
theorem d80_29 : decode prog_10_method_20_code 29 = .ok (.iload 6, 2) := by decide +kernel
theorem d80_31 : decode prog_10_method_20_code 31 = .ok (.if_icmp .ne 6, 3) := by decide +kernel
theorem d80_34 : decode prog_10_method_20_code 34 = .ok (.iload 5, 2) := by decide +kernel
theorem d80_36 : decode prog_10_method_20_code 36 = .ok (.ireturn, 1) := by decide +kernel
theorem d80_37 : decode prog_10_method_20_code 37 = .ok (.iload 5, 2) := by decide +kernel
theorem d80_39 : decode prog_10_method_20_code 39 = .ok (.sipush 300, 3) := by decide +kernel
theorem d80_42 : decode prog_10_method_20_code 42 = .ok (.if_icmp .ne 12, 3) := by decide +kernel
theorem d80_45 : decode prog_10_method_20_code 45 = .ok (.aload_n 0, 1) := by decide +kernel
theorem d80_46 : decode prog_10_method_20_code 46 = .ok (.iload 6, 2) := by decide +kernel
theorem d80_48 : decode prog_10_method_20_code 48 = .ok (.invokevirtual 165, 3) := by decide +kernel
theorem d80_51 : decode prog_10_method_20_code 51 = .ok (.ifCond .ne 20, 3) := by decide +kernel
theorem d80_54 : decode prog_10_method_20_code 54 = .ok (.iload 6, 2) := by decide +kernel
theorem d80_56 : decode prog_10_method_20_code 56 = .ok (.sipush 300, 3) := by decide +kernel
theorem d80_59 : decode prog_10_method_20_code 59 = .ok (.if_icmp .ne 16, 3) := by decide +kernel
theorem d80_62 : decode prog_10_method_20_code 62 = .ok (.aload_n 0, 1) := by decide +kernel
theorem d80_63 : decode prog_10_method_20_code 63 = .ok (.iload 5, 2) := by decide +kernel
theorem d80_65 : decode prog_10_method_20_code 65 = .ok (.invokevirtual 165, 3) := by decide +kernel
theorem d80_68 : decode prog_10_method_20_code 68 = .ok (.ifCond .eq 7, 3) := by decide +kernel
theorem d80_71 : decode prog_10_method_20_code 71 = .ok (.iconst 1, 1) := by decide +kernel
theorem d80_72 : decode prog_10_method_20_code 72 = .ok (.goto 4, 3) := by decide +kernel
theorem d80_75 : decode prog_10_method_20_code 75 = .ok (.iconst 0, 1) := by decide +kernel
theorem d80_76 : decode prog_10_method_20_code 76 = .ok (.istore 7, 2) := by decide +kernel
theorem d80_78 : decode prog_10_method_20_code 78 = .ok (.iload 7, 2) := by decide +kernel
theorem d80_80 : decode prog_10_method_20_code 80 = .ok (.ifCond .ne 15, 3) := by decide +kernel
theorem d80_83 : decode prog_10_method_20_code 83 = .ok (.aload_n 0, 1) := by decide +kernel
theorem d80_84 : decode prog_10_method_20_code 84 = .ok (.bipush (-2), 2) := by decide +kernel
theorem d80_86 : decode prog_10_method_20_code 86 = .ok (.iload_n 1, 1) := by decide +kernel
theorem d80_87 : decode prog_10_method_20_code 87 = .ok (.iload_n 2, 1) := by decide +kernel
theorem d80_88 : decode prog_10_method_20_code 88 = .ok (.invokevirtual 162, 3) := by decide +kernel
theorem d80_91 : decode prog_10_method_20_code 91 = .ok (.pop, 1) := by decide +kernel
theorem d80_92 : decode prog_10_method_20_code 92 = .ok (.goto 58, 3) := by decide +kernel
theorem d80_95 : decode prog_10_method_20_code 95 = .ok (.aload_n 0, 1) := by decide +kernel
theorem d80_96 : decode prog_10_method_20_code 96 = .ok (.iload 5, 2) := by decide +kernel
theorem d80_98 : decode prog_10_method_20_code 98 = .ok (.sipush 300, 3) := by decide +kernel
theorem d80_101 : decode prog_10_method_20_code 101 = .ok (.if_icmp .ne 8, 3) := by decide +kernel
theorem d80_104 : decode prog_10_method_20_code 104 = .ok (.iload 6, 2) := by decide +kernel
theorem d80_106 : decode prog_10_method_20_code 106 = .ok (.goto 5, 3) := by decide +kernel
theorem d80_109 : decode prog_10_method_20_code 109 = .ok (.iload 5, 2) := by decide +kernel
theorem d80_111 : decode prog_10_method_20_code 111 = .ok (.aload_n 0, 1) := by decide +kernel
theorem d80_112 : decode prog_10_method_20_code 112 = .ok (.getfield 78, 3) := by decide +kernel
theorem d80_115 : decode prog_10_method_20_code 115 = .ok (.iload_n 1, 1) := by decide +kernel
theorem d80_116 : decode prog_10_method_20_code 116 = .ok (.bipush 60, 2) := by decide +kernel
theorem d80_118 : decode prog_10_method_20_code 118 = .ok (.imul, 1) := by decide +kernel
theorem d80_119 : decode prog_10_method_20_code 119 = .ok (.iload 5, 2) := by decide +kernel
theorem d80_121 : decode prog_10_method_20_code 121 = .ok (.sipush 300, 3) := by decide +kernel
theorem d80_124 : decode prog_10_method_20_code 124 = .ok (.if_icmp .ne 7, 3) := by decide +kernel
theorem d80_127 : decode prog_10_method_20_code 127 = .ok (.iload_n 3, 1) := by decide +kernel
theorem d80_128 : decode prog_10_method_20_code 128 = .ok (.goto 5, 3) := by decide +kernel
theorem d80_131 : decode prog_10_method_20_code 131 = .ok (.iload 4, 2) := by decide +kernel
theorem d80_133 : decode prog_10_method_20_code 133 = .ok (.iadd, 1) := by decide +kernel
theorem d80_134 : decode prog_10_method_20_code 134 = .ok (.laload, 1) := by decide +kernel
theorem d80_135 : decode prog_10_method_20_code 135 = .ok (.invokevirtual 168, 3) := by decide +kernel
theorem d80_138 : decode prog_10_method_20_code 138 = .ok (.ifCond .ne 12, 3) := by decide +kernel
theorem d80_141 : decode prog_10_method_20_code 141 = .ok (.aload_n 0, 1) := by decide +kernel
theorem d80_142 : decode prog_10_method_20_code 142 = .ok (.bipush (-3), 2) := by decide +kernel
theorem d80_144 : decode prog_10_method_20_code 144 = .ok (.iload_n 1, 1) := by decide +kernel
theorem d80_145 : decode prog_10_method_20_code 145 = .ok (.iload_n 2, 1) := by decide +kernel
theorem d80_146 : decode prog_10_method_20_code 146 = .ok (.invokevirtual 162, 3) := by decide +kernel
theorem d80_149 : decode prog_10_method_20_code 149 = .ok (.pop, 1) := by decide +kernel
theorem d80_150 : decode prog_10_method_20_code 150 = .ok (.aload_n 0, 1) := by decide +kernel
theorem d80_151 : decode prog_10_method_20_code 151 = .ok (.getfield 13, 3) := by decide +kernel
theorem d80_154 : decode prog_10_method_20_code 154 = .ok (.ifCond .eq 9, 3) := by decide +kernel
theorem d80_157 : decode prog_10_method_20_code 157 = .ok (.sipush 500, 3) := by decide +kernel
theorem d80_160 : decode prog_10_method_20_code 160 = .ok (.goto 18, 3) := by decide +kernel
theorem d80_163 : decode prog_10_method_20_code 163 = .ok (.iload 5, 2) := by decide +kernel
theorem d80_165 : decode prog_10_method_20_code 165 = .ok (.sipush 300, 3) := by decide +kernel
theorem d80_168 : decode prog_10_method_20_code 168 = .ok (.if_icmp .ne 8, 3) := by decide +kernel
theorem d80_171 : decode prog_10_method_20_code 171 = .ok (.iload 6, 2) := by decide +kernel
theorem d80_173 : decode prog_10_method_20_code 173 = .ok (.goto 5, 3) := by decide +kernel
theorem d80_176 : decode prog_10_method_20_code 176 = .ok (.iload 5, 2) := by decide +kernel
theorem d80_178 : decode prog_10_method_20_code 178 = .ok (.ireturn, 1) := by decide +kernel
theorem d81_0 : decode prog_10_method_21_code 0 = .ok (.iload_n 1, 1) := by decide +kernel
theorem d81_1 : decode prog_10_method_21_code 1 = .ok (.bipush 11, 2) := by decide +kernel
theorem d81_3 : decode prog_10_method_21_code 3 = .ok (.if_icmp .ne 16, 3) := by decide +kernel
theorem d81_6 : decode prog_10_method_21_code 6 = .ok (.lload_n 3, 1) := by decide +kernel
theorem d81_7 : decode prog_10_method_21_code 7 = .ok (.lload 5, 2) := by decide +kernel
theorem d81_9 : decode prog_10_method_21_code 9 = .ok (.lcmp, 1) := by decide +kernel
theorem d81_10 : decode prog_10_method_21_code 10 = .ok (.ifCond .ge 7, 3) := by decide +kernel
theorem d81_13 : decode prog_10_method_21_code 13 = .ok (.lconst 1, 1) := by decide +kernel
theorem d81_14 : decode prog_10_method_21_code 14 = .ok (.goto 4, 3) := by decide +kernel
theorem d81_17 : decode prog_10_method_21_code 17 = .ok (.lconst 0, 1) := by decide +kernel
theorem d81_18 : decode prog_10_method_21_code 18 = .ok (.lreturn, 1) := by decide +kernel
theorem d81_19 : decode prog_10_method_21_code 19 = .ok (.iload_n 1, 1) := by decide +kernel
theorem d81_20 : decode prog_10_method_21_code 20 = .ok (.bipush 12, 2) := by decide +kernel
theorem d81_22 : decode prog_10_method_21_code 22 = .ok (.if_icmp .ne 16, 3) := by decide +kernel
theorem d81_25 : decode prog_10_method_21_code 25 = .ok (.lload_n 3, 1) := by decide +kernel
theorem d81_26 : decode prog_10_method_21_code 26 = .ok (.lload 5, 2) := by decide +kernel
theorem d81_28 : decode prog_10_method_21_code 28 = .ok (.lcmp, 1) := by decide +kernel
theorem d81_29 : decode prog_10_method_21_code 29 = .ok (.ifCond .ne 7, 3) := by decide +kernel
theorem d81_32 : decode prog_10_method_21_code 32 = .ok (.lconst 1, 1) := by decide +kernel
theorem d81_33 : decode prog_10_method_21_code 33 = .ok (.goto 4, 3) := by decide +kernel
theorem d81_36 : decode prog_10_method_21_code 36 = .ok (.lconst 0, 1) := by decide +kernel
theorem d81_37 : decode prog_10_method_21_code 37 = .ok (.lreturn, 1) := by decide +kernel
theorem d81_38 : decode prog_10_method_21_code 38 = .ok (.iload_n 1, 1) := by decide +kernel
theorem d81_39 : decode prog_10_method_21_code 39 = .ok (.iconst 5, 1) := by decide +kernel
theorem d81_40 : decode prog_10_method_21_code 40 = .ok (.if_icmp .ne 19, 3) := by decide +kernel
theorem d81_43 : decode prog_10_method_21_code 43 = .ok (.lload 5, 2) := by decide +kernel
theorem d81_45 : decode prog_10_method_21_code 45 = .ok (.lconst 0, 1) := by decide +kernel
theorem d81_46 : decode prog_10_method_21_code 46 = .ok (.lcmp, 1) := by decide +kernel
theorem d81_47 : decode prog_10_method_21_code 47 = .ok (.ifCond .ne 12, 3) := by decide +kernel
theorem d81_50 : decode prog_10_method_21_code 50 = .ok (.aload_n 0, 1) := by decide +kernel
theorem d81_51 : decode prog_10_method_21_code 51 = .ok (.ldc2_w 172, 3) := by decide +kernel
theorem d81_54 : decode prog_10_method_21_code 54 = .ok (.putfield 116, 3) := by decide +kernel
theorem d81_57 : decode prog_10_method_21_code 57 = .ok (.lconst 0, 1) := by decide +kernel
theorem d81_58 : decode prog_10_method_21_code 58 = .ok (.lreturn, 1) := by decide +kernel
theorem d81_59 : decode prog_10_method_21_code 59 = .ok (.iload_n 1, 1) := by decide +kernel
theorem d81_60 : decode prog_10_method_21_code 60 = .ok (.bipush 6, 2) := by decide +kernel
theorem d81_62 : decode prog_10_method_21_code 62 = .ok (.if_icmp .ge 7, 3) := by decide +kernel
theorem d81_65 : decode prog_10_method_21_code 65 = .ok (.iload_n 1, 1) := by decide +kernel
theorem d81_66 : decode prog_10_method_21_code 66 = .ok (.goto 19, 3) := by decide +kernel
theorem d81_69 : decode prog_10_method_21_code 69 = .ok (.iload_n 1, 1) := by decide +kernel
theorem d81_70 : decode prog_10_method_21_code 70 = .ok (.bipush 9, 2) := by decide +kernel
theorem d81_72 : decode prog_10_method_21_code 72 = .ok (.if_icmp .ge 9, 3) := by decide +kernel
theorem d81_75 : decode prog_10_method_21_code 75 = .ok (.iload_n 1, 1) := by decide +kernel
theorem d81_76 : decode prog_10_method_21_code 76 = .ok (.iconst 4, 1) := by decide +kernel
theorem d81_77 : decode prog_10_method_21_code 77 = .ok (.isub, 1) := by decide +kernel
theorem d81_78 : decode prog_10_method_21_code 78 = .ok (.goto 7, 3) := by decide +kernel
theorem d81_81 : decode prog_10_method_21_code 81 = .ok (.iload_n 1, 1) := by decide +kernel
theorem d81_82 : decode prog_10_method_21_code 82 = .ok (.bipush 7, 2) := by decide +kernel
theorem d81_84 : decode prog_10_method_21_code 84 = .ok (.isub, 1) := by decide +kernel
theorem d81_85 : decode prog_10_method_21_code 85 = .ok (.istore 7, 2) := by decide +kernel
theorem d81_87 : decode prog_10_method_21_code 87 = .ok (.iload 7, 2) := by decide +kernel
theorem d81_89 : decode prog_10_method_21_code 89 = .ok (.iconst 2, 1) := by decide +kernel
theorem d81_90 : decode prog_10_method_21_code 90 = .ok (.if_icmp .ne 10, 3) := by decide +kernel
theorem d81_93 : decode prog_10_method_21_code 93 = .ok (.lload_n 3, 1) := by decide +kernel
theorem d81_94 : decode prog_10_method_21_code 94 = .ok (.lload 5, 2) := by decide +kernel
theorem d81_96 : decode prog_10_method_21_code 96 = .ok (.ladd, 1) := by decide +kernel
theorem d81_97 : decode prog_10_method_21_code 97 = .ok (.goto 44, 3) := by decide +kernel
theorem d81_100 : decode prog_10_method_21_code 100 = .ok (.iload 7, 2) := by decide +kernel
theorem d81_102 : decode prog_10_method_21_code 102 = .ok (.iconst 3, 1) := by decide +kernel
theorem d81_103 : decode prog_10_method_21_code 103 = .ok (.if_icmp .ne 10, 3) := by decide +kernel
theorem d81_106 : decode prog_10_method_21_code 106 = .ok (.lload_n 3, 1) := by decide +kernel
theorem d81_107 : decode prog_10_method_21_code 107 = .ok (.lload 5, 2) := by decide +kernel
theorem d81_109 : decode prog_10_method_21_code 109 = .ok (.lsub, 1) := by decide +kernel
theorem d81_110 : decode prog_10_method_21_code 110 = .ok (.goto 31, 3) := by decide +kernel
theorem d81_113 : decode prog_10_method_21_code 113 = .ok (.iload 7, 2) := by decide +kernel
theorem d81_115 : decode prog_10_method_21_code 115 = .ok (.iconst 4, 1) := by decide +kernel
theorem d81_116 : decode prog_10_method_21_code 116 = .ok (.if_icmp .ne 10, 3) := by decide +kernel
theorem d81_119 : decode prog_10_method_21_code 119 = .ok (.lload_n 3, 1) := by decide +kernel
theorem d81_120 : decode prog_10_method_21_code 120 = .ok (.lload 5, 2) := by decide +kernel
theorem d81_122 : decode prog_10_method_21_code 122 = .ok (.lmul, 1) := by decide +kernel
theorem d81_123 : decode prog_10_method_21_code 123 = .ok (.goto 18, 3) := by decide +kernel
theorem d81_126 : decode prog_10_method_21_code 126 = .ok (.lload 5, 2) := by decide +kernel
theorem d81_128 : decode prog_10_method_21_code 128 = .ok (.lconst 0, 1) := by decide +kernel
theorem d81_129 : decode prog_10_method_21_code 129 = .ok (.lcmp, 1) := by decide +kernel
theorem d81_130 : decode prog_10_method_21_code 130 = .ok (.ifCond .ne 7, 3) := by decide +kernel
theorem d81_133 : decode prog_10_method_21_code 133 = .ok (.lconst 0, 1) := by decide +kernel
theorem d81_134 : decode prog_10_method_21_code 134 = .ok (.goto 7, 3) := by decide +kernel
theorem d81_137 : decode prog_10_method_21_code 137 = .ok (.lload_n 3, 1) := by decide +kernel
theorem d81_138 : decode prog_10_method_21_code 138 = .ok (.lload 5, 2) := by decide +kernel
theorem d81_140 : decode prog_10_method_21_code 140 = .ok (.ldiv, 1) := by decide +kernel
theorem d81_141 : decode prog_10_method_21_code 141 = .ok (.lstore 8, 2) := by decide +kernel
theorem d81_143 : decode prog_10_method_21_code 143 = .ok (.aload_n 0, 1) := by decide +kernel
theorem d81_144 : decode prog_10_method_21_code 144 = .ok (.iload_n 2, 1) := by decide +kernel
theorem d81_145 : decode prog_10_method_21_code 145 = .ok (.lload 8, 2) := by decide +kernel
theorem d81_147 : decode prog_10_method_21_code 147 = .ok (.invokevirtual 168, 3) := by decide +kernel
theorem d81_150 : decode prog_10_method_21_code 150 = .ok (.ifCond .eq 6, 3) := by decide +kernel
theorem d81_153 : decode prog_10_method_21_code 153 = .ok (.lload 8, 2) := by decide +kernel
theorem d81_155 : decode prog_10_method_21_code 155 = .ok (.lreturn, 1) := by decide +kernel
theorem d81_156 : decode prog_10_method_21_code 156 = .ok (.iload_n 1, 1) := by decide +kernel
theorem d81_157 : decode prog_10_method_21_code 157 = .ok (.bipush 6, 2) := by decide +kernel
theorem d81_159 : decode prog_10_method_21_code 159 = .ok (.if_icmp .ge 10, 3) := by decide +kernel
theorem d81_162 : decode prog_10_method_21_code 162 = .ok (.aload_n 0, 1) := by decide +kernel
theorem d81_163 : decode prog_10_method_21_code 163 = .ok (.ldc2_w 174, 3) := by decide +kernel
theorem d81_166 : decode prog_10_method_21_code 166 = .ok (.putfield 116, 3) := by decide +kernel
theorem d81_169 : decode prog_10_method_21_code 169 = .ok (.iload_n 1, 1) := by decide +kernel
theorem d81_170 : decode prog_10_method_21_code 170 = .ok (.bipush 8, 2) := by decide +kernel
theorem d81_172 : decode prog_10_method_21_code 172 = .ok (.if_icmp .le 28, 3) := by decide +kernel
theorem d81_175 : decode prog_10_method_21_code 175 = .ok (.lload 8, 2) := by decide +kernel
theorem d81_177 : decode prog_10_method_21_code 177 = .ok (.aload_n 0, 1) := by decide +kernel
theorem d81_178 : decode prog_10_method_21_code 178 = .ok (.iload_n 2, 1) := by decide +kernel
theorem d81_179 : decode prog_10_method_21_code 179 = .ok (.invokevirtual 152, 3) := by decide +kernel
theorem d81_182 : decode prog_10_method_21_code 182 = .ok (.lcmp, 1) := by decide +kernel
theorem d81_183 : decode prog_10_method_21_code 183 = .ok (.ifCond .ge 11, 3) := by decide +kernel
theorem d81_186 : decode prog_10_method_21_code 186 = .ok (.aload_n 0, 1) := by decide +kernel
theorem d81_187 : decode prog_10_method_21_code 187 = .ok (.iload_n 2, 1) := by decide +kernel
theorem d81_188 : decode prog_10_method_21_code 188 = .ok (.invokevirtual 152, 3) := by decide +kernel
theorem d81_191 : decode prog_10_method_21_code 191 = .ok (.goto 8, 3) := by decide +kernel
theorem d81_194 : decode prog_10_method_21_code 194 = .ok (.aload_n 0, 1) := by decide +kernel
theorem d81_195 : decode prog_10_method_21_code 195 = .ok (.iload_n 2, 1) := by decide +kernel
theorem d81_196 : decode prog_10_method_21_code 196 = .ok (.invokevirtual 156, 3) := by decide +kernel
theorem d81_199 : decode prog_10_method_21_code 199 = .ok (.lreturn, 1) := by decide +kernel
theorem d81_200 : decode prog_10_method_21_code 200 = .ok (.aload_n 0, 1) := by decide +kernel
theorem d81_201 : decode prog_10_method_21_code 201 = .ok (.iload_n 2, 1) := by decide +kernel
theorem d81_202 : decode prog_10_method_21_code 202 = .ok (.invokevirtual 156, 3) := by decide +kernel
theorem d81_205 : decode prog_10_method_21_code 205 = .ok (.aload_n 0, 1) := by decide +kernel
theorem d81_206 : decode prog_10_method_21_code 206 = .ok (.iload_n 2, 1) := by decide +kernel
theorem d81_207 : decode prog_10_method_21_code 207 = .ok (.invokevirtual 152, 3) := by decide +kernel
theorem d81_210 : decode prog_10_method_21_code 210 = .ok (.lsub, 1) := by decide +kernel
theorem d81_211 : decode prog_10_method_21_code 211 = .ok (.lconst 1, 1) := by decide +kernel
theorem d81_212 : decode prog_10_method_21_code 212 = .ok (.ladd, 1) := by decide +kernel
theorem d81_213 : decode prog_10_method_21_code 213 = .ok (.lstore 10, 2) := by decide +kernel
theorem d81_215 : decode prog_10_method_21_code 215 = .ok (.lload 8, 2) := by decide +kernel
theorem d81_217 : decode prog_10_method_21_code 217 = .ok (.aload_n 0, 1) := by decide +kernel
theorem d81_218 : decode prog_10_method_21_code 218 = .ok (.iload_n 2, 1) := by decide +kernel
theorem d81_219 : decode prog_10_method_21_code 219 = .ok (.invokevirtual 152, 3) := by decide +kernel
theorem d81_222 : decode prog_10_method_21_code 222 = .ok (.lsub, 1) := by decide +kernel
theorem d81_223 : decode prog_10_method_21_code 223 = .ok (.lload 10, 2) := by decide +kernel
theorem d81_225 : decode prog_10_method_21_code 225 = .ok (.lrem, 1) := by decide +kernel
theorem d81_226 : decode prog_10_method_21_code 226 = .ok (.lstore 12, 2) := by decide +kernel
theorem d81_228 : decode prog_10_method_21_code 228 = .ok (.aload_n 0, 1) := by decide +kernel
theorem d81_229 : decode prog_10_method_21_code 229 = .ok (.iload_n 2, 1) := by decide +kernel
theorem d81_230 : decode prog_10_method_21_code 230 = .ok (.invokevirtual 152, 3) := by decide +kernel
theorem d81_233 : decode prog_10_method_21_code 233 = .ok (.lload 12, 2) := by decide +kernel
theorem d81_235 : decode prog_10_method_21_code 235 = .ok (.lconst 0, 1) := by decide +kernel
theorem d81_236 : decode prog_10_method_21_code 236 = .ok (.lcmp, 1) := by decide +kernel
theorem d81_237 : decode prog_10_method_21_code 237 = .ok (.ifCond .ge 11, 3) := by decide +kernel
theorem d81_240 : decode prog_10_method_21_code 240 = .ok (.lload 12, 2) := by decide +kernel
theorem d81_242 : decode prog_10_method_21_code 242 = .ok (.lload 10, 2) := by decide +kernel
theorem d81_244 : decode prog_10_method_21_code 244 = .ok (.ladd, 1) := by decide +kernel
theorem d81_245 : decode prog_10_method_21_code 245 = .ok (.goto 5, 3) := by decide +kernel
theorem d81_248 : decode prog_10_method_21_code 248 = .ok (.lload 12, 2) := by decide +kernel
theorem d81_250 : decode prog_10_method_21_code 250 = .ok (.ladd, 1) := by decide +kernel
theorem d81_251 : decode prog_10_method_21_code 251 = .ok (.lreturn, 1) := by decide +kernel
theorem d82_0 : decode prog_10_method_22_code 0 = .ok (.aload_n 0, 1) := by decide +kernel
theorem d82_1 : decode prog_10_method_22_code 1 = .ok (.getfield 25, 3) := by decide +kernel
theorem d82_4 : decode prog_10_method_22_code 4 = .ok (.iload_n 2, 1) := by decide +kernel
theorem d82_5 : decode prog_10_method_22_code 5 = .ok (.iaload, 1) := by decide +kernel
theorem d82_6 : decode prog_10_method_22_code 6 = .ok (.istore_n 3, 1) := by decide +kernel
theorem d82_7 : decode prog_10_method_22_code 7 = .ok (.iload_n 1, 1) := by decide +kernel
theorem d82_8 : decode prog_10_method_22_code 8 = .ok (.bipush 60, 2) := by decide +kernel
theorem d82_10 : decode prog_10_method_22_code 10 = .ok (.imul, 1) := by decide +kernel
theorem d82_11 : decode prog_10_method_22_code 11 = .ok (.aload_n 0, 1) := by decide +kernel
theorem d82_12 : decode prog_10_method_22_code 12 = .ok (.getfield 29, 3) := by decide +kernel
theorem d82_15 : decode prog_10_method_22_code 15 = .ok (.iload_n 2, 1) := by decide +kernel
theorem d82_16 : decode prog_10_method_22_code 16 = .ok (.iaload, 1) := by decide +kernel
theorem d82_17 : decode prog_10_method_22_code 17 = .ok (.iadd, 1) := by decide +kernel
theorem d82_18 : decode prog_10_method_22_code 18 = .ok (.istore 4, 2) := by decide +kernel
theorem d82_20 : decode prog_10_method_22_code 20 = .ok (.iload_n 1, 1) := by decide +kernel
theorem d82_21 : decode prog_10_method_22_code 21 = .ok (.bipush 60, 2) := by decide +kernel
theorem d82_23 : decode prog_10_method_22_code 23 = .ok (.imul, 1) := by decide +kernel
theorem d82_24 : decode prog_10_method_22_code 24 = .ok (.aload_n 0, 1) := by decide +kernel
theorem d82_25 : decode prog_10_method_22_code 25 = .ok (.getfield 32, 3) := by decide +kernel
theorem d82_28 : decode prog_10_method_22_code 28 = .ok (.iload_n 2, 1) := by decide +kernel
theorem d82_29 : decode prog_10_method_22_code 29 = .ok (.iaload, 1) := by decide +kernel
theorem d82_30 : decode prog_10_method_22_code 30 = .ok (.iadd, 1) := by decide +kernel
theorem d82_31 : decode prog_10_method_22_code 31 = .ok (.istore 5, 2) := by decide +kernel
theorem d82_33 : decode prog_10_method_22_code 33 = .ok (.aload_n 0, 1) := by decide +kernel
theorem d82_34 : decode prog_10_method_22_code 34 = .ok (.iload_n 1, 1) := by decide +kernel
theorem d82_35 : decode prog_10_method_22_code 35 = .ok (.iload_n 2, 1) := by decide +kernel
theorem d82_36 : decode prog_10_method_22_code 36 = .ok (.aload_n 0, 1) := by decide +kernel
theorem d82_37 : decode prog_10_method_22_code 37 = .ok (.getfield 29, 3) := by decide +kernel
theorem d82_40 : decode prog_10_method_22_code 40 = .ok (.iload_n 2, 1) := by decide +kernel
theorem d82_41 : decode prog_10_method_22_code 41 = .ok (.iaload, 1) := by decide +kernel
theorem d82_42 : decode prog_10_method_22_code 42 = .ok (.aload_n 0, 1) := by decide +kernel
theorem d82_43 : decode prog_10_method_22_code 43 = .ok (.getfield 32, 3) := by decide +kernel
theorem d82_46 : decode prog_10_method_22_code 46 = .ok (.iload_n 2, 1) := by decide +kernel
theorem d82_47 : decode prog_10_method_22_code 47 = .ok (.iaload, 1) := by decide +kernel
theorem d82_48 : decode prog_10_method_22_code 48 = .ok (.invokevirtual 176, 3) := by decide +kernel
theorem d82_51 : decode prog_10_method_22_code 51 = .ok (.istore 6, 2) := by decide +kernel
theorem d82_53 : decode prog_10_method_22_code 53 = .ok (.aload_n 0, 1) := by decide +kernel
theorem d82_54 : decode prog_10_method_22_code 54 = .ok (.getfield 13, 3) := by decide +kernel
theorem d82_57 : decode prog_10_method_22_code 57 = .ok (.ifCond .eq 4, 3) := by decide +kernel
theorem d82_60 : decode prog_10_method_22_code 60 = .ok (.return_, 1) := by decide +kernel
theorem d82_61 : decode prog_10_method_22_code 61 = .ok (.iload 6, 2) := by decide +kernel
theorem d82_63 : decode prog_10_method_22_code 63 = .ok (.ifCond .ne 9, 3) := by decide +kernel
theorem d82_66 : decode prog_10_method_22_code 66 = .ok (.iload_n 3, 1) := by decide +kernel
theorem d82_67 : decode prog_10_method_22_code 67 = .ok (.bipush 12, 2) := by decide +kernel
theorem d82_69 : decode prog_10_method_22_code 69 = .ok (.if_icmp .ne 22, 3) := by decide +kernel
theorem d82_72 : decode prog_10_method_22_code 72 = .ok (.iload 6, 2) := by decide +kernel
theorem d82_74 : decode prog_10_method_22_code 74 = .ok (.sipush 300, 3) := by decide +kernel
theorem d82_77 : decode prog_10_method_22_code 77 = .ok (.if_icmp .ne 24, 3) := by decide +kernel
theorem d82_80 : decode prog_10_method_22_code 80 = .ok (.iload_n 3, 1) := by decide +kernel
theorem d82_81 : decode prog_10_method_22_code 81 = .ok (.iconst 5, 1) := by decide +kernel
theorem d82_82 : decode prog_10_method_22_code 82 = .ok (.if_icmp .le 19, 3) := by decide +kernel
theorem d82_85 : decode prog_10_method_22_code 85 = .ok (.iload_n 3, 1) := by decide +kernel
theorem d82_86 : decode prog_10_method_22_code 86 = .ok (.bipush 11, 2) := by decide +kernel
theorem d82_88 : decode prog_10_method_22_code 88 = .ok (.if_icmp .ge 13, 3) := by decide +kernel
theorem d82_91 : decode prog_10_method_22_code 91 = .ok (.aload_n 0, 1) := by decide +kernel
theorem d82_92 : decode prog_10_method_22_code 92 = .ok (.bipush (-2), 2) := by decide +kernel
theorem d82_94 : decode prog_10_method_22_code 94 = .ok (.iload_n 1, 1) := by decide +kernel
theorem d82_95 : decode prog_10_method_22_code 95 = .ok (.iload_n 2, 1) := by decide +kernel
theorem d82_96 : decode prog_10_method_22_code 96 = .ok (.invokevirtual 162, 3) := by decide +kernel
theorem d82_99 : decode prog_10_method_22_code 99 = .ok (.pop, 1) := by decide +kernel
theorem d82_100 : decode prog_10_method_22_code 100 = .ok (.return_, 1) := by decide +kernel
theorem d82_101 : decode prog_10_method_22_code 101 = .ok (.aload_n 0, 1) := by decide +kernel
theorem d82_102 : decode prog_10_method_22_code 102 = .ok (.getfield 69, 3) := by decide +kernel
theorem d82_105 : decode prog_10_method_22_code 105 = .ok (.iload 4, 2) := by decide +kernel
theorem d82_107 : decode prog_10_method_22_code 107 = .ok (.baload, 1) := by decide +kernel
theorem d82_108 : decode prog_10_method_22_code 108 = .ok (.ifCond .eq 17, 3) := by decide +kernel
theorem d82_111 : decode prog_10_method_22_code 111 = .ok (.aload_n 0, 1) := by decide +kernel
theorem d82_112 : decode prog_10_method_22_code 112 = .ok (.getfield 69, 3) := by decide +kernel
theorem d82_115 : decode prog_10_method_22_code 115 = .ok (.iload 5, 2) := by decide +kernel
theorem d82_117 : decode prog_10_method_22_code 117 = .ok (.baload, 1) := by decide +kernel
theorem d82_118 : decode prog_10_method_22_code 118 = .ok (.ifCond .eq 7, 3) := by decide +kernel
theorem d82_121 : decode prog_10_method_22_code 121 = .ok (.iconst 1, 1) := by decide +kernel
theorem d82_122 : decode prog_10_method_22_code 122 = .ok (.goto 4, 3) := by decide +kernel
theorem d82_125 : decode prog_10_method_22_code 125 = .ok (.iconst 0, 1) := by decide +kernel
theorem d82_126 : decode prog_10_method_22_code 126 = .ok (.istore 7, 2) := by decide +kernel
theorem d82_128 : decode prog_10_method_22_code 128 = .ok (.aload_n 0, 1) := by decide +kernel
theorem d82_129 : decode prog_10_method_22_code 129 = .ok (.lconst 0, 1) := by decide +kernel
theorem d82_130 : decode prog_10_method_22_code 130 = .ok (.putfield 116, 3) := by decide +kernel
theorem d82_133 : decode prog_10_method_22_code 133 = .ok (.iload 7, 2) := by decide +kernel
theorem d82_135 : decode prog_10_method_22_code 135 = .ok (.ifCond .eq 27, 3) := by decide +kernel
theorem d82_138 : decode prog_10_method_22_code 138 = .ok (.aload_n 0, 1) := by decide +kernel
theorem d82_139 : decode prog_10_method_22_code 139 = .ok (.iload_n 3, 1) := by decide +kernel
theorem d82_140 : decode prog_10_method_22_code 140 = .ok (.iload 6, 2) := by decide +kernel
theorem d82_142 : decode prog_10_method_22_code 142 = .ok (.aload_n 0, 1) := by decide +kernel
theorem d82_143 : decode prog_10_method_22_code 143 = .ok (.getfield 78, 3) := by decide +kernel
theorem d82_146 : decode prog_10_method_22_code 146 = .ok (.iload 4, 2) := by decide +kernel
theorem d82_148 : decode prog_10_method_22_code 148 = .ok (.laload, 1) := by decide +kernel
theorem d82_149 : decode prog_10_method_22_code 149 = .ok (.aload_n 0, 1) := by decide +kernel
theorem d82_150 : decode prog_10_method_22_code 150 = .ok (.getfield 78, 3) := by decide +kernel
theorem d82_153 : decode prog_10_method_22_code 153 = .ok (.iload 5, 2) := by decide +kernel
theorem d82_155 : decode prog_10_method_22_code 155 = .ok (.laload, 1) := by decide +kernel
theorem d82_156 : decode prog_10_method_22_code 156 = .ok (.invokevirtual 180, 3) := by decide +kernel
theorem d82_159 : decode prog_10_method_22_code 159 = .ok (.goto 4, 3) := by decide +kernel
theorem d82_162 : decode prog_10_method_22_code 162 = .ok (.lconst 0, 1) := by decide +kernel
theorem d82_163 : decode prog_10_method_22_code 163 = .ok (.lstore 8, 2) := by decide +kernel
theorem d82_165 : decode prog_10_method_22_code 165 = .ok (.aload_n 0, 1) := by decide +kernel
theorem d82_166 : decode prog_10_method_22_code 166 = .ok (.getfield 116, 3) := by decide +kernel
theorem d82_169 : decode prog_10_method_22_code 169 = .ok (.lconst 0, 1) := by decide +kernel
theorem d82_170 : decode prog_10_method_22_code 170 = .ok (.lcmp, 1) := by decide +kernel
theorem d82_171 : decode prog_10_method_22_code 171 = .ok (.ifCond .eq 31, 3) := by decide +kernel
theorem d82_174 : decode prog_10_method_22_code 174 = .ok (.aload_n 0, 1) := by decide +kernel
theorem d82_175 : decode prog_10_method_22_code 175 = .ok (.aload_n 0, 1) := by decide +kernel
theorem d82_176 : decode prog_10_method_22_code 176 = .ok (.getfield 116, 3) := by decide +kernel
theorem d82_179 : decode prog_10_method_22_code 179 = .ok (.ldc2_w 172, 3) := by decide +kernel
theorem d82_182 : decode prog_10_method_22_code 182 = .ok (.lcmp, 1) := by decide +kernel
theorem d82_183 : decode prog_10_method_22_code 183 = .ok (.ifCond .ne 8, 3) := by decide +kernel
theorem d82_186 : decode prog_10_method_22_code 186 = .ok (.bipush (-5), 2) := by decide +kernel
theorem d82_188 : decode prog_10_method_22_code 188 = .ok (.goto 5, 3) := by decide +kernel
theorem d82_191 : decode prog_10_method_22_code 191 = .ok (.bipush (-3), 2) := by decide +kernel
theorem d82_193 : decode prog_10_method_22_code 193 = .ok (.iload_n 1, 1) := by decide +kernel
theorem d82_194 : decode prog_10_method_22_code 194 = .ok (.iload_n 2, 1) := by decide +kernel
theorem d82_195 : decode prog_10_method_22_code 195 = .ok (.invokevirtual 162, 3) := by decide +kernel
theorem d82_198 : decode prog_10_method_22_code 198 = .ok (.pop, 1) := by decide +kernel
theorem d82_199 : decode prog_10_method_22_code 199 = .ok (.goto 25, 3) := by decide +kernel
theorem d82_202 : decode prog_10_method_22_code 202 = .ok (.aload_n 0, 1) := by decide +kernel
theorem d82_203 : decode prog_10_method_22_code 203 = .ok (.iload_n 1, 1) := by decide +kernel
theorem d82_204 : decode prog_10_method_22_code 204 = .ok (.iload_n 2, 1) := by decide +kernel
theorem d82_205 : decode prog_10_method_22_code 205 = .ok (.iload_n 3, 1) := by decide +kernel
theorem d82_206 : decode prog_10_method_22_code 206 = .ok (.bipush 10, 2) := by decide +kernel
theorem d82_208 : decode prog_10_method_22_code 208 = .ok (.if_icmp .le 7, 3) := by decide +kernel
theorem d82_211 : decode prog_10_method_22_code 211 = .ok (.iconst 0, 1) := by decide +kernel
theorem d82_212 : decode prog_10_method_22_code 212 = .ok (.goto 5, 3) := by decide +kernel
theorem d82_215 : decode prog_10_method_22_code 215 = .ok (.iload 6, 2) := by decide +kernel
theorem d82_217 : decode prog_10_method_22_code 217 = .ok (.iload 7, 2) := by decide +kernel
theorem d82_219 : decode prog_10_method_22_code 219 = .ok (.lload 8, 2) := by decide +kernel
theorem d82_221 : decode prog_10_method_22_code 221 = .ok (.invokevirtual 184, 3) := by decide +kernel
theorem d82_224 : decode prog_10_method_22_code 224 = .ok (.return_, 1) := by decide +kernel
theorem d83_0 : decode prog_10_method_23_code 0 = .ok (.iload_n 1, 1) := by decide +kernel
theorem d83_1 : decode prog_10_method_23_code 1 = .ok (.bipush 60, 2) := by decide +kernel
theorem d83_3 : decode prog_10_method_23_code 3 = .ok (.imul, 1) := by decide +kernel
theorem d83_4 : decode prog_10_method_23_code 4 = .ok (.istore_n 3, 1) := by decide +kernel
theorem d83_5 : decode prog_10_method_23_code 5 = .ok (.aload_n 0, 1) := by decide +kernel
theorem d83_6 : decode prog_10_method_23_code 6 = .ok (.getfield 69, 3) := by decide +kernel
theorem d83_9 : decode prog_10_method_23_code 9 = .ok (.iload_n 3, 1) := by decide +kernel
theorem d83_10 : decode prog_10_method_23_code 10 = .ok (.aload_n 0, 1) := by decide +kernel
theorem d83_11 : decode prog_10_method_23_code 11 = .ok (.getfield 29, 3) := by decide +kernel
theorem d83_14 : decode prog_10_method_23_code 14 = .ok (.iload_n 2, 1) := by decide +kernel
theorem d83_15 : decode prog_10_method_23_code 15 = .ok (.iaload, 1) := by decide +kernel
theorem d83_16 : decode prog_10_method_23_code 16 = .ok (.iadd, 1) := by decide +kernel
theorem d83_17 : decode prog_10_method_23_code 17 = .ok (.baload, 1) := by decide +kernel
theorem d83_18 : decode prog_10_method_23_code 18 = .ok (.ifCond .eq 72, 3) := by decide +kernel
theorem d83_21 : decode prog_10_method_23_code 21 = .ok (.aload_n 0, 1) := by decide +kernel
theorem d83_22 : decode prog_10_method_23_code 22 = .ok (.getfield 78, 3) := by decide +kernel
theorem d83_25 : decode prog_10_method_23_code 25 = .ok (.iload_n 3, 1) := by decide +kernel
theorem d83_26 : decode prog_10_method_23_code 26 = .ok (.aload_n 0, 1) := by decide +kernel
theorem d83_27 : decode prog_10_method_23_code 27 = .ok (.getfield 29, 3) := by decide +kernel
theorem d83_30 : decode prog_10_method_23_code 30 = .ok (.iload_n 2, 1) := by decide +kernel
theorem d83_31 : decode prog_10_method_23_code 31 = .ok (.iaload, 1) := by decide +kernel
theorem d83_32 : decode prog_10_method_23_code 32 = .ok (.iadd, 1) := by decide +kernel
theorem d83_33 : decode prog_10_method_23_code 33 = .ok (.laload, 1) := by decide +kernel
theorem d83_34 : decode prog_10_method_23_code 34 = .ok (.lconst 1, 1) := by decide +kernel
theorem d83_35 : decode prog_10_method_23_code 35 = .ok (.lcmp, 1) := by decide +kernel
theorem d83_36 : decode prog_10_method_23_code 36 = .ok (.ifCond .ne 12, 3) := by decide +kernel
theorem d83_39 : decode prog_10_method_23_code 39 = .ok (.aload_n 0, 1) := by decide +kernel
theorem d83_40 : decode prog_10_method_23_code 40 = .ok (.getfield 32, 3) := by decide +kernel
theorem d83_43 : decode prog_10_method_23_code 43 = .ok (.iload_n 2, 1) := by decide +kernel
theorem d83_44 : decode prog_10_method_23_code 44 = .ok (.iaload, 1) := by decide +kernel
theorem d83_45 : decode prog_10_method_23_code 45 = .ok (.goto 9, 3) := by decide +kernel
theorem d83_48 : decode prog_10_method_23_code 48 = .ok (.aload_n 0, 1) := by decide +kernel
theorem d83_49 : decode prog_10_method_23_code 49 = .ok (.getfield 35, 3) := by decide +kernel
theorem d83_52 : decode prog_10_method_23_code 52 = .ok (.iload_n 2, 1) := by decide +kernel
theorem d83_53 : decode prog_10_method_23_code 53 = .ok (.iaload, 1) := by decide +kernel
theorem d83_54 : decode prog_10_method_23_code 54 = .ok (.istore 4, 2) := by decide +kernel
theorem d83_56 : decode prog_10_method_23_code 56 = .ok (.aload_n 0, 1) := by decide +kernel
theorem d83_57 : decode prog_10_method_23_code 57 = .ok (.iload_n 1, 1) := by decide +kernel
theorem d83_58 : decode prog_10_method_23_code 58 = .ok (.iload_n 2, 1) := by decide +kernel
theorem d83_59 : decode prog_10_method_23_code 59 = .ok (.aload_n 0, 1) := by decide +kernel
theorem d83_60 : decode prog_10_method_23_code 60 = .ok (.getfield 72, 3) := by decide +kernel
theorem d83_63 : decode prog_10_method_23_code 63 = .ok (.iload_n 3, 1) := by decide +kernel
theorem d83_64 : decode prog_10_method_23_code 64 = .ok (.iload 4, 2) := by decide +kernel
theorem d83_66 : decode prog_10_method_23_code 66 = .ok (.iadd, 1) := by decide +kernel
theorem d83_67 : decode prog_10_method_23_code 67 = .ok (.iaload, 1) := by decide +kernel
theorem d83_68 : decode prog_10_method_23_code 68 = .ok (.aload_n 0, 1) := by decide +kernel
theorem d83_69 : decode prog_10_method_23_code 69 = .ok (.getfield 69, 3) := by decide +kernel
theorem d83_72 : decode prog_10_method_23_code 72 = .ok (.iload_n 3, 1) := by decide +kernel
theorem d83_73 : decode prog_10_method_23_code 73 = .ok (.iload 4, 2) := by decide +kernel
theorem d83_75 : decode prog_10_method_23_code 75 = .ok (.iadd, 1) := by decide +kernel
theorem d83_76 : decode prog_10_method_23_code 76 = .ok (.baload, 1) := by decide +kernel
theorem d83_77 : decode prog_10_method_23_code 77 = .ok (.aload_n 0, 1) := by decide +kernel
theorem d83_78 : decode prog_10_method_23_code 78 = .ok (.getfield 78, 3) := by decide +kernel
theorem d83_81 : decode prog_10_method_23_code 81 = .ok (.iload_n 3, 1) := by decide +kernel
theorem d83_82 : decode prog_10_method_23_code 82 = .ok (.iload 4, 2) := by decide +kernel
theorem d83_84 : decode prog_10_method_23_code 84 = .ok (.iadd, 1) := by decide +kernel
theorem d83_85 : decode prog_10_method_23_code 85 = .ok (.laload, 1) := by decide +kernel
theorem d83_86 : decode prog_10_method_23_code 86 = .ok (.invokevirtual 184, 3) := by decide +kernel
theorem d83_89 : decode prog_10_method_23_code 89 = .ok (.return_, 1) := by decide +kernel
theorem d83_90 : decode prog_10_method_23_code 90 = .ok (.aload_n 0, 1) := by decide +kernel
theorem d83_91 : decode prog_10_method_23_code 91 = .ok (.iload_n 1, 1) := by decide +kernel
theorem d83_92 : decode prog_10_method_23_code 92 = .ok (.iload_n 2, 1) := by decide +kernel
theorem d83_93 : decode prog_10_method_23_code 93 = .ok (.aload_n 0, 1) := by decide +kernel
theorem d83_94 : decode prog_10_method_23_code 94 = .ok (.getfield 32, 3) := by decide +kernel
theorem d83_97 : decode prog_10_method_23_code 97 = .ok (.iload_n 2, 1) := by decide +kernel
theorem d83_98 : decode prog_10_method_23_code 98 = .ok (.iaload, 1) := by decide +kernel
theorem d83_99 : decode prog_10_method_23_code 99 = .ok (.aload_n 0, 1) := by decide +kernel
theorem d83_100 : decode prog_10_method_23_code 100 = .ok (.getfield 35, 3) := by decide +kernel
theorem d83_103 : decode prog_10_method_23_code 103 = .ok (.iload_n 2, 1) := by decide +kernel
theorem d83_104 : decode prog_10_method_23_code 104 = .ok (.iaload, 1) := by decide +kernel
theorem d83_105 : decode prog_10_method_23_code 105 = .ok (.invokevirtual 176, 3) := by decide +kernel
theorem d83_108 : decode prog_10_method_23_code 108 = .ok (.istore 4, 2) := by decide +kernel
theorem d83_110 : decode prog_10_method_23_code 110 = .ok (.aload_n 0, 1) := by decide +kernel
theorem d83_111 : decode prog_10_method_23_code 111 = .ok (.getfield 13, 3) := by decide +kernel
theorem d83_114 : decode prog_10_method_23_code 114 = .ok (.ifCond .eq 4, 3) := by decide +kernel
theorem d83_117 : decode prog_10_method_23_code 117 = .ok (.return_, 1) := by decide +kernel
theorem d83_118 : decode prog_10_method_23_code 118 = .ok (.iload 4, 2) := by decide +kernel
theorem d83_120 : decode prog_10_method_23_code 120 = .ok (.sipush 300, 3) := by decide +kernel
theorem d83_123 : decode prog_10_method_23_code 123 = .ok (.if_icmp .ne 15, 3) := by decide +kernel
theorem d83_126 : decode prog_10_method_23_code 126 = .ok (.aload_n 0, 1) := by decide +kernel
theorem d83_127 : decode prog_10_method_23_code 127 = .ok (.bipush (-2), 2) := by decide +kernel
theorem d83_129 : decode prog_10_method_23_code 129 = .ok (.iload_n 1, 1) := by decide +kernel
theorem d83_130 : decode prog_10_method_23_code 130 = .ok (.iload_n 2, 1) := by decide +kernel
theorem d83_131 : decode prog_10_method_23_code 131 = .ok (.invokevirtual 162, 3) := by decide +kernel
theorem d83_134 : decode prog_10_method_23_code 134 = .ok (.pop, 1) := by decide +kernel
theorem d83_135 : decode prog_10_method_23_code 135 = .ok (.goto 13, 3) := by decide +kernel
theorem d83_138 : decode prog_10_method_23_code 138 = .ok (.aload_n 0, 1) := by decide +kernel
theorem d83_139 : decode prog_10_method_23_code 139 = .ok (.iload_n 1, 1) := by decide +kernel
theorem d83_140 : decode prog_10_method_23_code 140 = .ok (.iload_n 2, 1) := by decide +kernel
theorem d83_141 : decode prog_10_method_23_code 141 = .ok (.iload 4, 2) := by decide +kernel
theorem d83_143 : decode prog_10_method_23_code 143 = .ok (.iconst 0, 1) := by decide +kernel
theorem d83_144 : decode prog_10_method_23_code 144 = .ok (.lconst 0, 1) := by decide +kernel
theorem d83_145 : decode prog_10_method_23_code 145 = .ok (.invokevirtual 184, 3) := by decide +kernel
theorem d83_148 : decode prog_10_method_23_code 148 = .ok (.return_, 1) := by decide +kernel
theorem d84_0 : decode prog_10_method_24_code 0 = .ok (.iload_n 1, 1) := by decide +kernel
theorem d84_1 : decode prog_10_method_24_code 1 = .ok (.bipush 60, 2) := by decide +kernel
theorem d84_3 : decode prog_10_method_24_code 3 = .ok (.imul, 1) := by decide +kernel
theorem d84_4 : decode prog_10_method_24_code 4 = .ok (.aload_n 0, 1) := by decide +kernel
theorem d84_5 : decode prog_10_method_24_code 5 = .ok (.getfield 29, 3) := by decide +kernel
theorem d84_8 : decode prog_10_method_24_code 8 = .ok (.iload_n 2, 1) := by decide +kernel
theorem d84_9 : decode prog_10_method_24_code 9 = .ok (.iaload, 1) := by decide +kernel
theorem d84_10 : decode prog_10_method_24_code 10 = .ok (.iadd, 1) := by decide +kernel
theorem d84_11 : decode prog_10_method_24_code 11 = .ok (.istore_n 3, 1) := by decide +kernel
theorem d84_12 : decode prog_10_method_24_code 12 = .ok (.aload_n 0, 1) := by decide +kernel
theorem d84_13 : decode prog_10_method_24_code 13 = .ok (.iload_n 1, 1) := by decide +kernel
theorem d84_14 : decode prog_10_method_24_code 14 = .ok (.aload_n 0, 1) := by decide +kernel
theorem d84_15 : decode prog_10_method_24_code 15 = .ok (.getfield 32, 3) := by decide +kernel
theorem d84_18 : decode prog_10_method_24_code 18 = .ok (.iload_n 2, 1) := by decide +kernel
theorem d84_19 : decode prog_10_method_24_code 19 = .ok (.iaload, 1) := by decide +kernel
theorem d84_20 : decode prog_10_method_24_code 20 = .ok (.invokevirtual 188, 3) := by decide +kernel
theorem d84_23 : decode prog_10_method_24_code 23 = .ok (.istore 4, 2) := by decide +kernel
theorem d84_25 : decode prog_10_method_24_code 25 = .ok (.aload_n 0, 1) := by decide +kernel
theorem d84_26 : decode prog_10_method_24_code 26 = .ok (.getfield 72, 3) := by decide +kernel
theorem d84_29 : decode prog_10_method_24_code 29 = .ok (.iload_n 3, 1) := by decide +kernel
theorem d84_30 : decode prog_10_method_24_code 30 = .ok (.iaload, 1) := by decide +kernel
theorem d84_31 : decode prog_10_method_24_code 31 = .ok (.ifCond .ne 15, 3) := by decide +kernel
theorem d84_34 : decode prog_10_method_24_code 34 = .ok (.aload_n 0, 1) := by decide +kernel
theorem d84_35 : decode prog_10_method_24_code 35 = .ok (.bipush (-2), 2) := by decide +kernel
theorem d84_37 : decode prog_10_method_24_code 37 = .ok (.iload_n 1, 1) := by decide +kernel
theorem d84_38 : decode prog_10_method_24_code 38 = .ok (.iload_n 2, 1) := by decide +kernel
theorem d84_39 : decode prog_10_method_24_code 39 = .ok (.invokevirtual 162, 3) := by decide +kernel
theorem d84_42 : decode prog_10_method_24_code 42 = .ok (.pop, 1) := by decide +kernel
theorem d84_43 : decode prog_10_method_24_code 43 = .ok (.goto 79, 3) := by decide +kernel
theorem d84_46 : decode prog_10_method_24_code 46 = .ok (.iload 4, 2) := by decide +kernel
theorem d84_48 : decode prog_10_method_24_code 48 = .ok (.sipush 500, 3) := by decide +kernel
theorem d84_51 : decode prog_10_method_24_code 51 = .ok (.if_icmp .ne 15, 3) := by decide +kernel
theorem d84_54 : decode prog_10_method_24_code 54 = .ok (.aload_n 0, 1) := by decide +kernel
theorem d84_55 : decode prog_10_method_24_code 55 = .ok (.bipush (-4), 2) := by decide +kernel
theorem d84_57 : decode prog_10_method_24_code 57 = .ok (.iload_n 1, 1) := by decide +kernel
theorem d84_58 : decode prog_10_method_24_code 58 = .ok (.iload_n 2, 1) := by decide +kernel
theorem d84_59 : decode prog_10_method_24_code 59 = .ok (.invokevirtual 162, 3) := by decide +kernel
theorem d84_62 : decode prog_10_method_24_code 62 = .ok (.pop, 1) := by decide +kernel
theorem d84_63 : decode prog_10_method_24_code 63 = .ok (.goto 59, 3) := by decide +kernel
theorem d84_66 : decode prog_10_method_24_code 66 = .ok (.aload_n 0, 1) := by decide +kernel
theorem d84_67 : decode prog_10_method_24_code 67 = .ok (.getfield 69, 3) := by decide +kernel
theorem d84_70 : decode prog_10_method_24_code 70 = .ok (.iload_n 3, 1) := by decide +kernel
theorem d84_71 : decode prog_10_method_24_code 71 = .ok (.baload, 1) := by decide +kernel
theorem d84_72 : decode prog_10_method_24_code 72 = .ok (.ifCond .eq 30, 3) := by decide +kernel
theorem d84_75 : decode prog_10_method_24_code 75 = .ok (.aload_n 0, 1) := by decide +kernel
theorem d84_76 : decode prog_10_method_24_code 76 = .ok (.iload 4, 2) := by decide +kernel
theorem d84_78 : decode prog_10_method_24_code 78 = .ok (.aload_n 0, 1) := by decide +kernel
theorem d84_79 : decode prog_10_method_24_code 79 = .ok (.getfield 78, 3) := by decide +kernel
theorem d84_82 : decode prog_10_method_24_code 82 = .ok (.iload_n 3, 1) := by decide +kernel
theorem d84_83 : decode prog_10_method_24_code 83 = .ok (.laload, 1) := by decide +kernel
theorem d84_84 : decode prog_10_method_24_code 84 = .ok (.invokevirtual 168, 3) := by decide +kernel
theorem d84_87 : decode prog_10_method_24_code 87 = .ok (.ifCond .ne 15, 3) := by decide +kernel
theorem d84_90 : decode prog_10_method_24_code 90 = .ok (.aload_n 0, 1) := by decide +kernel
theorem d84_91 : decode prog_10_method_24_code 91 = .ok (.bipush (-3), 2) := by decide +kernel
theorem d84_93 : decode prog_10_method_24_code 93 = .ok (.iload_n 1, 1) := by decide +kernel
theorem d84_94 : decode prog_10_method_24_code 94 = .ok (.iload_n 2, 1) := by decide +kernel
theorem d84_95 : decode prog_10_method_24_code 95 = .ok (.invokevirtual 162, 3) := by decide +kernel
theorem d84_98 : decode prog_10_method_24_code 98 = .ok (.pop, 1) := by decide +kernel
theorem d84_99 : decode prog_10_method_24_code 99 = .ok (.goto 23, 3) := by decide +kernel
theorem d84_102 : decode prog_10_method_24_code 102 = .ok (.aload_n 0, 1) := by decide +kernel
theorem d84_103 : decode prog_10_method_24_code 103 = .ok (.iload_n 1, 1) := by decide +kernel
theorem d84_104 : decode prog_10_method_24_code 104 = .ok (.iload_n 2, 1) := by decide +kernel
theorem d84_105 : decode prog_10_method_24_code 105 = .ok (.iload 4, 2) := by decide +kernel
theorem d84_107 : decode prog_10_method_24_code 107 = .ok (.aload_n 0, 1) := by decide +kernel
theorem d84_108 : decode prog_10_method_24_code 108 = .ok (.getfield 69, 3) := by decide +kernel
theorem d84_111 : decode prog_10_method_24_code 111 = .ok (.iload_n 3, 1) := by decide +kernel
theorem d84_112 : decode prog_10_method_24_code 112 = .ok (.baload, 1) := by decide +kernel
theorem d84_113 : decode prog_10_method_24_code 113 = .ok (.aload_n 0, 1) := by decide +kernel
theorem d84_114 : decode prog_10_method_24_code 114 = .ok (.getfield 78, 3) := by decide +kernel
theorem d84_117 : decode prog_10_method_24_code 117 = .ok (.iload_n 3, 1) := by decide +kernel
theorem d84_118 : decode prog_10_method_24_code 118 = .ok (.laload, 1) := by decide +kernel
theorem d84_119 : decode prog_10_method_24_code 119 = .ok (.invokevirtual 184, 3) := by decide +kernel
theorem d84_122 : decode prog_10_method_24_code 122 = .ok (.return_, 1) := by decide +kernel
theorem d85_0 : decode prog_10_method_25_code 0 = .ok (.aload_n 0, 1) := by decide +kernel
theorem d85_1 : decode prog_10_method_25_code 1 = .ok (.getfield 45, 3) := by decide +kernel
theorem d85_4 : decode prog_10_method_25_code 4 = .ok (.iload_n 3, 1) := by decide +kernel
theorem d85_5 : decode prog_10_method_25_code 5 = .ok (.iaload, 1) := by decide +kernel
theorem d85_6 : decode prog_10_method_25_code 6 = .ok (.sipush 300, 3) := by decide +kernel
theorem d85_9 : decode prog_10_method_25_code 9 = .ok (.if_icmp .ne 9, 3) := by decide +kernel
theorem d85_12 : decode prog_10_method_25_code 12 = .ok (.lload 4, 2) := by decide +kernel
theorem d85_14 : decode prog_10_method_25_code 14 = .ok (.l2i, 1) := by decide +kernel
theorem d85_15 : decode prog_10_method_25_code 15 = .ok (.goto 4, 3) := by decide +kernel
theorem d85_18 : decode prog_10_method_25_code 18 = .ok (.iconst 0, 1) := by decide +kernel
theorem d85_19 : decode prog_10_method_25_code 19 = .ok (.istore 8, 2) := by decide +kernel
theorem d85_21 : decode prog_10_method_25_code 21 = .ok (.aload_n 0, 1) := by decide +kernel
theorem d85_22 : decode prog_10_method_25_code 22 = .ok (.getfield 48, 3) := by decide +kernel
theorem d85_25 : decode prog_10_method_25_code 25 = .ok (.iload_n 3, 1) := by decide +kernel
theorem d85_26 : decode prog_10_method_25_code 26 = .ok (.iaload, 1) := by decide +kernel
theorem d85_27 : decode prog_10_method_25_code 27 = .ok (.sipush 300, 3) := by decide +kernel
theorem d85_30 : decode prog_10_method_25_code 30 = .ok (.if_icmp .ne 9, 3) := by decide +kernel
theorem d85_33 : decode prog_10_method_25_code 33 = .ok (.lload 6, 2) := by decide +kernel
theorem d85_35 : decode prog_10_method_25_code 35 = .ok (.l2i, 1) := by decide +kernel
theorem d85_36 : decode prog_10_method_25_code 36 = .ok (.goto 4, 3) := by decide +kernel
theorem d85_39 : decode prog_10_method_25_code 39 = .ok (.iconst 0, 1) := by decide +kernel
theorem d85_40 : decode prog_10_method_25_code 40 = .ok (.istore 9, 2) := by decide +kernel
theorem d85_42 : decode prog_10_method_25_code 42 = .ok (.iconst 0, 1) := by decide +kernel
theorem d85_43 : decode prog_10_method_25_code 43 = .ok (.istore 10, 2) := by decide +kernel
theorem d85_45 : decode prog_10_method_25_code 45 = .ok (.iload 10, 2) := by decide +kernel
theorem d85_47 : decode prog_10_method_25_code 47 = .ok (.aload_n 0, 1) := by decide +kernel
theorem d85_48 : decode prog_10_method_25_code 48 = .ok (.getfield 19, 3) := by decide +kernel
theorem d85_51 : decode prog_10_method_25_code 51 = .ok (.if_icmp .ge 61, 3) := by decide +kernel
theorem d85_54 : decode prog_10_method_25_code 54 = .ok (.aload_n 0, 1) := by decide +kernel
theorem d85_55 : decode prog_10_method_25_code 55 = .ok (.getfield 57, 3) := by decide +kernel
theorem d85_58 : decode prog_10_method_25_code 58 = .ok (.iload 10, 2) := by decide +kernel
theorem d85_60 : decode prog_10_method_25_code 60 = .ok (.iaload, 1) := by decide +kernel
theorem d85_61 : decode prog_10_method_25_code 61 = .ok (.iload_n 3, 1) := by decide +kernel
theorem d85_62 : decode prog_10_method_25_code 62 = .ok (.if_icmp .ne 44, 3) := by decide +kernel
theorem d85_65 : decode prog_10_method_25_code 65 = .ok (.aload_n 0, 1) := by decide +kernel
theorem d85_66 : decode prog_10_method_25_code 66 = .ok (.getfield 60, 3) := by decide +kernel
theorem d85_69 : decode prog_10_method_25_code 69 = .ok (.iload 10, 2) := by decide +kernel
theorem d85_71 : decode prog_10_method_25_code 71 = .ok (.iaload, 1) := by decide +kernel
theorem d85_72 : decode prog_10_method_25_code 72 = .ok (.iload 8, 2) := by decide +kernel
theorem d85_74 : decode prog_10_method_25_code 74 = .ok (.if_icmp .ne 32, 3) := by decide +kernel
theorem d85_77 : decode prog_10_method_25_code 77 = .ok (.aload_n 0, 1) := by decide +kernel
theorem d85_78 : decode prog_10_method_25_code 78 = .ok (.getfield 63, 3) := by decide +kernel
theorem d85_81 : decode prog_10_method_25_code 81 = .ok (.iload 10, 2) := by decide +kernel
theorem d85_83 : decode prog_10_method_25_code 83 = .ok (.iaload, 1) := by decide +kernel
theorem d85_84 : decode prog_10_method_25_code 84 = .ok (.iload 9, 2) := by decide +kernel
theorem d85_86 : decode prog_10_method_25_code 86 = .ok (.if_icmp .ne 20, 3) := by decide +kernel
theorem d85_89 : decode prog_10_method_25_code 89 = .ok (.aload_n 0, 1) := by decide +kernel
theorem d85_90 : decode prog_10_method_25_code 90 = .ok (.iload 10, 2) := by decide +kernel
theorem d85_92 : decode prog_10_method_25_code 92 = .ok (.iload_n 3, 1) := by decide +kernel
theorem d85_93 : decode prog_10_method_25_code 93 = .ok (.lload 4, 2) := by decide +kernel
theorem d85_95 : decode prog_10_method_25_code 95 = .ok (.lload 6, 2) := by decide +kernel
theorem d85_97 : decode prog_10_method_25_code 97 = .ok (.invokevirtual 192, 3) := by decide +kernel
theorem d85_100 : decode prog_10_method_25_code 100 = .ok (.ifCond .eq 6, 3) := by decide +kernel
theorem d85_103 : decode prog_10_method_25_code 103 = .ok (.iload 10, 2) := by decide +kernel
theorem d85_105 : decode prog_10_method_25_code 105 = .ok (.ireturn, 1) := by decide +kernel
theorem d85_106 : decode prog_10_method_25_code 106 = .ok (.iinc 10 1, 3) := by decide +kernel
theorem d85_109 : decode prog_10_method_25_code 109 = .ok (.goto (-64), 3) := by decide +kernel
theorem d85_112 : decode prog_10_method_25_code 112 = .ok (.aload_n 0, 1) := by decide +kernel
theorem d85_113 : decode prog_10_method_25_code 113 = .ok (.getfield 19, 3) := by decide +kernel
theorem d85_116 : decode prog_10_method_25_code 116 = .ok (.bipush 20, 2) := by decide +kernel
theorem d85_118 : decode prog_10_method_25_code 118 = .ok (.if_icmp .ne 12, 3) := by decide +kernel
theorem d85_121 : decode prog_10_method_25_code 121 = .ok (.aload_n 0, 1) := by decide +kernel
theorem d85_122 : decode prog_10_method_25_code 122 = .ok (.bipush (-7), 2) := by decide +kernel
theorem d85_124 : decode prog_10_method_25_code 124 = .ok (.iload_n 1, 1) := by decide +kernel
theorem d85_125 : decode prog_10_method_25_code 125 = .ok (.iload_n 2, 1) := by decide +kernel
theorem d85_126 : decode prog_10_method_25_code 126 = .ok (.invokevirtual 162, 3) := by decide +kernel
theorem d85_129 : decode prog_10_method_25_code 129 = .ok (.ireturn, 1) := by decide +kernel
theorem d85_130 : decode prog_10_method_25_code 130 = .ok (.aload_n 0, 1) := by decide +kernel
theorem d85_131 : decode prog_10_method_25_code 131 = .ok (.getfield 57, 3) := by decide +kernel
theorem d85_134 : decode prog_10_method_25_code 134 = .ok (.aload_n 0, 1) := by decide +kernel
theorem d85_135 : decode prog_10_method_25_code 135 = .ok (.getfield 19, 3) := by decide +kernel
theorem d85_138 : decode prog_10_method_25_code 138 = .ok (.iload_n 3, 1) := by decide +kernel
theorem d85_139 : decode prog_10_method_25_code 139 = .ok (.iastore, 1) := by decide +kernel
theorem d85_140 : decode prog_10_method_25_code 140 = .ok (.aload_n 0, 1) := by decide +kernel
theorem d85_141 : decode prog_10_method_25_code 141 = .ok (.getfield 60, 3) := by decide +kernel
theorem d85_144 : decode prog_10_method_25_code 144 = .ok (.aload_n 0, 1) := by decide +kernel
theorem d85_145 : decode prog_10_method_25_code 145 = .ok (.getfield 19, 3) := by decide +kernel
theorem d85_148 : decode prog_10_method_25_code 148 = .ok (.iload 8, 2) := by decide +kernel
theorem d85_150 : decode prog_10_method_25_code 150 = .ok (.iastore, 1) := by decide +kernel
theorem d85_151 : decode prog_10_method_25_code 151 = .ok (.aload_n 0, 1) := by decide +kernel
theorem d85_152 : decode prog_10_method_25_code 152 = .ok (.getfield 63, 3) := by decide +kernel
theorem d85_155 : decode prog_10_method_25_code 155 = .ok (.aload_n 0, 1) := by decide +kernel
theorem d85_156 : decode prog_10_method_25_code 156 = .ok (.getfield 19, 3) := by decide +kernel
theorem d85_159 : decode prog_10_method_25_code 159 = .ok (.iload 9, 2) := by decide +kernel
theorem d85_161 : decode prog_10_method_25_code 161 = .ok (.iastore, 1) := by decide +kernel
theorem d85_162 : decode prog_10_method_25_code 162 = .ok (.aload_n 0, 1) := by decide +kernel
theorem d85_163 : decode prog_10_method_25_code 163 = .ok (.getfield 119, 3) := by decide +kernel
theorem d85_166 : decode prog_10_method_25_code 166 = .ok (.aload_n 0, 1) := by decide +kernel
theorem d85_167 : decode prog_10_method_25_code 167 = .ok (.getfield 19, 3) := by decide +kernel
theorem d85_170 : decode prog_10_method_25_code 170 = .ok (.aload_n 0, 1) := by decide +kernel
theorem d85_171 : decode prog_10_method_25_code 171 = .ok (.getfield 45, 3) := by decide +kernel
theorem d85_174 : decode prog_10_method_25_code 174 = .ok (.iload_n 3, 1) := by decide +kernel
theorem d85_175 : decode prog_10_method_25_code 175 = .ok (.iaload, 1) := by decide +kernel
theorem d85_176 : decode prog_10_method_25_code 176 = .ok (.sipush 300, 3) := by decide +kernel
theorem d85_179 : decode prog_10_method_25_code 179 = .ok (.if_icmp .ne 8, 3) := by decide +kernel
theorem d85_182 : decode prog_10_method_25_code 182 = .ok (.lload 4, 2) := by decide +kernel
theorem d85_184 : decode prog_10_method_25_code 184 = .ok (.goto 4, 3) := by decide +kernel
theorem d85_187 : decode prog_10_method_25_code 187 = .ok (.lconst 0, 1) := by decide +kernel
theorem d85_188 : decode prog_10_method_25_code 188 = .ok (.lastore, 1) := by decide +kernel
theorem d85_189 : decode prog_10_method_25_code 189 = .ok (.aload_n 0, 1) := by decide +kernel
theorem d85_190 : decode prog_10_method_25_code 190 = .ok (.getfield 122, 3) := by decide +kernel
theorem d85_193 : decode prog_10_method_25_code 193 = .ok (.aload_n 0, 1) := by decide +kernel
theorem d85_194 : decode prog_10_method_25_code 194 = .ok (.getfield 19, 3) := by decide +kernel
theorem d85_197 : decode prog_10_method_25_code 197 = .ok (.aload_n 0, 1) := by decide +kernel
theorem d85_198 : decode prog_10_method_25_code 198 = .ok (.getfield 48, 3) := by decide +kernel
theorem d85_201 : decode prog_10_method_25_code 201 = .ok (.iload_n 3, 1) := by decide +kernel
theorem d85_202 : decode prog_10_method_25_code 202 = .ok (.iaload, 1) := by decide +kernel
theorem d85_203 : decode prog_10_method_25_code 203 = .ok (.sipush 300, 3) := by decide +kernel
theorem d85_206 : decode prog_10_method_25_code 206 = .ok (.if_icmp .ne 8, 3) := by decide +kernel
theorem d85_209 : decode prog_10_method_25_code 209 = .ok (.lload 6, 2) := by decide +kernel
theorem d85_211 : decode prog_10_method_25_code 211 = .ok (.goto 4, 3) := by decide +kernel
theorem d85_214 : decode prog_10_method_25_code 214 = .ok (.lconst 0, 1) := by decide +kernel
theorem d85_215 : decode prog_10_method_25_code 215 = .ok (.lastore, 1) := by decide +kernel
theorem d85_216 : decode prog_10_method_25_code 216 = .ok (.aload_n 0, 1) := by decide +kernel
theorem d85_217 : decode prog_10_method_25_code 217 = .ok (.aload_n 0, 1) := by decide +kernel
theorem d85_218 : decode prog_10_method_25_code 218 = .ok (.getfield 19, 3) := by decide +kernel
theorem d85_221 : decode prog_10_method_25_code 221 = .ok (.aload_n 0, 1) := by decide +kernel
theorem d85_222 : decode prog_10_method_25_code 222 = .ok (.getfield 45, 3) := by decide +kernel
theorem d85_225 : decode prog_10_method_25_code 225 = .ok (.iload_n 3, 1) := by decide +kernel
theorem d85_226 : decode prog_10_method_25_code 226 = .ok (.iaload, 1) := by decide +kernel
theorem d85_227 : decode prog_10_method_25_code 227 = .ok (.invokevirtual 188, 3) := by decide +kernel
theorem d85_230 : decode prog_10_method_25_code 230 = .ok (.sipush 500, 3) := by decide +kernel
theorem d85_233 : decode prog_10_method_25_code 233 = .ok (.if_icmp .eq 43, 3) := by decide +kernel
theorem d85_236 : decode prog_10_method_25_code 236 = .ok (.aload_n 0, 1) := by decide +kernel
theorem d85_237 : decode prog_10_method_25_code 237 = .ok (.aload_n 0, 1) := by decide +kernel
theorem d85_238 : decode prog_10_method_25_code 238 = .ok (.getfield 19, 3) := by decide +kernel
theorem d85_241 : decode prog_10_method_25_code 241 = .ok (.aload_n 0, 1) := by decide +kernel
theorem d85_242 : decode prog_10_method_25_code 242 = .ok (.getfield 48, 3) := by decide +kernel
theorem d85_245 : decode prog_10_method_25_code 245 = .ok (.iload_n 3, 1) := by decide +kernel
theorem d85_246 : decode prog_10_method_25_code 246 = .ok (.iaload, 1) := by decide +kernel
theorem d85_247 : decode prog_10_method_25_code 247 = .ok (.invokevirtual 188, 3) := by decide +kernel
theorem d85_250 : decode prog_10_method_25_code 250 = .ok (.sipush 500, 3) := by decide +kernel
theorem d85_253 : decode prog_10_method_25_code 253 = .ok (.if_icmp .eq 23, 3) := by decide +kernel
theorem d85_256 : decode prog_10_method_25_code 256 = .ok (.aload_n 0, 1) := by decide +kernel
theorem d85_257 : decode prog_10_method_25_code 257 = .ok (.aload_n 0, 1) := by decide +kernel
theorem d85_258 : decode prog_10_method_25_code 258 = .ok (.getfield 19, 3) := by decide +kernel
theorem d85_261 : decode prog_10_method_25_code 261 = .ok (.aload_n 0, 1) := by decide +kernel
theorem d85_262 : decode prog_10_method_25_code 262 = .ok (.getfield 51, 3) := by decide +kernel
theorem d85_265 : decode prog_10_method_25_code 265 = .ok (.iload_n 3, 1) := by decide +kernel
theorem d85_266 : decode prog_10_method_25_code 266 = .ok (.iaload, 1) := by decide +kernel
theorem d85_267 : decode prog_10_method_25_code 267 = .ok (.invokevirtual 188, 3) := by decide +kernel
theorem d85_270 : decode prog_10_method_25_code 270 = .ok (.sipush 500, 3) := by decide +kernel
theorem d85_273 : decode prog_10_method_25_code 273 = .ok (.if_icmp .ne 7, 3) := by decide +kernel
theorem d85_276 : decode prog_10_method_25_code 276 = .ok (.iconst 1, 1) := by decide +kernel
theorem d85_277 : decode prog_10_method_25_code 277 = .ok (.goto 4, 3) := by decide +kernel
theorem d85_280 : decode prog_10_method_25_code 280 = .ok (.iconst 0, 1) := by decide +kernel
theorem d85_281 : decode prog_10_method_25_code 281 = .ok (.istore 10, 2) := by decide +kernel
theorem d85_283 : decode prog_10_method_25_code 283 = .ok (.iload 10, 2) := by decide +kernel
theorem d85_285 : decode prog_10_method_25_code 285 = .ok (.ifCond .eq 25, 3) := by decide +kernel
theorem d85_288 : decode prog_10_method_25_code 288 = .ok (.aload_n 0, 1) := by decide +kernel
theorem d85_289 : decode prog_10_method_25_code 289 = .ok (.bipush (-4), 2) := by decide +kernel
theorem d85_291 : decode prog_10_method_25_code 291 = .ok (.iload_n 2, 1) := by decide +kernel
theorem d85_292 : decode prog_10_method_25_code 292 = .ok (.bipush 63, 2) := by decide +kernel
theorem d85_294 : decode prog_10_method_25_code 294 = .ok (.if_icmp .ne 10, 3) := by decide +kernel
theorem d85_297 : decode prog_10_method_25_code 297 = .ok (.aload_n 0, 1) := by decide +kernel
theorem d85_298 : decode prog_10_method_25_code 298 = .ok (.getfield 19, 3) := by decide +kernel
theorem d85_301 : decode prog_10_method_25_code 301 = .ok (.goto 4, 3) := by decide +kernel
theorem d85_304 : decode prog_10_method_25_code 304 = .ok (.iload_n 1, 1) := by decide +kernel
theorem d85_305 : decode prog_10_method_25_code 305 = .ok (.iload_n 2, 1) := by decide +kernel
theorem d85_306 : decode prog_10_method_25_code 306 = .ok (.invokevirtual 162, 3) := by decide +kernel
theorem d85_309 : decode prog_10_method_25_code 309 = .ok (.ireturn, 1) := by decide +kernel
theorem d85_310 : decode prog_10_method_25_code 310 = .ok (.iconst 0, 1) := by decide +kernel
theorem d85_311 : decode prog_10_method_25_code 311 = .ok (.istore 11, 2) := by decide +kernel
theorem d85_313 : decode prog_10_method_25_code 313 = .ok (.iload 11, 2) := by decide +kernel
theorem d85_315 : decode prog_10_method_25_code 315 = .ok (.bipush 60, 2) := by decide +kernel
theorem d85_317 : decode prog_10_method_25_code 317 = .ok (.if_icmp .ge 25, 3) := by decide +kernel
theorem d85_320 : decode prog_10_method_25_code 320 = .ok (.aload_n 0, 1) := by decide +kernel
theorem d85_321 : decode prog_10_method_25_code 321 = .ok (.getfield 66, 3) := by decide +kernel
theorem d85_324 : decode prog_10_method_25_code 324 = .ok (.aload_n 0, 1) := by decide +kernel
theorem d85_325 : decode prog_10_method_25_code 325 = .ok (.getfield 19, 3) := by decide +kernel
theorem d85_328 : decode prog_10_method_25_code 328 = .ok (.bipush 60, 2) := by decide +kernel
theorem d85_330 : decode prog_10_method_25_code 330 = .ok (.imul, 1) := by decide +kernel
theorem d85_331 : decode prog_10_method_25_code 331 = .ok (.iload 11, 2) := by decide +kernel
theorem d85_333 : decode prog_10_method_25_code 333 = .ok (.iadd, 1) := by decide +kernel
theorem d85_334 : decode prog_10_method_25_code 334 = .ok (.iconst 0, 1) := by decide +kernel
theorem d85_335 : decode prog_10_method_25_code 335 = .ok (.bastore, 1) := by decide +kernel
theorem d85_336 : decode prog_10_method_25_code 336 = .ok (.iinc 11 1, 3) := by decide +kernel
theorem d85_339 : decode prog_10_method_25_code 339 = .ok (.goto (-26), 3) := by decide +kernel
theorem d85_342 : decode prog_10_method_25_code 342 = .ok (.aload_n 0, 1) := by decide +kernel
theorem d85_343 : decode prog_10_method_25_code 343 = .ok (.dup, 1) := by decide +kernel
theorem d85_344 : decode prog_10_method_25_code 344 = .ok (.getfield 19, 3) := by decide +kernel
theorem d85_347 : decode prog_10_method_25_code 347 = .ok (.iconst 1, 1) := by decide +kernel
theorem d85_348 : decode prog_10_method_25_code 348 = .ok (.iadd, 1) := by decide +kernel
theorem d85_349 : decode prog_10_method_25_code 349 = .ok (.putfield 19, 3) := by decide +kernel
theorem d85_352 : decode prog_10_method_25_code 352 = .ok (.aload_n 0, 1) := by decide +kernel
theorem d85_353 : decode prog_10_method_25_code 353 = .ok (.getfield 19, 3) := by decide +kernel
theorem d85_356 : decode prog_10_method_25_code 356 = .ok (.iconst 1, 1) := by decide +kernel
theorem d85_357 : decode prog_10_method_25_code 357 = .ok (.isub, 1) := by decide +kernel
theorem d85_358 : decode prog_10_method_25_code 358 = .ok (.ireturn, 1) := by decide +kernel
end
section
/-! decode rows, printed by a program of mine out of the listing -/
theorem d86_0 : decode prog_10_method_26_code 0 = .ok (.aload_n 0, 1) := by decide +kernel
theorem d86_1 : decode prog_10_method_26_code 1 = .ok (.getfield 119, 3) := by decide +kernel
theorem d86_4 : decode prog_10_method_26_code 4 = .ok (.iload_n 1, 1) := by decide +kernel
theorem d86_5 : decode prog_10_method_26_code 5 = .ok (.laload, 1) := by decide +kernel
theorem d86_6 : decode prog_10_method_26_code 6 = .ok (.aload_n 0, 1) := by decide +kernel
theorem d86_7 : decode prog_10_method_26_code 7 = .ok (.getfield 45, 3) := by decide +kernel
theorem d86_10 : decode prog_10_method_26_code 10 = .ok (.iload_n 2, 1) := by decide +kernel
theorem d86_11 : decode prog_10_method_26_code 11 = .ok (.iaload, 1) := by decide +kernel
theorem d86_12 : decode prog_10_method_26_code 12 = .ok (.sipush 300, 3) := by decide +kernel
theorem d86_15 : decode prog_10_method_26_code 15 = .ok (.if_icmp .ne 7, 3) := by decide +kernel
theorem d86_18 : decode prog_10_method_26_code 18 = .ok (.lload_n 3, 1) := by decide +kernel
theorem d86_19 : decode prog_10_method_26_code 19 = .ok (.goto 4, 3) := by decide +kernel
theorem d86_22 : decode prog_10_method_26_code 22 = .ok (.lconst 0, 1) := by decide +kernel
theorem d86_23 : decode prog_10_method_26_code 23 = .ok (.lcmp, 1) := by decide +kernel
theorem d86_24 : decode prog_10_method_26_code 24 = .ok (.ifCond .ne 35, 3) := by decide +kernel
theorem d86_27 : decode prog_10_method_26_code 27 = .ok (.aload_n 0, 1) := by decide +kernel
theorem d86_28 : decode prog_10_method_26_code 28 = .ok (.getfield 122, 3) := by decide +kernel
theorem d86_31 : decode prog_10_method_26_code 31 = .ok (.iload_n 1, 1) := by decide +kernel
theorem d86_32 : decode prog_10_method_26_code 32 = .ok (.laload, 1) := by decide +kernel
theorem d86_33 : decode prog_10_method_26_code 33 = .ok (.aload_n 0, 1) := by decide +kernel
theorem d86_34 : decode prog_10_method_26_code 34 = .ok (.getfield 48, 3) := by decide +kernel
theorem d86_37 : decode prog_10_method_26_code 37 = .ok (.iload_n 2, 1) := by decide +kernel
theorem d86_38 : decode prog_10_method_26_code 38 = .ok (.iaload, 1) := by decide +kernel
theorem d86_39 : decode prog_10_method_26_code 39 = .ok (.sipush 300, 3) := by decide +kernel
theorem d86_42 : decode prog_10_method_26_code 42 = .ok (.if_icmp .ne 8, 3) := by decide +kernel
theorem d86_45 : decode prog_10_method_26_code 45 = .ok (.lload 5, 2) := by decide +kernel
theorem d86_47 : decode prog_10_method_26_code 47 = .ok (.goto 4, 3) := by decide +kernel
theorem d86_50 : decode prog_10_method_26_code 50 = .ok (.lconst 0, 1) := by decide +kernel
theorem d86_51 : decode prog_10_method_26_code 51 = .ok (.lcmp, 1) := by decide +kernel
theorem d86_52 : decode prog_10_method_26_code 52 = .ok (.ifCond .ne 7, 3) := by decide +kernel
theorem d86_55 : decode prog_10_method_26_code 55 = .ok (.iconst 1, 1) := by decide +kernel
theorem d86_56 : decode prog_10_method_26_code 56 = .ok (.goto 4, 3) := by decide +kernel
theorem d86_59 : decode prog_10_method_26_code 59 = .ok (.iconst 0, 1) := by decide +kernel
theorem d86_60 : decode prog_10_method_26_code 60 = .ok (.ireturn, 1) := by decide +kernel
theorem d87_0 : decode prog_10_method_27_code 0 = .ok (.iload_n 1, 1) := by decide +kernel
theorem d87_1 : decode prog_10_method_27_code 1 = .ok (.bipush 60, 2) := by decide +kernel
theorem d87_3 : decode prog_10_method_27_code 3 = .ok (.imul, 1) := by decide +kernel
theorem d87_4 : decode prog_10_method_27_code 4 = .ok (.iload_n 3, 1) := by decide +kernel
theorem d87_5 : decode prog_10_method_27_code 5 = .ok (.iadd, 1) := by decide +kernel
theorem d87_6 : decode prog_10_method_27_code 6 = .ok (.istore 5, 2) := by decide +kernel
theorem d87_8 : decode prog_10_method_27_code 8 = .ok (.aload_n 0, 1) := by decide +kernel
theorem d87_9 : decode prog_10_method_27_code 9 = .ok (.getfield 72, 3) := by decide +kernel
theorem d87_12 : decode prog_10_method_27_code 12 = .ok (.iload 5, 2) := by decide +kernel
theorem d87_14 : decode prog_10_method_27_code 14 = .ok (.iaload, 1) := by decide +kernel
theorem d87_15 : decode prog_10_method_27_code 15 = .ok (.iload 4, 2) := by decide +kernel
theorem d87_17 : decode prog_10_method_27_code 17 = .ok (.if_icmp .ne 5, 3) := by decide +kernel
theorem d87_20 : decode prog_10_method_27_code 20 = .ok (.iconst 1, 1) := by decide +kernel
theorem d87_21 : decode prog_10_method_27_code 21 = .ok (.ireturn, 1) := by decide +kernel
theorem d87_22 : decode prog_10_method_27_code 22 = .ok (.aload_n 0, 1) := by decide +kernel
theorem d87_23 : decode prog_10_method_27_code 23 = .ok (.getfield 72, 3) := by decide +kernel
theorem d87_26 : decode prog_10_method_27_code 26 = .ok (.iload 5, 2) := by decide +kernel
theorem d87_28 : decode prog_10_method_27_code 28 = .ok (.iaload, 1) := by decide +kernel
theorem d87_29 : decode prog_10_method_27_code 29 = .ok (.sipush 300, 3) := by decide +kernel
theorem d87_32 : decode prog_10_method_27_code 32 = .ok (.if_icmp .ne 16, 3) := by decide +kernel
theorem d87_35 : decode prog_10_method_27_code 35 = .ok (.aload_n 0, 1) := by decide +kernel
theorem d87_36 : decode prog_10_method_27_code 36 = .ok (.iload 4, 2) := by decide +kernel
theorem d87_38 : decode prog_10_method_27_code 38 = .ok (.invokevirtual 165, 3) := by decide +kernel
theorem d87_41 : decode prog_10_method_27_code 41 = .ok (.ifCond .eq 7, 3) := by decide +kernel
theorem d87_44 : decode prog_10_method_27_code 44 = .ok (.iconst 1, 1) := by decide +kernel
theorem d87_45 : decode prog_10_method_27_code 45 = .ok (.goto 4, 3) := by decide +kernel
theorem d87_48 : decode prog_10_method_27_code 48 = .ok (.iconst 0, 1) := by decide +kernel
theorem d87_49 : decode prog_10_method_27_code 49 = .ok (.istore 6, 2) := by decide +kernel
theorem d87_51 : decode prog_10_method_27_code 51 = .ok (.iload 6, 2) := by decide +kernel
theorem d87_53 : decode prog_10_method_27_code 53 = .ok (.ifCond .eq 21, 3) := by decide +kernel
theorem d87_56 : decode prog_10_method_27_code 56 = .ok (.aload_n 0, 1) := by decide +kernel
theorem d87_57 : decode prog_10_method_27_code 57 = .ok (.iload 4, 2) := by decide +kernel
theorem d87_59 : decode prog_10_method_27_code 59 = .ok (.aload_n 0, 1) := by decide +kernel
theorem d87_60 : decode prog_10_method_27_code 60 = .ok (.getfield 78, 3) := by decide +kernel
theorem d87_63 : decode prog_10_method_27_code 63 = .ok (.iload 5, 2) := by decide +kernel
theorem d87_65 : decode prog_10_method_27_code 65 = .ok (.laload, 1) := by decide +kernel
theorem d87_66 : decode prog_10_method_27_code 66 = .ok (.invokevirtual 168, 3) := by decide +kernel
theorem d87_69 : decode prog_10_method_27_code 69 = .ok (.ifCond .eq 5, 3) := by decide +kernel
theorem d87_72 : decode prog_10_method_27_code 72 = .ok (.iconst 1, 1) := by decide +kernel
theorem d87_73 : decode prog_10_method_27_code 73 = .ok (.ireturn, 1) := by decide +kernel
theorem d87_74 : decode prog_10_method_27_code 74 = .ok (.aload_n 0, 1) := by decide +kernel
theorem d87_75 : decode prog_10_method_27_code 75 = .ok (.iload 6, 2) := by decide +kernel
theorem d87_77 : decode prog_10_method_27_code 77 = .ok (.ifCond .eq 8, 3) := by decide +kernel
theorem d87_80 : decode prog_10_method_27_code 80 = .ok (.bipush (-3), 2) := by decide +kernel
theorem d87_82 : decode prog_10_method_27_code 82 = .ok (.goto 5, 3) := by decide +kernel
theorem d87_85 : decode prog_10_method_27_code 85 = .ok (.bipush (-2), 2) := by decide +kernel
theorem d87_87 : decode prog_10_method_27_code 87 = .ok (.iload_n 1, 1) := by decide +kernel
theorem d87_88 : decode prog_10_method_27_code 88 = .ok (.iload_n 2, 1) := by decide +kernel
theorem d87_89 : decode prog_10_method_27_code 89 = .ok (.invokevirtual 162, 3) := by decide +kernel
theorem d87_92 : decode prog_10_method_27_code 92 = .ok (.pop, 1) := by decide +kernel
theorem d87_93 : decode prog_10_method_27_code 93 = .ok (.iconst 0, 1) := by decide +kernel
theorem d87_94 : decode prog_10_method_27_code 94 = .ok (.ireturn, 1) := by decide +kernel
theorem d88_0 : decode prog_10_method_28_code 0 = .ok (.aload_n 0, 1) := by decide +kernel
theorem d88_1 : decode prog_10_method_28_code 1 = .ok (.getfield 29, 3) := by decide +kernel
theorem d88_4 : decode prog_10_method_28_code 4 = .ok (.iload_n 2, 1) := by decide +kernel
theorem d88_5 : decode prog_10_method_28_code 5 = .ok (.iaload, 1) := by decide +kernel
theorem d88_6 : decode prog_10_method_28_code 6 = .ok (.istore_n 3, 1) := by decide +kernel
theorem d88_7 : decode prog_10_method_28_code 7 = .ok (.aload_n 0, 1) := by decide +kernel
theorem d88_8 : decode prog_10_method_28_code 8 = .ok (.getfield 32, 3) := by decide +kernel
theorem d88_11 : decode prog_10_method_28_code 11 = .ok (.iload_n 2, 1) := by decide +kernel
theorem d88_12 : decode prog_10_method_28_code 12 = .ok (.iaload, 1) := by decide +kernel
theorem d88_13 : decode prog_10_method_28_code 13 = .ok (.istore 4, 2) := by decide +kernel
theorem d88_15 : decode prog_10_method_28_code 15 = .ok (.aload_n 0, 1) := by decide +kernel
theorem d88_16 : decode prog_10_method_28_code 16 = .ok (.getfield 35, 3) := by decide +kernel
theorem d88_19 : decode prog_10_method_28_code 19 = .ok (.iload_n 2, 1) := by decide +kernel
theorem d88_20 : decode prog_10_method_28_code 20 = .ok (.iaload, 1) := by decide +kernel
theorem d88_21 : decode prog_10_method_28_code 21 = .ok (.istore 5, 2) := by decide +kernel
theorem d88_23 : decode prog_10_method_28_code 23 = .ok (.iload_n 1, 1) := by decide +kernel
theorem d88_24 : decode prog_10_method_28_code 24 = .ok (.bipush 60, 2) := by decide +kernel
theorem d88_26 : decode prog_10_method_28_code 26 = .ok (.imul, 1) := by decide +kernel
theorem d88_27 : decode prog_10_method_28_code 27 = .ok (.istore 6, 2) := by decide +kernel
theorem d88_29 : decode prog_10_method_28_code 29 = .ok (.aload_n 0, 1) := by decide +kernel
theorem d88_30 : decode prog_10_method_28_code 30 = .ok (.getfield 45, 3) := by decide +kernel
theorem d88_33 : decode prog_10_method_28_code 33 = .ok (.iload_n 3, 1) := by decide +kernel
theorem d88_34 : decode prog_10_method_28_code 34 = .ok (.iaload, 1) := by decide +kernel
theorem d88_35 : decode prog_10_method_28_code 35 = .ok (.sipush 300, 3) := by decide +kernel
theorem d88_38 : decode prog_10_method_28_code 38 = .ok (.if_icmp .ne 7, 3) := by decide +kernel
theorem d88_41 : decode prog_10_method_28_code 41 = .ok (.iconst 1, 1) := by decide +kernel
theorem d88_42 : decode prog_10_method_28_code 42 = .ok (.goto 4, 3) := by decide +kernel
theorem d88_45 : decode prog_10_method_28_code 45 = .ok (.iconst 0, 1) := by decide +kernel
theorem d88_46 : decode prog_10_method_28_code 46 = .ok (.istore 7, 2) := by decide +kernel
theorem d88_48 : decode prog_10_method_28_code 48 = .ok (.aload_n 0, 1) := by decide +kernel
theorem d88_49 : decode prog_10_method_28_code 49 = .ok (.getfield 48, 3) := by decide +kernel
theorem d88_52 : decode prog_10_method_28_code 52 = .ok (.iload_n 3, 1) := by decide +kernel
theorem d88_53 : decode prog_10_method_28_code 53 = .ok (.iaload, 1) := by decide +kernel
theorem d88_54 : decode prog_10_method_28_code 54 = .ok (.sipush 300, 3) := by decide +kernel
theorem d88_57 : decode prog_10_method_28_code 57 = .ok (.if_icmp .ne 7, 3) := by decide +kernel
theorem d88_60 : decode prog_10_method_28_code 60 = .ok (.iconst 1, 1) := by decide +kernel
theorem d88_61 : decode prog_10_method_28_code 61 = .ok (.goto 4, 3) := by decide +kernel
theorem d88_64 : decode prog_10_method_28_code 64 = .ok (.iconst 0, 1) := by decide +kernel
theorem d88_65 : decode prog_10_method_28_code 65 = .ok (.istore 8, 2) := by decide +kernel
theorem d88_67 : decode prog_10_method_28_code 67 = .ok (.iload 7, 2) := by decide +kernel
theorem d88_69 : decode prog_10_method_28_code 69 = .ok (.ifCond .eq 19, 3) := by decide +kernel
theorem d88_72 : decode prog_10_method_28_code 72 = .ok (.aload_n 0, 1) := by decide +kernel
theorem d88_73 : decode prog_10_method_28_code 73 = .ok (.getfield 72, 3) := by decide +kernel
theorem d88_76 : decode prog_10_method_28_code 76 = .ok (.iload 6, 2) := by decide +kernel
theorem d88_78 : decode prog_10_method_28_code 78 = .ok (.iload 4, 2) := by decide +kernel
theorem d88_80 : decode prog_10_method_28_code 80 = .ok (.iadd, 1) := by decide +kernel
theorem d88_81 : decode prog_10_method_28_code 81 = .ok (.iaload, 1) := by decide +kernel
theorem d88_82 : decode prog_10_method_28_code 82 = .ok (.sipush 300, 3) := by decide +kernel
theorem d88_85 : decode prog_10_method_28_code 85 = .ok (.if_icmp .ne 24, 3) := by decide +kernel
theorem d88_88 : decode prog_10_method_28_code 88 = .ok (.iload 8, 2) := by decide +kernel
theorem d88_90 : decode prog_10_method_28_code 90 = .ok (.ifCond .eq 29, 3) := by decide +kernel
theorem d88_93 : decode prog_10_method_28_code 93 = .ok (.aload_n 0, 1) := by decide +kernel
theorem d88_94 : decode prog_10_method_28_code 94 = .ok (.getfield 72, 3) := by decide +kernel
theorem d88_97 : decode prog_10_method_28_code 97 = .ok (.iload 6, 2) := by decide +kernel
theorem d88_99 : decode prog_10_method_28_code 99 = .ok (.iload 5, 2) := by decide +kernel
theorem d88_101 : decode prog_10_method_28_code 101 = .ok (.iadd, 1) := by decide +kernel
theorem d88_102 : decode prog_10_method_28_code 102 = .ok (.iaload, 1) := by decide +kernel
theorem d88_103 : decode prog_10_method_28_code 103 = .ok (.sipush 300, 3) := by decide +kernel
theorem d88_106 : decode prog_10_method_28_code 106 = .ok (.if_icmp .eq 13, 3) := by decide +kernel
theorem d88_109 : decode prog_10_method_28_code 109 = .ok (.aload_n 0, 1) := by decide +kernel
theorem d88_110 : decode prog_10_method_28_code 110 = .ok (.bipush (-2), 2) := by decide +kernel
theorem d88_112 : decode prog_10_method_28_code 112 = .ok (.iload_n 1, 1) := by decide +kernel
theorem d88_113 : decode prog_10_method_28_code 113 = .ok (.iload_n 2, 1) := by decide +kernel
theorem d88_114 : decode prog_10_method_28_code 114 = .ok (.invokevirtual 162, 3) := by decide +kernel
theorem d88_117 : decode prog_10_method_28_code 117 = .ok (.pop, 1) := by decide +kernel
theorem d88_118 : decode prog_10_method_28_code 118 = .ok (.return_, 1) := by decide +kernel
theorem d88_119 : decode prog_10_method_28_code 119 = .ok (.aload_n 0, 1) := by decide +kernel
theorem d88_120 : decode prog_10_method_28_code 120 = .ok (.iload_n 1, 1) := by decide +kernel
theorem d88_121 : decode prog_10_method_28_code 121 = .ok (.iload_n 2, 1) := by decide +kernel
theorem d88_122 : decode prog_10_method_28_code 122 = .ok (.iload_n 3, 1) := by decide +kernel
theorem d88_123 : decode prog_10_method_28_code 123 = .ok (.iload 7, 2) := by decide +kernel
theorem d88_125 : decode prog_10_method_28_code 125 = .ok (.ifCond .eq 16, 3) := by decide +kernel
theorem d88_128 : decode prog_10_method_28_code 128 = .ok (.aload_n 0, 1) := by decide +kernel
theorem d88_129 : decode prog_10_method_28_code 129 = .ok (.getfield 78, 3) := by decide +kernel
theorem d88_132 : decode prog_10_method_28_code 132 = .ok (.iload 6, 2) := by decide +kernel
theorem d88_134 : decode prog_10_method_28_code 134 = .ok (.iload 4, 2) := by decide +kernel
theorem d88_136 : decode prog_10_method_28_code 136 = .ok (.iadd, 1) := by decide +kernel
theorem d88_137 : decode prog_10_method_28_code 137 = .ok (.laload, 1) := by decide +kernel
theorem d88_138 : decode prog_10_method_28_code 138 = .ok (.goto 4, 3) := by decide +kernel
theorem d88_141 : decode prog_10_method_28_code 141 = .ok (.lconst 0, 1) := by decide +kernel
theorem d88_142 : decode prog_10_method_28_code 142 = .ok (.iload 8, 2) := by decide +kernel
theorem d88_144 : decode prog_10_method_28_code 144 = .ok (.ifCond .eq 16, 3) := by decide +kernel
theorem d88_147 : decode prog_10_method_28_code 147 = .ok (.aload_n 0, 1) := by decide +kernel
theorem d88_148 : decode prog_10_method_28_code 148 = .ok (.getfield 78, 3) := by decide +kernel
theorem d88_151 : decode prog_10_method_28_code 151 = .ok (.iload 6, 2) := by decide +kernel
theorem d88_153 : decode prog_10_method_28_code 153 = .ok (.iload 5, 2) := by decide +kernel
theorem d88_155 : decode prog_10_method_28_code 155 = .ok (.iadd, 1) := by decide +kernel
theorem d88_156 : decode prog_10_method_28_code 156 = .ok (.laload, 1) := by decide +kernel
theorem d88_157 : decode prog_10_method_28_code 157 = .ok (.goto 4, 3) := by decide +kernel
theorem d88_160 : decode prog_10_method_28_code 160 = .ok (.lconst 0, 1) := by decide +kernel
theorem d88_161 : decode prog_10_method_28_code 161 = .ok (.invokevirtual 196, 3) := by decide +kernel
theorem d88_164 : decode prog_10_method_28_code 164 = .ok (.istore 9, 2) := by decide +kernel
theorem d88_166 : decode prog_10_method_28_code 166 = .ok (.iload 9, 2) := by decide +kernel
theorem d88_168 : decode prog_10_method_28_code 168 = .ok (.ifCond .ge 4, 3) := by decide +kernel
theorem d88_171 : decode prog_10_method_28_code 171 = .ok (.return_, 1) := by decide +kernel
theorem d88_172 : decode prog_10_method_28_code 172 = .ok (.iload 7, 2) := by decide +kernel
theorem d88_174 : decode prog_10_method_28_code 174 = .ok (.ifCond .ne 32, 3) := by decide +kernel
theorem d88_177 : decode prog_10_method_28_code 177 = .ok (.iload 4, 2) := by decide +kernel
theorem d88_179 : decode prog_10_method_28_code 179 = .ok (.ifCond .lt 27, 3) := by decide +kernel
theorem d88_182 : decode prog_10_method_28_code 182 = .ok (.aload_n 0, 1) := by decide +kernel
theorem d88_183 : decode prog_10_method_28_code 183 = .ok (.iload_n 1, 1) := by decide +kernel
theorem d88_184 : decode prog_10_method_28_code 184 = .ok (.iload_n 2, 1) := by decide +kernel
theorem d88_185 : decode prog_10_method_28_code 185 = .ok (.iload 4, 2) := by decide +kernel
theorem d88_187 : decode prog_10_method_28_code 187 = .ok (.aload_n 0, 1) := by decide +kernel
theorem d88_188 : decode prog_10_method_28_code 188 = .ok (.iload 9, 2) := by decide +kernel
theorem d88_190 : decode prog_10_method_28_code 190 = .ok (.aload_n 0, 1) := by decide +kernel
theorem d88_191 : decode prog_10_method_28_code 191 = .ok (.getfield 45, 3) := by decide +kernel
theorem d88_194 : decode prog_10_method_28_code 194 = .ok (.iload_n 3, 1) := by decide +kernel
theorem d88_195 : decode prog_10_method_28_code 195 = .ok (.iaload, 1) := by decide +kernel
theorem d88_196 : decode prog_10_method_28_code 196 = .ok (.invokevirtual 188, 3) := by decide +kernel
theorem d88_199 : decode prog_10_method_28_code 199 = .ok (.invokevirtual 200, 3) := by decide +kernel
theorem d88_202 : decode prog_10_method_28_code 202 = .ok (.ifCond .ne 4, 3) := by decide +kernel
theorem d88_205 : decode prog_10_method_28_code 205 = .ok (.return_, 1) := by decide +kernel
theorem d88_206 : decode prog_10_method_28_code 206 = .ok (.iload 8, 2) := by decide +kernel
theorem d88_208 : decode prog_10_method_28_code 208 = .ok (.ifCond .ne 32, 3) := by decide +kernel
theorem d88_211 : decode prog_10_method_28_code 211 = .ok (.iload 5, 2) := by decide +kernel
theorem d88_213 : decode prog_10_method_28_code 213 = .ok (.ifCond .lt 27, 3) := by decide +kernel
theorem d88_216 : decode prog_10_method_28_code 216 = .ok (.aload_n 0, 1) := by decide +kernel
theorem d88_217 : decode prog_10_method_28_code 217 = .ok (.iload_n 1, 1) := by decide +kernel
theorem d88_218 : decode prog_10_method_28_code 218 = .ok (.iload_n 2, 1) := by decide +kernel
theorem d88_219 : decode prog_10_method_28_code 219 = .ok (.iload 5, 2) := by decide +kernel
theorem d88_221 : decode prog_10_method_28_code 221 = .ok (.aload_n 0, 1) := by decide +kernel
theorem d88_222 : decode prog_10_method_28_code 222 = .ok (.iload 9, 2) := by decide +kernel
theorem d88_224 : decode prog_10_method_28_code 224 = .ok (.aload_n 0, 1) := by decide +kernel
theorem d88_225 : decode prog_10_method_28_code 225 = .ok (.getfield 48, 3) := by decide +kernel
theorem d88_228 : decode prog_10_method_28_code 228 = .ok (.iload_n 3, 1) := by decide +kernel
theorem d88_229 : decode prog_10_method_28_code 229 = .ok (.iaload, 1) := by decide +kernel
theorem d88_230 : decode prog_10_method_28_code 230 = .ok (.invokevirtual 188, 3) := by decide +kernel
theorem d88_233 : decode prog_10_method_28_code 233 = .ok (.invokevirtual 200, 3) := by decide +kernel
theorem d88_236 : decode prog_10_method_28_code 236 = .ok (.ifCond .ne 4, 3) := by decide +kernel
theorem d88_239 : decode prog_10_method_28_code 239 = .ok (.return_, 1) := by decide +kernel
theorem d88_240 : decode prog_10_method_28_code 240 = .ok (.aload_n 0, 1) := by decide +kernel
theorem d88_241 : decode prog_10_method_28_code 241 = .ok (.getfield 75, 3) := by decide +kernel
theorem d88_244 : decode prog_10_method_28_code 244 = .ok (.iload 6, 2) := by decide +kernel
theorem d88_246 : decode prog_10_method_28_code 246 = .ok (.iload_n 2, 1) := by decide +kernel
theorem d88_247 : decode prog_10_method_28_code 247 = .ok (.iadd, 1) := by decide +kernel
theorem d88_248 : decode prog_10_method_28_code 248 = .ok (.iload 9, 2) := by decide +kernel
theorem d88_250 : decode prog_10_method_28_code 250 = .ok (.iastore, 1) := by decide +kernel
theorem d88_251 : decode prog_10_method_28_code 251 = .ok (.aload_n 0, 1) := by decide +kernel
theorem d88_252 : decode prog_10_method_28_code 252 = .ok (.iload_n 1, 1) := by decide +kernel
theorem d88_253 : decode prog_10_method_28_code 253 = .ok (.iload_n 2, 1) := by decide +kernel
theorem d88_254 : decode prog_10_method_28_code 254 = .ok (.aload_n 0, 1) := by decide +kernel
theorem d88_255 : decode prog_10_method_28_code 255 = .ok (.iload 9, 2) := by decide +kernel
theorem d88_257 : decode prog_10_method_28_code 257 = .ok (.aload_n 0, 1) := by decide +kernel
theorem d88_258 : decode prog_10_method_28_code 258 = .ok (.getfield 51, 3) := by decide +kernel
theorem d88_261 : decode prog_10_method_28_code 261 = .ok (.iload_n 3, 1) := by decide +kernel
theorem d88_262 : decode prog_10_method_28_code 262 = .ok (.iaload, 1) := by decide +kernel
theorem d88_263 : decode prog_10_method_28_code 263 = .ok (.invokevirtual 188, 3) := by decide +kernel
theorem d88_266 : decode prog_10_method_28_code 266 = .ok (.iconst 0, 1) := by decide +kernel
theorem d88_267 : decode prog_10_method_28_code 267 = .ok (.lconst 0, 1) := by decide +kernel
theorem d88_268 : decode prog_10_method_28_code 268 = .ok (.invokevirtual 184, 3) := by decide +kernel
theorem d88_271 : decode prog_10_method_28_code 271 = .ok (.return_, 1) := by decide +kernel
theorem d89_0 : decode prog_10_method_29_code 0 = .ok (.aload_n 0, 1) := by decide +kernel
theorem d89_1 : decode prog_10_method_29_code 1 = .ok (.getfield 25, 3) := by decide +kernel
theorem d89_4 : decode prog_10_method_29_code 4 = .ok (.iload_n 2, 1) := by decide +kernel
theorem d89_5 : decode prog_10_method_29_code 5 = .ok (.iaload, 1) := by decide +kernel
theorem d89_6 : decode prog_10_method_29_code 6 = .ok (.istore_n 3, 1) := by decide +kernel
theorem d89_7 : decode prog_10_method_29_code 7 = .ok (.aload_n 0, 1) := by decide +kernel
theorem d89_8 : decode prog_10_method_29_code 8 = .ok (.getfield 29, 3) := by decide +kernel
theorem d89_11 : decode prog_10_method_29_code 11 = .ok (.iload_n 2, 1) := by decide +kernel
theorem d89_12 : decode prog_10_method_29_code 12 = .ok (.iaload, 1) := by decide +kernel
theorem d89_13 : decode prog_10_method_29_code 13 = .ok (.istore 4, 2) := by decide +kernel
theorem d89_15 : decode prog_10_method_29_code 15 = .ok (.aload_n 0, 1) := by decide +kernel
theorem d89_16 : decode prog_10_method_29_code 16 = .ok (.getfield 57, 3) := by decide +kernel
theorem d89_19 : decode prog_10_method_29_code 19 = .ok (.iload_n 1, 1) := by decide +kernel
theorem d89_20 : decode prog_10_method_29_code 20 = .ok (.iaload, 1) := by decide +kernel
theorem d89_21 : decode prog_10_method_29_code 21 = .ok (.istore 5, 2) := by decide +kernel
theorem d89_23 : decode prog_10_method_29_code 23 = .ok (.iload_n 3, 1) := by decide +kernel
theorem d89_24 : decode prog_10_method_29_code 24 = .ok (.ifCond .ne 19, 3) := by decide +kernel
theorem d89_27 : decode prog_10_method_29_code 27 = .ok (.aload_n 0, 1) := by decide +kernel
theorem d89_28 : decode prog_10_method_29_code 28 = .ok (.iload_n 1, 1) := by decide +kernel
theorem d89_29 : decode prog_10_method_29_code 29 = .ok (.iload_n 2, 1) := by decide +kernel
theorem d89_30 : decode prog_10_method_29_code 30 = .ok (.sipush 300, 3) := by decide +kernel
theorem d89_33 : decode prog_10_method_29_code 33 = .ok (.iconst 1, 1) := by decide +kernel
theorem d89_34 : decode prog_10_method_29_code 34 = .ok (.iload 4, 2) := by decide +kernel
theorem d89_36 : decode prog_10_method_29_code 36 = .ok (.i2l, 1) := by decide +kernel
theorem d89_37 : decode prog_10_method_29_code 37 = .ok (.invokevirtual 184, 3) := by decide +kernel
theorem d89_40 : decode prog_10_method_29_code 40 = .ok (.goto 246, 3) := by decide +kernel
theorem d89_43 : decode prog_10_method_29_code 43 = .ok (.iload_n 3, 1) := by decide +kernel
theorem d89_44 : decode prog_10_method_29_code 44 = .ok (.iconst 1, 1) := by decide +kernel
theorem d89_45 : decode prog_10_method_29_code 45 = .ok (.if_icmp .ne 29, 3) := by decide +kernel
theorem d89_48 : decode prog_10_method_29_code 48 = .ok (.aload_n 0, 1) := by decide +kernel
theorem d89_49 : decode prog_10_method_29_code 49 = .ok (.iload 5, 2) := by decide +kernel
theorem d89_51 : decode prog_10_method_29_code 51 = .ok (.iload 4, 2) := by decide +kernel
theorem d89_53 : decode prog_10_method_29_code 53 = .ok (.invokevirtual 204, 3) := by decide +kernel
theorem d89_56 : decode prog_10_method_29_code 56 = .ok (.sipush 400, 3) := by decide +kernel
theorem d89_59 : decode prog_10_method_29_code 59 = .ok (.if_icmp .ne 15, 3) := by decide +kernel
theorem d89_62 : decode prog_10_method_29_code 62 = .ok (.aload_n 0, 1) := by decide +kernel
theorem d89_63 : decode prog_10_method_29_code 63 = .ok (.bipush (-2), 2) := by decide +kernel
theorem d89_65 : decode prog_10_method_29_code 65 = .ok (.iload_n 1, 1) := by decide +kernel
theorem d89_66 : decode prog_10_method_29_code 66 = .ok (.iload_n 2, 1) := by decide +kernel
theorem d89_67 : decode prog_10_method_29_code 67 = .ok (.invokevirtual 162, 3) := by decide +kernel
theorem d89_70 : decode prog_10_method_29_code 70 = .ok (.pop, 1) := by decide +kernel
theorem d89_71 : decode prog_10_method_29_code 71 = .ok (.goto 215, 3) := by decide +kernel
theorem d89_74 : decode prog_10_method_29_code 74 = .ok (.iload_n 3, 1) := by decide +kernel
theorem d89_75 : decode prog_10_method_29_code 75 = .ok (.iconst 1, 1) := by decide +kernel
theorem d89_76 : decode prog_10_method_29_code 76 = .ok (.if_icmp .ne 64, 3) := by decide +kernel
theorem d89_79 : decode prog_10_method_29_code 79 = .ok (.aload_n 0, 1) := by decide +kernel
theorem d89_80 : decode prog_10_method_29_code 80 = .ok (.iload_n 1, 1) := by decide +kernel
theorem d89_81 : decode prog_10_method_29_code 81 = .ok (.iload_n 2, 1) := by decide +kernel
theorem d89_82 : decode prog_10_method_29_code 82 = .ok (.aload_n 0, 1) := by decide +kernel
theorem d89_83 : decode prog_10_method_29_code 83 = .ok (.iload_n 1, 1) := by decide +kernel
theorem d89_84 : decode prog_10_method_29_code 84 = .ok (.aload_n 0, 1) := by decide +kernel
theorem d89_85 : decode prog_10_method_29_code 85 = .ok (.iload 5, 2) := by decide +kernel
theorem d89_87 : decode prog_10_method_29_code 87 = .ok (.iload 4, 2) := by decide +kernel
theorem d89_89 : decode prog_10_method_29_code 89 = .ok (.invokevirtual 204, 3) := by decide +kernel
theorem d89_92 : decode prog_10_method_29_code 92 = .ok (.invokevirtual 188, 3) := by decide +kernel
theorem d89_95 : decode prog_10_method_29_code 95 = .ok (.aload_n 0, 1) := by decide +kernel
theorem d89_96 : decode prog_10_method_29_code 96 = .ok (.iload 5, 2) := by decide +kernel
theorem d89_98 : decode prog_10_method_29_code 98 = .ok (.iload 4, 2) := by decide +kernel
theorem d89_100 : decode prog_10_method_29_code 100 = .ok (.invokevirtual 204, 3) := by decide +kernel
theorem d89_103 : decode prog_10_method_29_code 103 = .ok (.sipush 300, 3) := by decide +kernel
theorem d89_106 : decode prog_10_method_29_code 106 = .ok (.if_icmp .ne 7, 3) := by decide +kernel
theorem d89_109 : decode prog_10_method_29_code 109 = .ok (.iconst 1, 1) := by decide +kernel
theorem d89_110 : decode prog_10_method_29_code 110 = .ok (.goto 4, 3) := by decide +kernel
theorem d89_113 : decode prog_10_method_29_code 113 = .ok (.iconst 0, 1) := by decide +kernel
theorem d89_114 : decode prog_10_method_29_code 114 = .ok (.iload 4, 2) := by decide +kernel
theorem d89_116 : decode prog_10_method_29_code 116 = .ok (.ifCond .ne 12, 3) := by decide +kernel
theorem d89_119 : decode prog_10_method_29_code 119 = .ok (.aload_n 0, 1) := by decide +kernel
theorem d89_120 : decode prog_10_method_29_code 120 = .ok (.getfield 119, 3) := by decide +kernel
theorem d89_123 : decode prog_10_method_29_code 123 = .ok (.iload_n 1, 1) := by decide +kernel
theorem d89_124 : decode prog_10_method_29_code 124 = .ok (.laload, 1) := by decide +kernel
theorem d89_125 : decode prog_10_method_29_code 125 = .ok (.goto 9, 3) := by decide +kernel
theorem d89_128 : decode prog_10_method_29_code 128 = .ok (.aload_n 0, 1) := by decide +kernel
theorem d89_129 : decode prog_10_method_29_code 129 = .ok (.getfield 122, 3) := by decide +kernel
theorem d89_132 : decode prog_10_method_29_code 132 = .ok (.iload_n 1, 1) := by decide +kernel
theorem d89_133 : decode prog_10_method_29_code 133 = .ok (.laload, 1) := by decide +kernel
theorem d89_134 : decode prog_10_method_29_code 134 = .ok (.invokevirtual 184, 3) := by decide +kernel
theorem d89_137 : decode prog_10_method_29_code 137 = .ok (.goto 149, 3) := by decide +kernel
theorem d89_140 : decode prog_10_method_29_code 140 = .ok (.iload_n 3, 1) := by decide +kernel
theorem d89_141 : decode prog_10_method_29_code 141 = .ok (.bipush 13, 2) := by decide +kernel
theorem d89_143 : decode prog_10_method_29_code 143 = .ok (.if_icmp .ge 12, 3) := by decide +kernel
theorem d89_146 : decode prog_10_method_29_code 146 = .ok (.aload_n 0, 1) := by decide +kernel
theorem d89_147 : decode prog_10_method_29_code 147 = .ok (.iload_n 1, 1) := by decide +kernel
theorem d89_148 : decode prog_10_method_29_code 148 = .ok (.iload_n 2, 1) := by decide +kernel
theorem d89_149 : decode prog_10_method_29_code 149 = .ok (.invokevirtual 207, 3) := by decide +kernel
theorem d89_152 : decode prog_10_method_29_code 152 = .ok (.goto 134, 3) := by decide +kernel
theorem d89_155 : decode prog_10_method_29_code 155 = .ok (.iload_n 3, 1) := by decide +kernel
theorem d89_156 : decode prog_10_method_29_code 156 = .ok (.bipush 13, 2) := by decide +kernel
theorem d89_158 : decode prog_10_method_29_code 158 = .ok (.if_icmp .ne 12, 3) := by decide +kernel
theorem d89_161 : decode prog_10_method_29_code 161 = .ok (.aload_n 0, 1) := by decide +kernel
theorem d89_162 : decode prog_10_method_29_code 162 = .ok (.iload_n 1, 1) := by decide +kernel
theorem d89_163 : decode prog_10_method_29_code 163 = .ok (.iload_n 2, 1) := by decide +kernel
theorem d89_164 : decode prog_10_method_29_code 164 = .ok (.invokevirtual 211, 3) := by decide +kernel
theorem d89_167 : decode prog_10_method_29_code 167 = .ok (.goto 119, 3) := by decide +kernel
theorem d89_170 : decode prog_10_method_29_code 170 = .ok (.iload_n 3, 1) := by decide +kernel
theorem d89_171 : decode prog_10_method_29_code 171 = .ok (.bipush 14, 2) := by decide +kernel
theorem d89_173 : decode prog_10_method_29_code 173 = .ok (.if_icmp .ne 12, 3) := by decide +kernel
theorem d89_176 : decode prog_10_method_29_code 176 = .ok (.aload_n 0, 1) := by decide +kernel
theorem d89_177 : decode prog_10_method_29_code 177 = .ok (.iload_n 1, 1) := by decide +kernel
theorem d89_178 : decode prog_10_method_29_code 178 = .ok (.iload_n 2, 1) := by decide +kernel
theorem d89_179 : decode prog_10_method_29_code 179 = .ok (.invokevirtual 214, 3) := by decide +kernel
theorem d89_182 : decode prog_10_method_29_code 182 = .ok (.goto 104, 3) := by decide +kernel
theorem d89_185 : decode prog_10_method_29_code 185 = .ok (.iload_n 3, 1) := by decide +kernel
theorem d89_186 : decode prog_10_method_29_code 186 = .ok (.bipush 15, 2) := by decide +kernel
theorem d89_188 : decode prog_10_method_29_code 188 = .ok (.if_icmp .ne 12, 3) := by decide +kernel
theorem d89_191 : decode prog_10_method_29_code 191 = .ok (.aload_n 0, 1) := by decide +kernel
theorem d89_192 : decode prog_10_method_29_code 192 = .ok (.iload_n 1, 1) := by decide +kernel
theorem d89_193 : decode prog_10_method_29_code 193 = .ok (.iload_n 2, 1) := by decide +kernel
theorem d89_194 : decode prog_10_method_29_code 194 = .ok (.invokevirtual 217, 3) := by decide +kernel
theorem d89_197 : decode prog_10_method_29_code 197 = .ok (.goto 89, 3) := by decide +kernel
theorem d89_200 : decode prog_10_method_29_code 200 = .ok (.aload_n 0, 1) := by decide +kernel
theorem d89_201 : decode prog_10_method_29_code 201 = .ok (.aload_n 0, 1) := by decide +kernel
theorem d89_202 : decode prog_10_method_29_code 202 = .ok (.getfield 72, 3) := by decide +kernel
theorem d89_205 : decode prog_10_method_29_code 205 = .ok (.iload_n 1, 1) := by decide +kernel
theorem d89_206 : decode prog_10_method_29_code 206 = .ok (.bipush 60, 2) := by decide +kernel
theorem d89_208 : decode prog_10_method_29_code 208 = .ok (.imul, 1) := by decide +kernel
theorem d89_209 : decode prog_10_method_29_code 209 = .ok (.iload 4, 2) := by decide +kernel
theorem d89_211 : decode prog_10_method_29_code 211 = .ok (.iadd, 1) := by decide +kernel
theorem d89_212 : decode prog_10_method_29_code 212 = .ok (.iaload, 1) := by decide +kernel
theorem d89_213 : decode prog_10_method_29_code 213 = .ok (.invokevirtual 165, 3) := by decide +kernel
theorem d89_216 : decode prog_10_method_29_code 216 = .ok (.ifCond .ne 15, 3) := by decide +kernel
theorem d89_219 : decode prog_10_method_29_code 219 = .ok (.aload_n 0, 1) := by decide +kernel
theorem d89_220 : decode prog_10_method_29_code 220 = .ok (.bipush (-2), 2) := by decide +kernel
theorem d89_222 : decode prog_10_method_29_code 222 = .ok (.iload_n 1, 1) := by decide +kernel
theorem d89_223 : decode prog_10_method_29_code 223 = .ok (.iload_n 2, 1) := by decide +kernel
theorem d89_224 : decode prog_10_method_29_code 224 = .ok (.invokevirtual 162, 3) := by decide +kernel
theorem d89_227 : decode prog_10_method_29_code 227 = .ok (.pop, 1) := by decide +kernel
theorem d89_228 : decode prog_10_method_29_code 228 = .ok (.goto 58, 3) := by decide +kernel
theorem d89_231 : decode prog_10_method_29_code 231 = .ok (.aload_n 0, 1) := by decide +kernel
theorem d89_232 : decode prog_10_method_29_code 232 = .ok (.iload_n 1, 1) := by decide +kernel
theorem d89_233 : decode prog_10_method_29_code 233 = .ok (.iload_n 2, 1) := by decide +kernel
theorem d89_234 : decode prog_10_method_29_code 234 = .ok (.sipush 300, 3) := by decide +kernel
theorem d89_237 : decode prog_10_method_29_code 237 = .ok (.iconst 1, 1) := by decide +kernel
theorem d89_238 : decode prog_10_method_29_code 238 = .ok (.aload_n 0, 1) := by decide +kernel
theorem d89_239 : decode prog_10_method_29_code 239 = .ok (.getfield 72, 3) := by decide +kernel
theorem d89_242 : decode prog_10_method_29_code 242 = .ok (.iload_n 1, 1) := by decide +kernel
theorem d89_243 : decode prog_10_method_29_code 243 = .ok (.bipush 60, 2) := by decide +kernel
theorem d89_245 : decode prog_10_method_29_code 245 = .ok (.imul, 1) := by decide +kernel
theorem d89_246 : decode prog_10_method_29_code 246 = .ok (.iload 4, 2) := by decide +kernel
theorem d89_248 : decode prog_10_method_29_code 248 = .ok (.iadd, 1) := by decide +kernel
theorem d89_249 : decode prog_10_method_29_code 249 = .ok (.iaload, 1) := by decide +kernel
theorem d89_250 : decode prog_10_method_29_code 250 = .ok (.ifCond .ge 20, 3) := by decide +kernel
theorem d89_253 : decode prog_10_method_29_code 253 = .ok (.aload_n 0, 1) := by decide +kernel
theorem d89_254 : decode prog_10_method_29_code 254 = .ok (.getfield 72, 3) := by decide +kernel
theorem d89_257 : decode prog_10_method_29_code 257 = .ok (.iload_n 1, 1) := by decide +kernel
theorem d89_258 : decode prog_10_method_29_code 258 = .ok (.bipush 60, 2) := by decide +kernel
theorem d89_260 : decode prog_10_method_29_code 260 = .ok (.imul, 1) := by decide +kernel
theorem d89_261 : decode prog_10_method_29_code 261 = .ok (.iload 4, 2) := by decide +kernel
theorem d89_263 : decode prog_10_method_29_code 263 = .ok (.iadd, 1) := by decide +kernel
theorem d89_264 : decode prog_10_method_29_code 264 = .ok (.iaload, 1) := by decide +kernel
theorem d89_265 : decode prog_10_method_29_code 265 = .ok (.ineg, 1) := by decide +kernel
theorem d89_266 : decode prog_10_method_29_code 266 = .ok (.i2l, 1) := by decide +kernel
theorem d89_267 : decode prog_10_method_29_code 267 = .ok (.goto 16, 3) := by decide +kernel
theorem d89_270 : decode prog_10_method_29_code 270 = .ok (.aload_n 0, 1) := by decide +kernel
theorem d89_271 : decode prog_10_method_29_code 271 = .ok (.getfield 72, 3) := by decide +kernel
theorem d89_274 : decode prog_10_method_29_code 274 = .ok (.iload_n 1, 1) := by decide +kernel
theorem d89_275 : decode prog_10_method_29_code 275 = .ok (.bipush 60, 2) := by decide +kernel
theorem d89_277 : decode prog_10_method_29_code 277 = .ok (.imul, 1) := by decide +kernel
theorem d89_278 : decode prog_10_method_29_code 278 = .ok (.iload 4, 2) := by decide +kernel
theorem d89_280 : decode prog_10_method_29_code 280 = .ok (.iadd, 1) := by decide +kernel
theorem d89_281 : decode prog_10_method_29_code 281 = .ok (.iaload, 1) := by decide +kernel
theorem d89_282 : decode prog_10_method_29_code 282 = .ok (.i2l, 1) := by decide +kernel
theorem d89_283 : decode prog_10_method_29_code 283 = .ok (.invokevirtual 184, 3) := by decide +kernel
theorem d89_286 : decode prog_10_method_29_code 286 = .ok (.return_, 1) := by decide +kernel
theorem d90_0 : decode prog_10_method_30_code 0 = .ok (.aload_n 0, 1) := by decide +kernel
theorem d90_1 : decode prog_10_method_30_code 1 = .ok (.getfield 54, 3) := by decide +kernel
theorem d90_4 : decode prog_10_method_30_code 4 = .ok (.aload_n 0, 1) := by decide +kernel
theorem d90_5 : decode prog_10_method_30_code 5 = .ok (.getfield 57, 3) := by decide +kernel
theorem d90_8 : decode prog_10_method_30_code 8 = .ok (.iload_n 1, 1) := by decide +kernel
theorem d90_9 : decode prog_10_method_30_code 9 = .ok (.iaload, 1) := by decide +kernel
theorem d90_10 : decode prog_10_method_30_code 10 = .ok (.iaload, 1) := by decide +kernel
theorem d90_11 : decode prog_10_method_30_code 11 = .ok (.istore_n 2, 1) := by decide +kernel
theorem d90_12 : decode prog_10_method_30_code 12 = .ok (.iconst 0, 1) := by decide +kernel
theorem d90_13 : decode prog_10_method_30_code 13 = .ok (.istore_n 3, 1) := by decide +kernel
theorem d90_14 : decode prog_10_method_30_code 14 = .ok (.iload_n 3, 1) := by decide +kernel
theorem d90_15 : decode prog_10_method_30_code 15 = .ok (.bipush 61, 2) := by decide +kernel
theorem d90_17 : decode prog_10_method_30_code 17 = .ok (.if_icmp .ge 77, 3) := by decide +kernel
theorem d90_20 : decode prog_10_method_30_code 20 = .ok (.aload_n 0, 1) := by decide +kernel
theorem d90_21 : decode prog_10_method_30_code 21 = .ok (.getfield 66, 3) := by decide +kernel
theorem d90_24 : decode prog_10_method_30_code 24 = .ok (.iload_n 1, 1) := by decide +kernel
theorem d90_25 : decode prog_10_method_30_code 25 = .ok (.bipush 60, 2) := by decide +kernel
theorem d90_27 : decode prog_10_method_30_code 27 = .ok (.imul, 1) := by decide +kernel
theorem d90_28 : decode prog_10_method_30_code 28 = .ok (.iload_n 2, 1) := by decide +kernel
theorem d90_29 : decode prog_10_method_30_code 29 = .ok (.iadd, 1) := by decide +kernel
theorem d90_30 : decode prog_10_method_30_code 30 = .ok (.baload, 1) := by decide +kernel
theorem d90_31 : decode prog_10_method_30_code 31 = .ok (.ifCond .ne 63, 3) := by decide +kernel
theorem d90_34 : decode prog_10_method_30_code 34 = .ok (.aload_n 0, 1) := by decide +kernel
theorem d90_35 : decode prog_10_method_30_code 35 = .ok (.getfield 13, 3) := by decide +kernel
theorem d90_38 : decode prog_10_method_30_code 38 = .ok (.ifCond .ne 56, 3) := by decide +kernel
theorem d90_41 : decode prog_10_method_30_code 41 = .ok (.iload_n 2, 1) := by decide +kernel
theorem d90_42 : decode prog_10_method_30_code 42 = .ok (.istore 4, 2) := by decide +kernel
theorem d90_44 : decode prog_10_method_30_code 44 = .ok (.aload_n 0, 1) := by decide +kernel
theorem d90_45 : decode prog_10_method_30_code 45 = .ok (.iload_n 1, 1) := by decide +kernel
theorem d90_46 : decode prog_10_method_30_code 46 = .ok (.iload 4, 2) := by decide +kernel
theorem d90_48 : decode prog_10_method_30_code 48 = .ok (.invokevirtual 220, 3) := by decide +kernel
theorem d90_51 : decode prog_10_method_30_code 51 = .ok (.istore 5, 2) := by decide +kernel
theorem d90_53 : decode prog_10_method_30_code 53 = .ok (.iload 5, 2) := by decide +kernel
theorem d90_55 : decode prog_10_method_30_code 55 = .ok (.ifCond .lt 19, 3) := by decide +kernel
theorem d90_58 : decode prog_10_method_30_code 58 = .ok (.iload 5, 2) := by decide +kernel
theorem d90_60 : decode prog_10_method_30_code 60 = .ok (.istore 4, 2) := by decide +kernel
theorem d90_62 : decode prog_10_method_30_code 62 = .ok (.aload_n 0, 1) := by decide +kernel
theorem d90_63 : decode prog_10_method_30_code 63 = .ok (.iload_n 1, 1) := by decide +kernel
theorem d90_64 : decode prog_10_method_30_code 64 = .ok (.iload 4, 2) := by decide +kernel
theorem d90_66 : decode prog_10_method_30_code 66 = .ok (.invokevirtual 220, 3) := by decide +kernel
theorem d90_69 : decode prog_10_method_30_code 69 = .ok (.istore 5, 2) := by decide +kernel
theorem d90_71 : decode prog_10_method_30_code 71 = .ok (.goto (-18), 3) := by decide +kernel
theorem d90_74 : decode prog_10_method_30_code 74 = .ok (.aload_n 0, 1) := by decide +kernel
theorem d90_75 : decode prog_10_method_30_code 75 = .ok (.getfield 13, 3) := by decide +kernel
theorem d90_78 : decode prog_10_method_30_code 78 = .ok (.ifCond .ne 10, 3) := by decide +kernel
theorem d90_81 : decode prog_10_method_30_code 81 = .ok (.aload_n 0, 1) := by decide +kernel
theorem d90_82 : decode prog_10_method_30_code 82 = .ok (.iload_n 1, 1) := by decide +kernel
theorem d90_83 : decode prog_10_method_30_code 83 = .ok (.iload 4, 2) := by decide +kernel
theorem d90_85 : decode prog_10_method_30_code 85 = .ok (.invokevirtual 223, 3) := by decide +kernel
theorem d90_88 : decode prog_10_method_30_code 88 = .ok (.iinc 3 1, 3) := by decide +kernel
theorem d90_91 : decode prog_10_method_30_code 91 = .ok (.goto (-77), 3) := by decide +kernel
theorem d90_94 : decode prog_10_method_30_code 94 = .ok (.aload_n 0, 1) := by decide +kernel
theorem d90_95 : decode prog_10_method_30_code 95 = .ok (.getfield 13, 3) := by decide +kernel
theorem d90_98 : decode prog_10_method_30_code 98 = .ok (.ifCond .eq 4, 3) := by decide +kernel
theorem d90_101 : decode prog_10_method_30_code 101 = .ok (.return_, 1) := by decide +kernel
theorem d90_102 : decode prog_10_method_30_code 102 = .ok (.aload_n 0, 1) := by decide +kernel
theorem d90_103 : decode prog_10_method_30_code 103 = .ok (.iload_n 1, 1) := by decide +kernel
theorem d90_104 : decode prog_10_method_30_code 104 = .ok (.iload_n 2, 1) := by decide +kernel
theorem d90_105 : decode prog_10_method_30_code 105 = .ok (.iload_n 2, 1) := by decide +kernel
theorem d90_106 : decode prog_10_method_30_code 106 = .ok (.aload_n 0, 1) := by decide +kernel
theorem d90_107 : decode prog_10_method_30_code 107 = .ok (.iload_n 1, 1) := by decide +kernel
theorem d90_108 : decode prog_10_method_30_code 108 = .ok (.aload_n 0, 1) := by decide +kernel
theorem d90_109 : decode prog_10_method_30_code 109 = .ok (.getfield 51, 3) := by decide +kernel
theorem d90_112 : decode prog_10_method_30_code 112 = .ok (.aload_n 0, 1) := by decide +kernel
theorem d90_113 : decode prog_10_method_30_code 113 = .ok (.getfield 57, 3) := by decide +kernel
theorem d90_116 : decode prog_10_method_30_code 116 = .ok (.iload_n 1, 1) := by decide +kernel
theorem d90_117 : decode prog_10_method_30_code 117 = .ok (.iaload, 1) := by decide +kernel
theorem d90_118 : decode prog_10_method_30_code 118 = .ok (.iaload, 1) := by decide +kernel
theorem d90_119 : decode prog_10_method_30_code 119 = .ok (.invokevirtual 188, 3) := by decide +kernel
theorem d90_122 : decode prog_10_method_30_code 122 = .ok (.invokevirtual 200, 3) := by decide +kernel
theorem d90_125 : decode prog_10_method_30_code 125 = .ok (.pop, 1) := by decide +kernel
theorem d90_126 : decode prog_10_method_30_code 126 = .ok (.return_, 1) := by decide +kernel
theorem d91_0 : decode prog_10_method_31_code 0 = .ok (.iload_n 1, 1) := by decide +kernel
theorem d91_1 : decode prog_10_method_31_code 1 = .ok (.ifCond .lt 18, 3) := by decide +kernel
theorem d91_4 : decode prog_10_method_31_code 4 = .ok (.iload_n 1, 1) := by decide +kernel
theorem d91_5 : decode prog_10_method_31_code 5 = .ok (.bipush 7, 2) := by decide +kernel
theorem d91_7 : decode prog_10_method_31_code 7 = .ok (.if_icmp .gt 12, 3) := by decide +kernel
theorem d91_10 : decode prog_10_method_31_code 10 = .ok (.aload_n 0, 1) := by decide +kernel
theorem d91_11 : decode prog_10_method_31_code 11 = .ok (.getfield 41, 3) := by decide +kernel
theorem d91_14 : decode prog_10_method_31_code 14 = .ok (.iload_n 1, 1) := by decide +kernel
theorem d91_15 : decode prog_10_method_31_code 15 = .ok (.baload, 1) := by decide +kernel
theorem d91_16 : decode prog_10_method_31_code 16 = .ok (.ifCond .ne 5, 3) := by decide +kernel
theorem d91_19 : decode prog_10_method_31_code 19 = .ok (.iconst (-1), 1) := by decide +kernel
theorem d91_20 : decode prog_10_method_31_code 20 = .ok (.ireturn, 1) := by decide +kernel
theorem d91_21 : decode prog_10_method_31_code 21 = .ok (.aload_n 0, 1) := by decide +kernel
theorem d91_22 : decode prog_10_method_31_code 22 = .ok (.iconst 0, 1) := by decide +kernel
theorem d91_23 : decode prog_10_method_31_code 23 = .ok (.putfield 19, 3) := by decide +kernel
theorem d91_26 : decode prog_10_method_31_code 26 = .ok (.aload_n 0, 1) := by decide +kernel
theorem d91_27 : decode prog_10_method_31_code 27 = .ok (.iconst 0, 1) := by decide +kernel
theorem d91_28 : decode prog_10_method_31_code 28 = .ok (.putfield 13, 3) := by decide +kernel
theorem d91_31 : decode prog_10_method_31_code 31 = .ok (.aload_n 0, 1) := by decide +kernel
theorem d91_32 : decode prog_10_method_31_code 32 = .ok (.iconst (-1), 1) := by decide +kernel
theorem d91_33 : decode prog_10_method_31_code 33 = .ok (.putfield 16, 3) := by decide +kernel
theorem d91_36 : decode prog_10_method_31_code 36 = .ok (.aload_n 0, 1) := by decide +kernel
theorem d91_37 : decode prog_10_method_31_code 37 = .ok (.iconst 0, 1) := by decide +kernel
theorem d91_38 : decode prog_10_method_31_code 38 = .ok (.bipush 63, 2) := by decide +kernel
theorem d91_40 : decode prog_10_method_31_code 40 = .ok (.iload_n 1, 1) := by decide +kernel
theorem d91_41 : decode prog_10_method_31_code 41 = .ok (.iload_n 2, 1) := by decide +kernel
theorem d91_42 : decode prog_10_method_31_code 42 = .ok (.i2l, 1) := by decide +kernel
theorem d91_43 : decode prog_10_method_31_code 43 = .ok (.iload_n 3, 1) := by decide +kernel
theorem d91_44 : decode prog_10_method_31_code 44 = .ok (.i2l, 1) := by decide +kernel
theorem d91_45 : decode prog_10_method_31_code 45 = .ok (.invokevirtual 196, 3) := by decide +kernel
theorem d91_48 : decode prog_10_method_31_code 48 = .ok (.pop, 1) := by decide +kernel
theorem d91_49 : decode prog_10_method_31_code 49 = .ok (.iconst 0, 1) := by decide +kernel
theorem d91_50 : decode prog_10_method_31_code 50 = .ok (.istore 4, 2) := by decide +kernel
theorem d91_52 : decode prog_10_method_31_code 52 = .ok (.iload 4, 2) := by decide +kernel
theorem d91_54 : decode prog_10_method_31_code 54 = .ok (.aload_n 0, 1) := by decide +kernel
theorem d91_55 : decode prog_10_method_31_code 55 = .ok (.getfield 19, 3) := by decide +kernel
theorem d91_58 : decode prog_10_method_31_code 58 = .ok (.if_icmp .ge 22, 3) := by decide +kernel
theorem d91_61 : decode prog_10_method_31_code 61 = .ok (.aload_n 0, 1) := by decide +kernel
theorem d91_62 : decode prog_10_method_31_code 62 = .ok (.getfield 13, 3) := by decide +kernel
theorem d91_65 : decode prog_10_method_31_code 65 = .ok (.ifCond .ne 15, 3) := by decide +kernel
theorem d91_68 : decode prog_10_method_31_code 68 = .ok (.aload_n 0, 1) := by decide +kernel
theorem d91_69 : decode prog_10_method_31_code 69 = .ok (.iload 4, 2) := by decide +kernel
theorem d91_71 : decode prog_10_method_31_code 71 = .ok (.invokevirtual 226, 3) := by decide +kernel
theorem d91_74 : decode prog_10_method_31_code 74 = .ok (.iinc 4 1, 3) := by decide +kernel
theorem d91_77 : decode prog_10_method_31_code 77 = .ok (.goto (-25), 3) := by decide +kernel
theorem d91_80 : decode prog_10_method_31_code 80 = .ok (.aload_n 0, 1) := by decide +kernel
theorem d91_81 : decode prog_10_method_31_code 81 = .ok (.getfield 13, 3) := by decide +kernel
theorem d91_84 : decode prog_10_method_31_code 84 = .ok (.ifCond .ne 8, 3) := by decide +kernel
theorem d91_87 : decode prog_10_method_31_code 87 = .ok (.aload_n 0, 1) := by decide +kernel
theorem d91_88 : decode prog_10_method_31_code 88 = .ok (.getfield 19, 3) := by decide +kernel
theorem d91_91 : decode prog_10_method_31_code 91 = .ok (.ireturn, 1) := by decide +kernel
theorem d91_92 : decode prog_10_method_31_code 92 = .ok (.aload_n 0, 1) := by decide +kernel
theorem d91_93 : decode prog_10_method_31_code 93 = .ok (.iconst 0, 1) := by decide +kernel
theorem d91_94 : decode prog_10_method_31_code 94 = .ok (.putfield 19, 3) := by decide +kernel
theorem d91_97 : decode prog_10_method_31_code 97 = .ok (.aload_n 0, 1) := by decide +kernel
theorem d91_98 : decode prog_10_method_31_code 98 = .ok (.getfield 13, 3) := by decide +kernel
theorem d91_101 : decode prog_10_method_31_code 101 = .ok (.ireturn, 1) := by decide +kernel
theorem d92_0 : decode prog_10_method_32_code 0 = .ok (.aload_n 0, 1) := by decide +kernel
theorem d92_1 : decode prog_10_method_32_code 1 = .ok (.getfield 16, 3) := by decide +kernel
theorem d92_4 : decode prog_10_method_32_code 4 = .ok (.ireturn, 1) := by decide +kernel
theorem d93_0 : decode prog_10_method_33_code 0 = .ok (.aload_n 0, 1) := by decide +kernel
theorem d93_1 : decode prog_10_method_33_code 1 = .ok (.getfield 82, 3) := by decide +kernel
theorem d93_4 : decode prog_10_method_33_code 4 = .ok (.aload_n 0, 1) := by decide +kernel
theorem d93_5 : decode prog_10_method_33_code 5 = .ok (.getfield 106, 3) := by decide +kernel
theorem d93_8 : decode prog_10_method_33_code 8 = .ok (.iaload, 1) := by decide +kernel
theorem d93_9 : decode prog_10_method_33_code 9 = .ok (.bipush 60, 2) := by decide +kernel
theorem d93_11 : decode prog_10_method_33_code 11 = .ok (.imul, 1) := by decide +kernel
theorem d93_12 : decode prog_10_method_33_code 12 = .ok (.iload_n 1, 1) := by decide +kernel
theorem d93_13 : decode prog_10_method_33_code 13 = .ok (.iadd, 1) := by decide +kernel
theorem d93_14 : decode prog_10_method_33_code 14 = .ok (.istore_n 2, 1) := by decide +kernel
theorem d93_15 : decode prog_10_method_33_code 15 = .ok (.aload_n 0, 1) := by decide +kernel
theorem d93_16 : decode prog_10_method_33_code 16 = .ok (.dup, 1) := by decide +kernel
theorem d93_17 : decode prog_10_method_33_code 17 = .ok (.getfield 109, 3) := by decide +kernel
theorem d93_20 : decode prog_10_method_33_code 20 = .ok (.iconst 1, 1) := by decide +kernel
theorem d93_21 : decode prog_10_method_33_code 21 = .ok (.iadd, 1) := by decide +kernel
theorem d93_22 : decode prog_10_method_33_code 22 = .ok (.putfield 109, 3) := by decide +kernel
theorem d93_25 : decode prog_10_method_33_code 25 = .ok (.aload_n 0, 1) := by decide +kernel
theorem d93_26 : decode prog_10_method_33_code 26 = .ok (.getfield 109, 3) := by decide +kernel
theorem d93_29 : decode prog_10_method_33_code 29 = .ok (.sipush 3000, 3) := by decide +kernel
theorem d93_32 : decode prog_10_method_33_code 32 = .ok (.if_icmp .le 13, 3) := by decide +kernel
theorem d93_35 : decode prog_10_method_33_code 35 = .ok (.aload_n 0, 1) := by decide +kernel
theorem d93_36 : decode prog_10_method_33_code 36 = .ok (.ldc2_w 230, 3) := by decide +kernel
theorem d93_39 : decode prog_10_method_33_code 39 = .ok (.putfield 116, 3) := by decide +kernel
theorem d93_42 : decode prog_10_method_33_code 42 = .ok (.goto 102, 3) := by decide +kernel
theorem d93_45 : decode prog_10_method_33_code 45 = .ok (.aload_n 0, 1) := by decide +kernel
theorem d93_46 : decode prog_10_method_33_code 46 = .ok (.getfield 69, 3) := by decide +kernel
theorem d93_49 : decode prog_10_method_33_code 49 = .ok (.iload_n 2, 1) := by decide +kernel
theorem d93_50 : decode prog_10_method_33_code 50 = .ok (.baload, 1) := by decide +kernel
theorem d93_51 : decode prog_10_method_33_code 51 = .ok (.ifCond .eq 16, 3) := by decide +kernel
theorem d93_54 : decode prog_10_method_33_code 54 = .ok (.aload_n 0, 1) := by decide +kernel
theorem d93_55 : decode prog_10_method_33_code 55 = .ok (.aload_n 0, 1) := by decide +kernel
theorem d93_56 : decode prog_10_method_33_code 56 = .ok (.getfield 78, 3) := by decide +kernel
theorem d93_59 : decode prog_10_method_33_code 59 = .ok (.iload_n 2, 1) := by decide +kernel
theorem d93_60 : decode prog_10_method_33_code 60 = .ok (.laload, 1) := by decide +kernel
theorem d93_61 : decode prog_10_method_33_code 61 = .ok (.putfield 112, 3) := by decide +kernel
theorem d93_64 : decode prog_10_method_33_code 64 = .ok (.goto 80, 3) := by decide +kernel
theorem d93_67 : decode prog_10_method_33_code 67 = .ok (.aload_n 0, 1) := by decide +kernel
theorem d93_68 : decode prog_10_method_33_code 68 = .ok (.getfield 25, 3) := by decide +kernel
theorem d93_71 : decode prog_10_method_33_code 71 = .ok (.iload_n 1, 1) := by decide +kernel
theorem d93_72 : decode prog_10_method_33_code 72 = .ok (.iaload, 1) := by decide +kernel
theorem d93_73 : decode prog_10_method_33_code 73 = .ok (.iconst 1, 1) := by decide +kernel
theorem d93_74 : decode prog_10_method_33_code 74 = .ok (.if_icmp .ne 40, 3) := by decide +kernel
theorem d93_77 : decode prog_10_method_33_code 77 = .ok (.aload_n 0, 1) := by decide +kernel
theorem d93_78 : decode prog_10_method_33_code 78 = .ok (.aload_n 0, 1) := by decide +kernel
theorem d93_79 : decode prog_10_method_33_code 79 = .ok (.getfield 29, 3) := by decide +kernel
theorem d93_82 : decode prog_10_method_33_code 82 = .ok (.iload_n 1, 1) := by decide +kernel
theorem d93_83 : decode prog_10_method_33_code 83 = .ok (.iaload, 1) := by decide +kernel
theorem d93_84 : decode prog_10_method_33_code 84 = .ok (.ifCond .ne 15, 3) := by decide +kernel
theorem d93_87 : decode prog_10_method_33_code 87 = .ok (.aload_n 0, 1) := by decide +kernel
theorem d93_88 : decode prog_10_method_33_code 88 = .ok (.getfield 91, 3) := by decide +kernel
theorem d93_91 : decode prog_10_method_33_code 91 = .ok (.aload_n 0, 1) := by decide +kernel
theorem d93_92 : decode prog_10_method_33_code 92 = .ok (.getfield 106, 3) := by decide +kernel
theorem d93_95 : decode prog_10_method_33_code 95 = .ok (.laload, 1) := by decide +kernel
theorem d93_96 : decode prog_10_method_33_code 96 = .ok (.goto 12, 3) := by decide +kernel
theorem d93_99 : decode prog_10_method_33_code 99 = .ok (.aload_n 0, 1) := by decide +kernel
theorem d93_100 : decode prog_10_method_33_code 100 = .ok (.getfield 94, 3) := by decide +kernel
theorem d93_103 : decode prog_10_method_33_code 103 = .ok (.aload_n 0, 1) := by decide +kernel
theorem d93_104 : decode prog_10_method_33_code 104 = .ok (.getfield 106, 3) := by decide +kernel
theorem d93_107 : decode prog_10_method_33_code 107 = .ok (.laload, 1) := by decide +kernel
theorem d93_108 : decode prog_10_method_33_code 108 = .ok (.putfield 112, 3) := by decide +kernel
theorem d93_111 : decode prog_10_method_33_code 111 = .ok (.goto 33, 3) := by decide +kernel
theorem d93_114 : decode prog_10_method_33_code 114 = .ok (.aload_n 0, 1) := by decide +kernel
theorem d93_115 : decode prog_10_method_33_code 115 = .ok (.getfield 85, 3) := by decide +kernel
theorem d93_118 : decode prog_10_method_33_code 118 = .ok (.aload_n 0, 1) := by decide +kernel
theorem d93_119 : decode prog_10_method_33_code 119 = .ok (.getfield 103, 3) := by decide +kernel
theorem d93_122 : decode prog_10_method_33_code 122 = .ok (.iload_n 1, 1) := by decide +kernel
theorem d93_123 : decode prog_10_method_33_code 123 = .ok (.iastore, 1) := by decide +kernel
theorem d93_124 : decode prog_10_method_33_code 124 = .ok (.aload_n 0, 1) := by decide +kernel
theorem d93_125 : decode prog_10_method_33_code 125 = .ok (.getfield 88, 3) := by decide +kernel
theorem d93_128 : decode prog_10_method_33_code 128 = .ok (.aload_n 0, 1) := by decide +kernel
theorem d93_129 : decode prog_10_method_33_code 129 = .ok (.getfield 103, 3) := by decide +kernel
theorem d93_132 : decode prog_10_method_33_code 132 = .ok (.iconst 0, 1) := by decide +kernel
theorem d93_133 : decode prog_10_method_33_code 133 = .ok (.iastore, 1) := by decide +kernel
theorem d93_134 : decode prog_10_method_33_code 134 = .ok (.aload_n 0, 1) := by decide +kernel
theorem d93_135 : decode prog_10_method_33_code 135 = .ok (.dup, 1) := by decide +kernel
theorem d93_136 : decode prog_10_method_33_code 136 = .ok (.getfield 103, 3) := by decide +kernel
theorem d93_139 : decode prog_10_method_33_code 139 = .ok (.iconst 1, 1) := by decide +kernel
theorem d93_140 : decode prog_10_method_33_code 140 = .ok (.iadd, 1) := by decide +kernel
theorem d93_141 : decode prog_10_method_33_code 141 = .ok (.putfield 103, 3) := by decide +kernel
theorem d93_144 : decode prog_10_method_33_code 144 = .ok (.return_, 1) := by decide +kernel
theorem d94_0 : decode prog_10_method_34_code 0 = .ok (.aload_n 0, 1) := by decide +kernel
theorem d94_1 : decode prog_10_method_34_code 1 = .ok (.dup, 1) := by decide +kernel
theorem d94_2 : decode prog_10_method_34_code 2 = .ok (.getfield 103, 3) := by decide +kernel
theorem d94_5 : decode prog_10_method_34_code 5 = .ok (.iconst 1, 1) := by decide +kernel
theorem d94_6 : decode prog_10_method_34_code 6 = .ok (.isub, 1) := by decide +kernel
theorem d94_7 : decode prog_10_method_34_code 7 = .ok (.putfield 103, 3) := by decide +kernel
theorem d94_10 : decode prog_10_method_34_code 10 = .ok (.aload_n 0, 1) := by decide +kernel
theorem d94_11 : decode prog_10_method_34_code 11 = .ok (.lload_n 1, 1) := by decide +kernel
theorem d94_12 : decode prog_10_method_34_code 12 = .ok (.putfield 112, 3) := by decide +kernel
theorem d94_15 : decode prog_10_method_34_code 15 = .ok (.return_, 1) := by decide +kernel
theorem d95_0 : decode prog_10_method_35_code 0 = .ok (.aload_n 0, 1) := by decide +kernel
theorem d95_1 : decode prog_10_method_35_code 1 = .ok (.getfield 103, 3) := by decide +kernel
theorem d95_4 : decode prog_10_method_35_code 4 = .ok (.iconst 1, 1) := by decide +kernel
theorem d95_5 : decode prog_10_method_35_code 5 = .ok (.isub, 1) := by decide +kernel
theorem d95_6 : decode prog_10_method_35_code 6 = .ok (.istore_n 2, 1) := by decide +kernel
theorem d95_7 : decode prog_10_method_35_code 7 = .ok (.aload_n 0, 1) := by decide +kernel
theorem d95_8 : decode prog_10_method_35_code 8 = .ok (.getfield 88, 3) := by decide +kernel
theorem d95_11 : decode prog_10_method_35_code 11 = .ok (.iload_n 2, 1) := by decide +kernel
theorem d95_12 : decode prog_10_method_35_code 12 = .ok (.iaload, 1) := by decide +kernel
theorem d95_13 : decode prog_10_method_35_code 13 = .ok (.iconst 1, 1) := by decide +kernel
theorem d95_14 : decode prog_10_method_35_code 14 = .ok (.if_icmp .ne 13, 3) := by decide +kernel
theorem d95_17 : decode prog_10_method_35_code 17 = .ok (.aload_n 0, 1) := by decide +kernel
theorem d95_18 : decode prog_10_method_35_code 18 = .ok (.getfield 97, 3) := by decide +kernel
theorem d95_21 : decode prog_10_method_35_code 21 = .ok (.iload_n 2, 1) := by decide +kernel
theorem d95_22 : decode prog_10_method_35_code 22 = .ok (.aload_n 0, 1) := by decide +kernel
theorem d95_23 : decode prog_10_method_35_code 23 = .ok (.getfield 112, 3) := by decide +kernel
theorem d95_26 : decode prog_10_method_35_code 26 = .ok (.lastore, 1) := by decide +kernel
theorem d95_27 : decode prog_10_method_35_code 27 = .ok (.aload_n 0, 1) := by decide +kernel
theorem d95_28 : decode prog_10_method_35_code 28 = .ok (.getfield 88, 3) := by decide +kernel
theorem d95_31 : decode prog_10_method_35_code 31 = .ok (.iload_n 2, 1) := by decide +kernel
theorem d95_32 : decode prog_10_method_35_code 32 = .ok (.dup2, 1) := by decide +kernel
theorem d95_33 : decode prog_10_method_35_code 33 = .ok (.iaload, 1) := by decide +kernel
theorem d95_34 : decode prog_10_method_35_code 34 = .ok (.iconst 1, 1) := by decide +kernel
theorem d95_35 : decode prog_10_method_35_code 35 = .ok (.iadd, 1) := by decide +kernel
theorem d95_36 : decode prog_10_method_35_code 36 = .ok (.iastore, 1) := by decide +kernel
theorem d95_37 : decode prog_10_method_35_code 37 = .ok (.aload_n 0, 1) := by decide +kernel
theorem d95_38 : decode prog_10_method_35_code 38 = .ok (.getfield 88, 3) := by decide +kernel
theorem d95_41 : decode prog_10_method_35_code 41 = .ok (.iload_n 2, 1) := by decide +kernel
theorem d95_42 : decode prog_10_method_35_code 42 = .ok (.iaload, 1) := by decide +kernel
theorem d95_43 : decode prog_10_method_35_code 43 = .ok (.iconst 1, 1) := by decide +kernel
theorem d95_44 : decode prog_10_method_35_code 44 = .ok (.if_icmp .ne 16, 3) := by decide +kernel
theorem d95_47 : decode prog_10_method_35_code 47 = .ok (.aload_n 0, 1) := by decide +kernel
theorem d95_48 : decode prog_10_method_35_code 48 = .ok (.aload_n 0, 1) := by decide +kernel
theorem d95_49 : decode prog_10_method_35_code 49 = .ok (.getfield 29, 3) := by decide +kernel
theorem d95_52 : decode prog_10_method_35_code 52 = .ok (.iload_n 1, 1) := by decide +kernel
theorem d95_53 : decode prog_10_method_35_code 53 = .ok (.iaload, 1) := by decide +kernel
theorem d95_54 : decode prog_10_method_35_code 54 = .ok (.invokevirtual 232, 3) := by decide +kernel
theorem d95_57 : decode prog_10_method_35_code 57 = .ok (.goto 69, 3) := by decide +kernel
theorem d95_60 : decode prog_10_method_35_code 60 = .ok (.aload_n 0, 1) := by decide +kernel
theorem d95_61 : decode prog_10_method_35_code 61 = .ok (.getfield 88, 3) := by decide +kernel
theorem d95_64 : decode prog_10_method_35_code 64 = .ok (.iload_n 2, 1) := by decide +kernel
theorem d95_65 : decode prog_10_method_35_code 65 = .ok (.iaload, 1) := by decide +kernel
theorem d95_66 : decode prog_10_method_35_code 66 = .ok (.iconst 2, 1) := by decide +kernel
theorem d95_67 : decode prog_10_method_35_code 67 = .ok (.if_icmp .ne 16, 3) := by decide +kernel
theorem d95_70 : decode prog_10_method_35_code 70 = .ok (.aload_n 0, 1) := by decide +kernel
theorem d95_71 : decode prog_10_method_35_code 71 = .ok (.aload_n 0, 1) := by decide +kernel
theorem d95_72 : decode prog_10_method_35_code 72 = .ok (.getfield 32, 3) := by decide +kernel
theorem d95_75 : decode prog_10_method_35_code 75 = .ok (.iload_n 1, 1) := by decide +kernel
theorem d95_76 : decode prog_10_method_35_code 76 = .ok (.iaload, 1) := by decide +kernel
theorem d95_77 : decode prog_10_method_35_code 77 = .ok (.invokevirtual 232, 3) := by decide +kernel
theorem d95_80 : decode prog_10_method_35_code 80 = .ok (.goto 46, 3) := by decide +kernel
theorem d95_83 : decode prog_10_method_35_code 83 = .ok (.aload_n 0, 1) := by decide +kernel
theorem d95_84 : decode prog_10_method_35_code 84 = .ok (.aload_n 0, 1) := by decide +kernel
theorem d95_85 : decode prog_10_method_35_code 85 = .ok (.aload_n 0, 1) := by decide +kernel
theorem d95_86 : decode prog_10_method_35_code 86 = .ok (.getfield 25, 3) := by decide +kernel
theorem d95_89 : decode prog_10_method_35_code 89 = .ok (.iload_n 1, 1) := by decide +kernel
theorem d95_90 : decode prog_10_method_35_code 90 = .ok (.iaload, 1) := by decide +kernel
theorem d95_91 : decode prog_10_method_35_code 91 = .ok (.aload_n 0, 1) := by decide +kernel
theorem d95_92 : decode prog_10_method_35_code 92 = .ok (.getfield 72, 3) := by decide +kernel
theorem d95_95 : decode prog_10_method_35_code 95 = .ok (.aload_n 0, 1) := by decide +kernel
theorem d95_96 : decode prog_10_method_35_code 96 = .ok (.getfield 82, 3) := by decide +kernel
theorem d95_99 : decode prog_10_method_35_code 99 = .ok (.aload_n 0, 1) := by decide +kernel
theorem d95_100 : decode prog_10_method_35_code 100 = .ok (.getfield 106, 3) := by decide +kernel
theorem d95_103 : decode prog_10_method_35_code 103 = .ok (.iaload, 1) := by decide +kernel
theorem d95_104 : decode prog_10_method_35_code 104 = .ok (.bipush 60, 2) := by decide +kernel
theorem d95_106 : decode prog_10_method_35_code 106 = .ok (.imul, 1) := by decide +kernel
theorem d95_107 : decode prog_10_method_35_code 107 = .ok (.iload_n 1, 1) := by decide +kernel
theorem d95_108 : decode prog_10_method_35_code 108 = .ok (.iadd, 1) := by decide +kernel
theorem d95_109 : decode prog_10_method_35_code 109 = .ok (.iaload, 1) := by decide +kernel
theorem d95_110 : decode prog_10_method_35_code 110 = .ok (.aload_n 0, 1) := by decide +kernel
theorem d95_111 : decode prog_10_method_35_code 111 = .ok (.getfield 97, 3) := by decide +kernel
theorem d95_114 : decode prog_10_method_35_code 114 = .ok (.iload_n 2, 1) := by decide +kernel
theorem d95_115 : decode prog_10_method_35_code 115 = .ok (.laload, 1) := by decide +kernel
theorem d95_116 : decode prog_10_method_35_code 116 = .ok (.aload_n 0, 1) := by decide +kernel
theorem d95_117 : decode prog_10_method_35_code 117 = .ok (.getfield 112, 3) := by decide +kernel
theorem d95_120 : decode prog_10_method_35_code 120 = .ok (.invokevirtual 180, 3) := by decide +kernel
theorem d95_123 : decode prog_10_method_35_code 123 = .ok (.invokevirtual 235, 3) := by decide +kernel
theorem d95_126 : decode prog_10_method_35_code 126 = .ok (.return_, 1) := by decide +kernel
end
section
/-! decode rows, printed by a program of mine out of the listing -/
theorem d96_0 : decode prog_10_method_36_code 0 = .ok (.aload_n 0, 1) := by decide +kernel
theorem d96_1 : decode prog_10_method_36_code 1 = .ok (.getfield 103, 3) := by decide +kernel
theorem d96_4 : decode prog_10_method_36_code 4 = .ok (.iconst 1, 1) := by decide +kernel
theorem d96_5 : decode prog_10_method_36_code 5 = .ok (.isub, 1) := by decide +kernel
theorem d96_6 : decode prog_10_method_36_code 6 = .ok (.istore_n 2, 1) := by decide +kernel
theorem d96_7 : decode prog_10_method_36_code 7 = .ok (.aload_n 0, 1) := by decide +kernel
theorem d96_8 : decode prog_10_method_36_code 8 = .ok (.getfield 82, 3) := by decide +kernel
theorem d96_11 : decode prog_10_method_36_code 11 = .ok (.aload_n 0, 1) := by decide +kernel
theorem d96_12 : decode prog_10_method_36_code 12 = .ok (.getfield 106, 3) := by decide +kernel
theorem d96_15 : decode prog_10_method_36_code 15 = .ok (.iaload, 1) := by decide +kernel
theorem d96_16 : decode prog_10_method_36_code 16 = .ok (.bipush 60, 2) := by decide +kernel
theorem d96_18 : decode prog_10_method_36_code 18 = .ok (.imul, 1) := by decide +kernel
theorem d96_19 : decode prog_10_method_36_code 19 = .ok (.aload_n 0, 1) := by decide +kernel
theorem d96_20 : decode prog_10_method_36_code 20 = .ok (.getfield 29, 3) := by decide +kernel
theorem d96_23 : decode prog_10_method_36_code 23 = .ok (.iload_n 1, 1) := by decide +kernel
theorem d96_24 : decode prog_10_method_36_code 24 = .ok (.iaload, 1) := by decide +kernel
theorem d96_25 : decode prog_10_method_36_code 25 = .ok (.iadd, 1) := by decide +kernel
theorem d96_26 : decode prog_10_method_36_code 26 = .ok (.istore_n 3, 1) := by decide +kernel
theorem d96_27 : decode prog_10_method_36_code 27 = .ok (.aload_n 0, 1) := by decide +kernel
theorem d96_28 : decode prog_10_method_36_code 28 = .ok (.getfield 88, 3) := by decide +kernel
theorem d96_31 : decode prog_10_method_36_code 31 = .ok (.iload_n 2, 1) := by decide +kernel
theorem d96_32 : decode prog_10_method_36_code 32 = .ok (.dup2, 1) := by decide +kernel
theorem d96_33 : decode prog_10_method_36_code 33 = .ok (.iaload, 1) := by decide +kernel
theorem d96_34 : decode prog_10_method_36_code 34 = .ok (.iconst 1, 1) := by decide +kernel
theorem d96_35 : decode prog_10_method_36_code 35 = .ok (.iadd, 1) := by decide +kernel
theorem d96_36 : decode prog_10_method_36_code 36 = .ok (.iastore, 1) := by decide +kernel
theorem d96_37 : decode prog_10_method_36_code 37 = .ok (.aload_n 0, 1) := by decide +kernel
theorem d96_38 : decode prog_10_method_36_code 38 = .ok (.getfield 88, 3) := by decide +kernel
theorem d96_41 : decode prog_10_method_36_code 41 = .ok (.iload_n 2, 1) := by decide +kernel
theorem d96_42 : decode prog_10_method_36_code 42 = .ok (.iaload, 1) := by decide +kernel
theorem d96_43 : decode prog_10_method_36_code 43 = .ok (.iconst 1, 1) := by decide +kernel
theorem d96_44 : decode prog_10_method_36_code 44 = .ok (.if_icmp .ne 52, 3) := by decide +kernel
theorem d96_47 : decode prog_10_method_36_code 47 = .ok (.aload_n 0, 1) := by decide +kernel
theorem d96_48 : decode prog_10_method_36_code 48 = .ok (.getfield 69, 3) := by decide +kernel
theorem d96_51 : decode prog_10_method_36_code 51 = .ok (.iload_n 3, 1) := by decide +kernel
theorem d96_52 : decode prog_10_method_36_code 52 = .ok (.baload, 1) := by decide +kernel
theorem d96_53 : decode prog_10_method_36_code 53 = .ok (.ifCond .eq 43, 3) := by decide +kernel
theorem d96_56 : decode prog_10_method_36_code 56 = .ok (.aload_n 0, 1) := by decide +kernel
theorem d96_57 : decode prog_10_method_36_code 57 = .ok (.getfield 88, 3) := by decide +kernel
theorem d96_60 : decode prog_10_method_36_code 60 = .ok (.iload_n 2, 1) := by decide +kernel
theorem d96_61 : decode prog_10_method_36_code 61 = .ok (.iconst 2, 1) := by decide +kernel
theorem d96_62 : decode prog_10_method_36_code 62 = .ok (.iastore, 1) := by decide +kernel
theorem d96_63 : decode prog_10_method_36_code 63 = .ok (.aload_n 0, 1) := by decide +kernel
theorem d96_64 : decode prog_10_method_36_code 64 = .ok (.aload_n 0, 1) := by decide +kernel
theorem d96_65 : decode prog_10_method_36_code 65 = .ok (.getfield 78, 3) := by decide +kernel
theorem d96_68 : decode prog_10_method_36_code 68 = .ok (.iload_n 3, 1) := by decide +kernel
theorem d96_69 : decode prog_10_method_36_code 69 = .ok (.laload, 1) := by decide +kernel
theorem d96_70 : decode prog_10_method_36_code 70 = .ok (.lconst 1, 1) := by decide +kernel
theorem d96_71 : decode prog_10_method_36_code 71 = .ok (.lcmp, 1) := by decide +kernel
theorem d96_72 : decode prog_10_method_36_code 72 = .ok (.ifCond .ne 12, 3) := by decide +kernel
theorem d96_75 : decode prog_10_method_36_code 75 = .ok (.aload_n 0, 1) := by decide +kernel
theorem d96_76 : decode prog_10_method_36_code 76 = .ok (.getfield 32, 3) := by decide +kernel
theorem d96_79 : decode prog_10_method_36_code 79 = .ok (.iload_n 1, 1) := by decide +kernel
theorem d96_80 : decode prog_10_method_36_code 80 = .ok (.iaload, 1) := by decide +kernel
theorem d96_81 : decode prog_10_method_36_code 81 = .ok (.goto 9, 3) := by decide +kernel
theorem d96_84 : decode prog_10_method_36_code 84 = .ok (.aload_n 0, 1) := by decide +kernel
theorem d96_85 : decode prog_10_method_36_code 85 = .ok (.getfield 35, 3) := by decide +kernel
theorem d96_88 : decode prog_10_method_36_code 88 = .ok (.iload_n 1, 1) := by decide +kernel
theorem d96_89 : decode prog_10_method_36_code 89 = .ok (.iaload, 1) := by decide +kernel
theorem d96_90 : decode prog_10_method_36_code 90 = .ok (.invokevirtual 232, 3) := by decide +kernel
theorem d96_93 : decode prog_10_method_36_code 93 = .ok (.goto 75, 3) := by decide +kernel
theorem d96_96 : decode prog_10_method_36_code 96 = .ok (.aload_n 0, 1) := by decide +kernel
theorem d96_97 : decode prog_10_method_36_code 97 = .ok (.getfield 88, 3) := by decide +kernel
theorem d96_100 : decode prog_10_method_36_code 100 = .ok (.iload_n 2, 1) := by decide +kernel
theorem d96_101 : decode prog_10_method_36_code 101 = .ok (.iaload, 1) := by decide +kernel
theorem d96_102 : decode prog_10_method_36_code 102 = .ok (.iconst 1, 1) := by decide +kernel
theorem d96_103 : decode prog_10_method_36_code 103 = .ok (.if_icmp .ne 16, 3) := by decide +kernel
theorem d96_106 : decode prog_10_method_36_code 106 = .ok (.aload_n 0, 1) := by decide +kernel
theorem d96_107 : decode prog_10_method_36_code 107 = .ok (.aload_n 0, 1) := by decide +kernel
theorem d96_108 : decode prog_10_method_36_code 108 = .ok (.getfield 29, 3) := by decide +kernel
theorem d96_111 : decode prog_10_method_36_code 111 = .ok (.iload_n 1, 1) := by decide +kernel
theorem d96_112 : decode prog_10_method_36_code 112 = .ok (.iaload, 1) := by decide +kernel
theorem d96_113 : decode prog_10_method_36_code 113 = .ok (.invokevirtual 232, 3) := by decide +kernel
theorem d96_116 : decode prog_10_method_36_code 116 = .ok (.goto 52, 3) := by decide +kernel
theorem d96_119 : decode prog_10_method_36_code 119 = .ok (.aload_n 0, 1) := by decide +kernel
theorem d96_120 : decode prog_10_method_36_code 120 = .ok (.getfield 88, 3) := by decide +kernel
theorem d96_123 : decode prog_10_method_36_code 123 = .ok (.iload_n 2, 1) := by decide +kernel
theorem d96_124 : decode prog_10_method_36_code 124 = .ok (.iaload, 1) := by decide +kernel
theorem d96_125 : decode prog_10_method_36_code 125 = .ok (.iconst 2, 1) := by decide +kernel
theorem d96_126 : decode prog_10_method_36_code 126 = .ok (.if_icmp .ne 34, 3) := by decide +kernel
theorem d96_129 : decode prog_10_method_36_code 129 = .ok (.aload_n 0, 1) := by decide +kernel
theorem d96_130 : decode prog_10_method_36_code 130 = .ok (.aload_n 0, 1) := by decide +kernel
theorem d96_131 : decode prog_10_method_36_code 131 = .ok (.getfield 112, 3) := by decide +kernel
theorem d96_134 : decode prog_10_method_36_code 134 = .ok (.lconst 1, 1) := by decide +kernel
theorem d96_135 : decode prog_10_method_36_code 135 = .ok (.lcmp, 1) := by decide +kernel
theorem d96_136 : decode prog_10_method_36_code 136 = .ok (.ifCond .ne 12, 3) := by decide +kernel
theorem d96_139 : decode prog_10_method_36_code 139 = .ok (.aload_n 0, 1) := by decide +kernel
theorem d96_140 : decode prog_10_method_36_code 140 = .ok (.getfield 32, 3) := by decide +kernel
theorem d96_143 : decode prog_10_method_36_code 143 = .ok (.iload_n 1, 1) := by decide +kernel
theorem d96_144 : decode prog_10_method_36_code 144 = .ok (.iaload, 1) := by decide +kernel
theorem d96_145 : decode prog_10_method_36_code 145 = .ok (.goto 9, 3) := by decide +kernel
theorem d96_148 : decode prog_10_method_36_code 148 = .ok (.aload_n 0, 1) := by decide +kernel
theorem d96_149 : decode prog_10_method_36_code 149 = .ok (.getfield 35, 3) := by decide +kernel
theorem d96_152 : decode prog_10_method_36_code 152 = .ok (.iload_n 1, 1) := by decide +kernel
theorem d96_153 : decode prog_10_method_36_code 153 = .ok (.iaload, 1) := by decide +kernel
theorem d96_154 : decode prog_10_method_36_code 154 = .ok (.invokevirtual 232, 3) := by decide +kernel
theorem d96_157 : decode prog_10_method_36_code 157 = .ok (.goto 11, 3) := by decide +kernel
theorem d96_160 : decode prog_10_method_36_code 160 = .ok (.aload_n 0, 1) := by decide +kernel
theorem d96_161 : decode prog_10_method_36_code 161 = .ok (.aload_n 0, 1) := by decide +kernel
theorem d96_162 : decode prog_10_method_36_code 162 = .ok (.getfield 112, 3) := by decide +kernel
theorem d96_165 : decode prog_10_method_36_code 165 = .ok (.invokevirtual 235, 3) := by decide +kernel
theorem d96_168 : decode prog_10_method_36_code 168 = .ok (.return_, 1) := by decide +kernel
theorem d97_0 : decode prog_10_method_37_code 0 = .ok (.aload_n 0, 1) := by decide +kernel
theorem d97_1 : decode prog_10_method_37_code 1 = .ok (.getfield 88, 3) := by decide +kernel
theorem d97_4 : decode prog_10_method_37_code 4 = .ok (.aload_n 0, 1) := by decide +kernel
theorem d97_5 : decode prog_10_method_37_code 5 = .ok (.getfield 103, 3) := by decide +kernel
theorem d97_8 : decode prog_10_method_37_code 8 = .ok (.iconst 1, 1) := by decide +kernel
theorem d97_9 : decode prog_10_method_37_code 9 = .ok (.isub, 1) := by decide +kernel
theorem d97_10 : decode prog_10_method_37_code 10 = .ok (.dup2, 1) := by decide +kernel
theorem d97_11 : decode prog_10_method_37_code 11 = .ok (.iaload, 1) := by decide +kernel
theorem d97_12 : decode prog_10_method_37_code 12 = .ok (.iconst 1, 1) := by decide +kernel
theorem d97_13 : decode prog_10_method_37_code 13 = .ok (.iadd, 1) := by decide +kernel
theorem d97_14 : decode prog_10_method_37_code 14 = .ok (.iastore, 1) := by decide +kernel
theorem d97_15 : decode prog_10_method_37_code 15 = .ok (.aload_n 0, 1) := by decide +kernel
theorem d97_16 : decode prog_10_method_37_code 16 = .ok (.getfield 88, 3) := by decide +kernel
theorem d97_19 : decode prog_10_method_37_code 19 = .ok (.aload_n 0, 1) := by decide +kernel
theorem d97_20 : decode prog_10_method_37_code 20 = .ok (.getfield 103, 3) := by decide +kernel
theorem d97_23 : decode prog_10_method_37_code 23 = .ok (.iconst 1, 1) := by decide +kernel
theorem d97_24 : decode prog_10_method_37_code 24 = .ok (.isub, 1) := by decide +kernel
theorem d97_25 : decode prog_10_method_37_code 25 = .ok (.iaload, 1) := by decide +kernel
theorem d97_26 : decode prog_10_method_37_code 26 = .ok (.iconst 1, 1) := by decide +kernel
theorem d97_27 : decode prog_10_method_37_code 27 = .ok (.if_icmp .ne 16, 3) := by decide +kernel
theorem d97_30 : decode prog_10_method_37_code 30 = .ok (.aload_n 0, 1) := by decide +kernel
theorem d97_31 : decode prog_10_method_37_code 31 = .ok (.aload_n 0, 1) := by decide +kernel
theorem d97_32 : decode prog_10_method_37_code 32 = .ok (.getfield 29, 3) := by decide +kernel
theorem d97_35 : decode prog_10_method_37_code 35 = .ok (.iload_n 1, 1) := by decide +kernel
theorem d97_36 : decode prog_10_method_37_code 36 = .ok (.iaload, 1) := by decide +kernel
theorem d97_37 : decode prog_10_method_37_code 37 = .ok (.invokevirtual 232, 3) := by decide +kernel
theorem d97_40 : decode prog_10_method_37_code 40 = .ok (.goto 51, 3) := by decide +kernel
theorem d97_43 : decode prog_10_method_37_code 43 = .ok (.aload_n 0, 1) := by decide +kernel
theorem d97_44 : decode prog_10_method_37_code 44 = .ok (.aload_n 0, 1) := by decide +kernel
theorem d97_45 : decode prog_10_method_37_code 45 = .ok (.getfield 72, 3) := by decide +kernel
theorem d97_48 : decode prog_10_method_37_code 48 = .ok (.aload_n 0, 1) := by decide +kernel
theorem d97_49 : decode prog_10_method_37_code 49 = .ok (.getfield 82, 3) := by decide +kernel
theorem d97_52 : decode prog_10_method_37_code 52 = .ok (.aload_n 0, 1) := by decide +kernel
theorem d97_53 : decode prog_10_method_37_code 53 = .ok (.getfield 106, 3) := by decide +kernel
theorem d97_56 : decode prog_10_method_37_code 56 = .ok (.iaload, 1) := by decide +kernel
theorem d97_57 : decode prog_10_method_37_code 57 = .ok (.bipush 60, 2) := by decide +kernel
theorem d97_59 : decode prog_10_method_37_code 59 = .ok (.imul, 1) := by decide +kernel
theorem d97_60 : decode prog_10_method_37_code 60 = .ok (.iload_n 1, 1) := by decide +kernel
theorem d97_61 : decode prog_10_method_37_code 61 = .ok (.iadd, 1) := by decide +kernel
theorem d97_62 : decode prog_10_method_37_code 62 = .ok (.iaload, 1) := by decide +kernel
theorem d97_63 : decode prog_10_method_37_code 63 = .ok (.aload_n 0, 1) := by decide +kernel
theorem d97_64 : decode prog_10_method_37_code 64 = .ok (.getfield 112, 3) := by decide +kernel
theorem d97_67 : decode prog_10_method_37_code 67 = .ok (.invokevirtual 168, 3) := by decide +kernel
theorem d97_70 : decode prog_10_method_37_code 70 = .ok (.ifCond .eq 14, 3) := by decide +kernel
theorem d97_73 : decode prog_10_method_37_code 73 = .ok (.aload_n 0, 1) := by decide +kernel
theorem d97_74 : decode prog_10_method_37_code 74 = .ok (.aload_n 0, 1) := by decide +kernel
theorem d97_75 : decode prog_10_method_37_code 75 = .ok (.getfield 112, 3) := by decide +kernel
theorem d97_78 : decode prog_10_method_37_code 78 = .ok (.invokevirtual 235, 3) := by decide +kernel
theorem d97_81 : decode prog_10_method_37_code 81 = .ok (.goto 10, 3) := by decide +kernel
theorem d97_84 : decode prog_10_method_37_code 84 = .ok (.aload_n 0, 1) := by decide +kernel
theorem d97_85 : decode prog_10_method_37_code 85 = .ok (.ldc2_w 174, 3) := by decide +kernel
theorem d97_88 : decode prog_10_method_37_code 88 = .ok (.putfield 116, 3) := by decide +kernel
theorem d97_91 : decode prog_10_method_37_code 91 = .ok (.return_, 1) := by decide +kernel
theorem d98_0 : decode prog_10_method_38_code 0 = .ok (.aload_n 0, 1) := by decide +kernel
theorem d98_1 : decode prog_10_method_38_code 1 = .ok (.getfield 103, 3) := by decide +kernel
theorem d98_4 : decode prog_10_method_38_code 4 = .ok (.iconst 1, 1) := by decide +kernel
theorem d98_5 : decode prog_10_method_38_code 5 = .ok (.isub, 1) := by decide +kernel
theorem d98_6 : decode prog_10_method_38_code 6 = .ok (.istore_n 2, 1) := by decide +kernel
theorem d98_7 : decode prog_10_method_38_code 7 = .ok (.aload_n 0, 1) := by decide +kernel
theorem d98_8 : decode prog_10_method_38_code 8 = .ok (.getfield 29, 3) := by decide +kernel
theorem d98_11 : decode prog_10_method_38_code 11 = .ok (.iload_n 1, 1) := by decide +kernel
theorem d98_12 : decode prog_10_method_38_code 12 = .ok (.iaload, 1) := by decide +kernel
theorem d98_13 : decode prog_10_method_38_code 13 = .ok (.istore_n 3, 1) := by decide +kernel
theorem d98_14 : decode prog_10_method_38_code 14 = .ok (.aload_n 0, 1) := by decide +kernel
theorem d98_15 : decode prog_10_method_38_code 15 = .ok (.getfield 88, 3) := by decide +kernel
theorem d98_18 : decode prog_10_method_38_code 18 = .ok (.iload_n 2, 1) := by decide +kernel
theorem d98_19 : decode prog_10_method_38_code 19 = .ok (.iaload, 1) := by decide +kernel
theorem d98_20 : decode prog_10_method_38_code 20 = .ok (.ifCond .ne 19, 3) := by decide +kernel
theorem d98_23 : decode prog_10_method_38_code 23 = .ok (.aload_n 0, 1) := by decide +kernel
theorem d98_24 : decode prog_10_method_38_code 24 = .ok (.getfield 106, 3) := by decide +kernel
theorem d98_27 : decode prog_10_method_38_code 27 = .ok (.iconst 5, 1) := by decide +kernel
theorem d98_28 : decode prog_10_method_38_code 28 = .ok (.if_icmp .ne 11, 3) := by decide +kernel
theorem d98_31 : decode prog_10_method_38_code 31 = .ok (.aload_n 0, 1) := by decide +kernel
theorem d98_32 : decode prog_10_method_38_code 32 = .ok (.ldc2_w 239, 3) := by decide +kernel
theorem d98_35 : decode prog_10_method_38_code 35 = .ok (.putfield 116, 3) := by decide +kernel
theorem d98_38 : decode prog_10_method_38_code 38 = .ok (.return_, 1) := by decide +kernel
theorem d98_39 : decode prog_10_method_38_code 39 = .ok (.aload_n 0, 1) := by decide +kernel
theorem d98_40 : decode prog_10_method_38_code 40 = .ok (.getfield 88, 3) := by decide +kernel
theorem d98_43 : decode prog_10_method_38_code 43 = .ok (.iload_n 2, 1) := by decide +kernel
theorem d98_44 : decode prog_10_method_38_code 44 = .ok (.iaload, 1) := by decide +kernel
theorem d98_45 : decode prog_10_method_38_code 45 = .ok (.iconst 1, 1) := by decide +kernel
theorem d98_46 : decode prog_10_method_38_code 46 = .ok (.if_icmp .ne 13, 3) := by decide +kernel
theorem d98_49 : decode prog_10_method_38_code 49 = .ok (.aload_n 0, 1) := by decide +kernel
theorem d98_50 : decode prog_10_method_38_code 50 = .ok (.getfield 97, 3) := by decide +kernel
theorem d98_53 : decode prog_10_method_38_code 53 = .ok (.iload_n 2, 1) := by decide +kernel
theorem d98_54 : decode prog_10_method_38_code 54 = .ok (.aload_n 0, 1) := by decide +kernel
theorem d98_55 : decode prog_10_method_38_code 55 = .ok (.getfield 112, 3) := by decide +kernel
theorem d98_58 : decode prog_10_method_38_code 58 = .ok (.lastore, 1) := by decide +kernel
theorem d98_59 : decode prog_10_method_38_code 59 = .ok (.aload_n 0, 1) := by decide +kernel
theorem d98_60 : decode prog_10_method_38_code 60 = .ok (.getfield 88, 3) := by decide +kernel
theorem d98_63 : decode prog_10_method_38_code 63 = .ok (.iload_n 2, 1) := by decide +kernel
theorem d98_64 : decode prog_10_method_38_code 64 = .ok (.iaload, 1) := by decide +kernel
theorem d98_65 : decode prog_10_method_38_code 65 = .ok (.iconst 2, 1) := by decide +kernel
theorem d98_66 : decode prog_10_method_38_code 66 = .ok (.if_icmp .ne 13, 3) := by decide +kernel
theorem d98_69 : decode prog_10_method_38_code 69 = .ok (.aload_n 0, 1) := by decide +kernel
theorem d98_70 : decode prog_10_method_38_code 70 = .ok (.getfield 100, 3) := by decide +kernel
theorem d98_73 : decode prog_10_method_38_code 73 = .ok (.iload_n 2, 1) := by decide +kernel
theorem d98_74 : decode prog_10_method_38_code 74 = .ok (.aload_n 0, 1) := by decide +kernel
theorem d98_75 : decode prog_10_method_38_code 75 = .ok (.getfield 112, 3) := by decide +kernel
theorem d98_78 : decode prog_10_method_38_code 78 = .ok (.lastore, 1) := by decide +kernel
theorem d98_79 : decode prog_10_method_38_code 79 = .ok (.aload_n 0, 1) := by decide +kernel
theorem d98_80 : decode prog_10_method_38_code 80 = .ok (.getfield 88, 3) := by decide +kernel
theorem d98_83 : decode prog_10_method_38_code 83 = .ok (.iload_n 2, 1) := by decide +kernel
theorem d98_84 : decode prog_10_method_38_code 84 = .ok (.dup2, 1) := by decide +kernel
theorem d98_85 : decode prog_10_method_38_code 85 = .ok (.iaload, 1) := by decide +kernel
theorem d98_86 : decode prog_10_method_38_code 86 = .ok (.iconst 1, 1) := by decide +kernel
theorem d98_87 : decode prog_10_method_38_code 87 = .ok (.iadd, 1) := by decide +kernel
theorem d98_88 : decode prog_10_method_38_code 88 = .ok (.iastore, 1) := by decide +kernel
theorem d98_89 : decode prog_10_method_38_code 89 = .ok (.aload_n 0, 1) := by decide +kernel
theorem d98_90 : decode prog_10_method_38_code 90 = .ok (.getfield 88, 3) := by decide +kernel
theorem d98_93 : decode prog_10_method_38_code 93 = .ok (.iload_n 2, 1) := by decide +kernel
theorem d98_94 : decode prog_10_method_38_code 94 = .ok (.iaload, 1) := by decide +kernel
theorem d98_95 : decode prog_10_method_38_code 95 = .ok (.iconst 1, 1) := by decide +kernel
theorem d98_96 : decode prog_10_method_38_code 96 = .ok (.if_icmp .ne 37, 3) := by decide +kernel
theorem d98_99 : decode prog_10_method_38_code 99 = .ok (.aload_n 0, 1) := by decide +kernel
theorem d98_100 : decode prog_10_method_38_code 100 = .ok (.getfield 32, 3) := by decide +kernel
theorem d98_103 : decode prog_10_method_38_code 103 = .ok (.iload_n 1, 1) := by decide +kernel
theorem d98_104 : decode prog_10_method_38_code 104 = .ok (.iaload, 1) := by decide +kernel
theorem d98_105 : decode prog_10_method_38_code 105 = .ok (.ifCond .lt 195, 3) := by decide +kernel
theorem d98_108 : decode prog_10_method_38_code 108 = .ok (.aload_n 0, 1) := by decide +kernel
theorem d98_109 : decode prog_10_method_38_code 109 = .ok (.getfield 45, 3) := by decide +kernel
theorem d98_112 : decode prog_10_method_38_code 112 = .ok (.iload_n 3, 1) := by decide +kernel
theorem d98_113 : decode prog_10_method_38_code 113 = .ok (.iaload, 1) := by decide +kernel
theorem d98_114 : decode prog_10_method_38_code 114 = .ok (.sipush 300, 3) := by decide +kernel
theorem d98_117 : decode prog_10_method_38_code 117 = .ok (.if_icmp .eq 183, 3) := by decide +kernel
theorem d98_120 : decode prog_10_method_38_code 120 = .ok (.aload_n 0, 1) := by decide +kernel
theorem d98_121 : decode prog_10_method_38_code 121 = .ok (.aload_n 0, 1) := by decide +kernel
theorem d98_122 : decode prog_10_method_38_code 122 = .ok (.getfield 32, 3) := by decide +kernel
theorem d98_125 : decode prog_10_method_38_code 125 = .ok (.iload_n 1, 1) := by decide +kernel
theorem d98_126 : decode prog_10_method_38_code 126 = .ok (.iaload, 1) := by decide +kernel
theorem d98_127 : decode prog_10_method_38_code 127 = .ok (.invokevirtual 232, 3) := by decide +kernel
theorem d98_130 : decode prog_10_method_38_code 130 = .ok (.goto 170, 3) := by decide +kernel
theorem d98_133 : decode prog_10_method_38_code 133 = .ok (.aload_n 0, 1) := by decide +kernel
theorem d98_134 : decode prog_10_method_38_code 134 = .ok (.getfield 88, 3) := by decide +kernel
theorem d98_137 : decode prog_10_method_38_code 137 = .ok (.iload_n 2, 1) := by decide +kernel
theorem d98_138 : decode prog_10_method_38_code 138 = .ok (.iaload, 1) := by decide +kernel
theorem d98_139 : decode prog_10_method_38_code 139 = .ok (.iconst 2, 1) := by decide +kernel
theorem d98_140 : decode prog_10_method_38_code 140 = .ok (.if_icmp .ne 37, 3) := by decide +kernel
theorem d98_143 : decode prog_10_method_38_code 143 = .ok (.aload_n 0, 1) := by decide +kernel
theorem d98_144 : decode prog_10_method_38_code 144 = .ok (.getfield 35, 3) := by decide +kernel
theorem d98_147 : decode prog_10_method_38_code 147 = .ok (.iload_n 1, 1) := by decide +kernel
theorem d98_148 : decode prog_10_method_38_code 148 = .ok (.iaload, 1) := by decide +kernel
theorem d98_149 : decode prog_10_method_38_code 149 = .ok (.ifCond .lt 151, 3) := by decide +kernel
theorem d98_152 : decode prog_10_method_38_code 152 = .ok (.aload_n 0, 1) := by decide +kernel
theorem d98_153 : decode prog_10_method_38_code 153 = .ok (.getfield 48, 3) := by decide +kernel
theorem d98_156 : decode prog_10_method_38_code 156 = .ok (.iload_n 3, 1) := by decide +kernel
theorem d98_157 : decode prog_10_method_38_code 157 = .ok (.iaload, 1) := by decide +kernel
theorem d98_158 : decode prog_10_method_38_code 158 = .ok (.sipush 300, 3) := by decide +kernel
theorem d98_161 : decode prog_10_method_38_code 161 = .ok (.if_icmp .eq 139, 3) := by decide +kernel
theorem d98_164 : decode prog_10_method_38_code 164 = .ok (.aload_n 0, 1) := by decide +kernel
theorem d98_165 : decode prog_10_method_38_code 165 = .ok (.aload_n 0, 1) := by decide +kernel
theorem d98_166 : decode prog_10_method_38_code 166 = .ok (.getfield 35, 3) := by decide +kernel
theorem d98_169 : decode prog_10_method_38_code 169 = .ok (.iload_n 1, 1) := by decide +kernel
theorem d98_170 : decode prog_10_method_38_code 170 = .ok (.iaload, 1) := by decide +kernel
theorem d98_171 : decode prog_10_method_38_code 171 = .ok (.invokevirtual 232, 3) := by decide +kernel
theorem d98_174 : decode prog_10_method_38_code 174 = .ok (.goto 126, 3) := by decide +kernel
theorem d98_177 : decode prog_10_method_38_code 177 = .ok (.aload_n 0, 1) := by decide +kernel
theorem d98_178 : decode prog_10_method_38_code 178 = .ok (.getfield 88, 3) := by decide +kernel
theorem d98_181 : decode prog_10_method_38_code 181 = .ok (.iload_n 2, 1) := by decide +kernel
theorem d98_182 : decode prog_10_method_38_code 182 = .ok (.iaload, 1) := by decide +kernel
theorem d98_183 : decode prog_10_method_38_code 183 = .ok (.iconst 3, 1) := by decide +kernel
theorem d98_184 : decode prog_10_method_38_code 184 = .ok (.if_icmp .ne 98, 3) := by decide +kernel
theorem d98_187 : decode prog_10_method_38_code 187 = .ok (.aload_n 0, 1) := by decide +kernel
theorem d98_188 : decode prog_10_method_38_code 188 = .ok (.getfield 75, 3) := by decide +kernel
theorem d98_191 : decode prog_10_method_38_code 191 = .ok (.aload_n 0, 1) := by decide +kernel
theorem d98_192 : decode prog_10_method_38_code 192 = .ok (.getfield 82, 3) := by decide +kernel
theorem d98_195 : decode prog_10_method_38_code 195 = .ok (.aload_n 0, 1) := by decide +kernel
theorem d98_196 : decode prog_10_method_38_code 196 = .ok (.getfield 106, 3) := by decide +kernel
theorem d98_199 : decode prog_10_method_38_code 199 = .ok (.iaload, 1) := by decide +kernel
theorem d98_200 : decode prog_10_method_38_code 200 = .ok (.bipush 60, 2) := by decide +kernel
theorem d98_202 : decode prog_10_method_38_code 202 = .ok (.imul, 1) := by decide +kernel
theorem d98_203 : decode prog_10_method_38_code 203 = .ok (.iload_n 1, 1) := by decide +kernel
theorem d98_204 : decode prog_10_method_38_code 204 = .ok (.iadd, 1) := by decide +kernel
theorem d98_205 : decode prog_10_method_38_code 205 = .ok (.iaload, 1) := by decide +kernel
theorem d98_206 : decode prog_10_method_38_code 206 = .ok (.istore 4, 2) := by decide +kernel
theorem d98_208 : decode prog_10_method_38_code 208 = .ok (.aload_n 0, 1) := by decide +kernel
theorem d98_209 : decode prog_10_method_38_code 209 = .ok (.dup, 1) := by decide +kernel
theorem d98_210 : decode prog_10_method_38_code 210 = .ok (.getfield 106, 3) := by decide +kernel
theorem d98_213 : decode prog_10_method_38_code 213 = .ok (.iconst 1, 1) := by decide +kernel
theorem d98_214 : decode prog_10_method_38_code 214 = .ok (.iadd, 1) := by decide +kernel
theorem d98_215 : decode prog_10_method_38_code 215 = .ok (.putfield 106, 3) := by decide +kernel
theorem d98_218 : decode prog_10_method_38_code 218 = .ok (.aload_n 0, 1) := by decide +kernel
theorem d98_219 : decode prog_10_method_38_code 219 = .ok (.dup, 1) := by decide +kernel
theorem d98_220 : decode prog_10_method_38_code 220 = .ok (.getfield 22, 3) := by decide +kernel
theorem d98_223 : decode prog_10_method_38_code 223 = .ok (.iconst 1, 1) := by decide +kernel
theorem d98_224 : decode prog_10_method_38_code 224 = .ok (.iadd, 1) := by decide +kernel
theorem d98_225 : decode prog_10_method_38_code 225 = .ok (.putfield 22, 3) := by decide +kernel
theorem d98_228 : decode prog_10_method_38_code 228 = .ok (.aload_n 0, 1) := by decide +kernel
theorem d98_229 : decode prog_10_method_38_code 229 = .ok (.getfield 82, 3) := by decide +kernel
theorem d98_232 : decode prog_10_method_38_code 232 = .ok (.aload_n 0, 1) := by decide +kernel
theorem d98_233 : decode prog_10_method_38_code 233 = .ok (.getfield 106, 3) := by decide +kernel
theorem d98_236 : decode prog_10_method_38_code 236 = .ok (.iload 4, 2) := by decide +kernel
theorem d98_238 : decode prog_10_method_38_code 238 = .ok (.iastore, 1) := by decide +kernel
theorem d98_239 : decode prog_10_method_38_code 239 = .ok (.aload_n 0, 1) := by decide +kernel
theorem d98_240 : decode prog_10_method_38_code 240 = .ok (.getfield 91, 3) := by decide +kernel
theorem d98_243 : decode prog_10_method_38_code 243 = .ok (.aload_n 0, 1) := by decide +kernel
theorem d98_244 : decode prog_10_method_38_code 244 = .ok (.getfield 106, 3) := by decide +kernel
theorem d98_247 : decode prog_10_method_38_code 247 = .ok (.aload_n 0, 1) := by decide +kernel
theorem d98_248 : decode prog_10_method_38_code 248 = .ok (.getfield 97, 3) := by decide +kernel
theorem d98_251 : decode prog_10_method_38_code 251 = .ok (.iload_n 2, 1) := by decide +kernel
theorem d98_252 : decode prog_10_method_38_code 252 = .ok (.laload, 1) := by decide +kernel
theorem d98_253 : decode prog_10_method_38_code 253 = .ok (.lastore, 1) := by decide +kernel
theorem d98_254 : decode prog_10_method_38_code 254 = .ok (.aload_n 0, 1) := by decide +kernel
theorem d98_255 : decode prog_10_method_38_code 255 = .ok (.getfield 94, 3) := by decide +kernel
theorem d98_258 : decode prog_10_method_38_code 258 = .ok (.aload_n 0, 1) := by decide +kernel
theorem d98_259 : decode prog_10_method_38_code 259 = .ok (.getfield 106, 3) := by decide +kernel
theorem d98_262 : decode prog_10_method_38_code 262 = .ok (.aload_n 0, 1) := by decide +kernel
theorem d98_263 : decode prog_10_method_38_code 263 = .ok (.getfield 100, 3) := by decide +kernel
theorem d98_266 : decode prog_10_method_38_code 266 = .ok (.iload_n 2, 1) := by decide +kernel
theorem d98_267 : decode prog_10_method_38_code 267 = .ok (.laload, 1) := by decide +kernel
theorem d98_268 : decode prog_10_method_38_code 268 = .ok (.lastore, 1) := by decide +kernel
theorem d98_269 : decode prog_10_method_38_code 269 = .ok (.aload_n 0, 1) := by decide +kernel
theorem d98_270 : decode prog_10_method_38_code 270 = .ok (.aload_n 0, 1) := by decide +kernel
theorem d98_271 : decode prog_10_method_38_code 271 = .ok (.getfield 54, 3) := by decide +kernel
theorem d98_274 : decode prog_10_method_38_code 274 = .ok (.iload_n 3, 1) := by decide +kernel
theorem d98_275 : decode prog_10_method_38_code 275 = .ok (.iaload, 1) := by decide +kernel
theorem d98_276 : decode prog_10_method_38_code 276 = .ok (.invokevirtual 232, 3) := by decide +kernel
theorem d98_279 : decode prog_10_method_38_code 279 = .ok (.goto 21, 3) := by decide +kernel
theorem d98_282 : decode prog_10_method_38_code 282 = .ok (.aload_n 0, 1) := by decide +kernel
theorem d98_283 : decode prog_10_method_38_code 283 = .ok (.dup, 1) := by decide +kernel
theorem d98_284 : decode prog_10_method_38_code 284 = .ok (.getfield 106, 3) := by decide +kernel
theorem d98_287 : decode prog_10_method_38_code 287 = .ok (.iconst 1, 1) := by decide +kernel
theorem d98_288 : decode prog_10_method_38_code 288 = .ok (.isub, 1) := by decide +kernel
theorem d98_289 : decode prog_10_method_38_code 289 = .ok (.putfield 106, 3) := by decide +kernel
theorem d98_292 : decode prog_10_method_38_code 292 = .ok (.aload_n 0, 1) := by decide +kernel
theorem d98_293 : decode prog_10_method_38_code 293 = .ok (.aload_n 0, 1) := by decide +kernel
theorem d98_294 : decode prog_10_method_38_code 294 = .ok (.getfield 112, 3) := by decide +kernel
theorem d98_297 : decode prog_10_method_38_code 297 = .ok (.invokevirtual 235, 3) := by decide +kernel
theorem d98_300 : decode prog_10_method_38_code 300 = .ok (.return_, 1) := by decide +kernel
theorem d99_0 : decode prog_10_method_39_code 0 = .ok (.aload_n 0, 1) := by decide +kernel
theorem d99_1 : decode prog_10_method_39_code 1 = .ok (.iload_n 1, 1) := by decide +kernel
theorem d99_2 : decode prog_10_method_39_code 2 = .ok (.iload_n 2, 1) := by decide +kernel
theorem d99_3 : decode prog_10_method_39_code 3 = .ok (.invokevirtual 188, 3) := by decide +kernel
theorem d99_6 : decode prog_10_method_39_code 6 = .ok (.istore 4, 2) := by decide +kernel
theorem d99_8 : decode prog_10_method_39_code 8 = .ok (.iload 4, 2) := by decide +kernel
theorem d99_10 : decode prog_10_method_39_code 10 = .ok (.ifCond .ne 20, 3) := by decide +kernel
theorem d99_13 : decode prog_10_method_39_code 13 = .ok (.iload_n 3, 1) := by decide +kernel
theorem d99_14 : decode prog_10_method_39_code 14 = .ok (.ifCond .eq 12, 3) := by decide +kernel
theorem d99_17 : decode prog_10_method_39_code 17 = .ok (.iload_n 3, 1) := by decide +kernel
theorem d99_18 : decode prog_10_method_39_code 18 = .ok (.iconst 1, 1) := by decide +kernel
theorem d99_19 : decode prog_10_method_39_code 19 = .ok (.if_icmp .eq 7, 3) := by decide +kernel
theorem d99_22 : decode prog_10_method_39_code 22 = .ok (.iconst 1, 1) := by decide +kernel
theorem d99_23 : decode prog_10_method_39_code 23 = .ok (.goto 32, 3) := by decide +kernel
theorem d99_26 : decode prog_10_method_39_code 26 = .ok (.iconst 0, 1) := by decide +kernel
theorem d99_27 : decode prog_10_method_39_code 27 = .ok (.goto 28, 3) := by decide +kernel
theorem d99_30 : decode prog_10_method_39_code 30 = .ok (.aload_n 0, 1) := by decide +kernel
theorem d99_31 : decode prog_10_method_39_code 31 = .ok (.iload 4, 2) := by decide +kernel
theorem d99_33 : decode prog_10_method_39_code 33 = .ok (.invokevirtual 165, 3) := by decide +kernel
theorem d99_36 : decode prog_10_method_39_code 36 = .ok (.ifCond .eq 18, 3) := by decide +kernel
theorem d99_39 : decode prog_10_method_39_code 39 = .ok (.aload_n 0, 1) := by decide +kernel
theorem d99_40 : decode prog_10_method_39_code 40 = .ok (.iload 4, 2) := by decide +kernel
theorem d99_42 : decode prog_10_method_39_code 42 = .ok (.iload_n 3, 1) := by decide +kernel
theorem d99_43 : decode prog_10_method_39_code 43 = .ok (.i2l, 1) := by decide +kernel
theorem d99_44 : decode prog_10_method_39_code 44 = .ok (.invokevirtual 168, 3) := by decide +kernel
theorem d99_47 : decode prog_10_method_39_code 47 = .ok (.ifCond .ne 7, 3) := by decide +kernel
theorem d99_50 : decode prog_10_method_39_code 50 = .ok (.iconst 1, 1) := by decide +kernel
theorem d99_51 : decode prog_10_method_39_code 51 = .ok (.goto 4, 3) := by decide +kernel
theorem d99_54 : decode prog_10_method_39_code 54 = .ok (.iconst 0, 1) := by decide +kernel
theorem d99_55 : decode prog_10_method_39_code 55 = .ok (.ireturn, 1) := by decide +kernel
theorem d100_0 : decode prog_10_method_40_code 0 = .ok (.iload_n 1, 1) := by decide +kernel
theorem d100_1 : decode prog_10_method_40_code 1 = .ok (.ifCond .lt 51, 3) := by decide +kernel
theorem d100_4 : decode prog_10_method_40_code 4 = .ok (.iload_n 1, 1) := by decide +kernel
theorem d100_5 : decode prog_10_method_40_code 5 = .ok (.aload_n 0, 1) := by decide +kernel
theorem d100_6 : decode prog_10_method_40_code 6 = .ok (.getfield 19, 3) := by decide +kernel
theorem d100_9 : decode prog_10_method_40_code 9 = .ok (.if_icmp .ge 43, 3) := by decide +kernel
theorem d100_12 : decode prog_10_method_40_code 12 = .ok (.aload_n 0, 1) := by decide +kernel
theorem d100_13 : decode prog_10_method_40_code 13 = .ok (.iload_n 1, 1) := by decide +kernel
theorem d100_14 : decode prog_10_method_40_code 14 = .ok (.aload_n 0, 1) := by decide +kernel
theorem d100_15 : decode prog_10_method_40_code 15 = .ok (.getfield 45, 3) := by decide +kernel
theorem d100_18 : decode prog_10_method_40_code 18 = .ok (.aload_n 0, 1) := by decide +kernel
theorem d100_19 : decode prog_10_method_40_code 19 = .ok (.getfield 57, 3) := by decide +kernel
theorem d100_22 : decode prog_10_method_40_code 22 = .ok (.iload_n 1, 1) := by decide +kernel
theorem d100_23 : decode prog_10_method_40_code 23 = .ok (.iaload, 1) := by decide +kernel
theorem d100_24 : decode prog_10_method_40_code 24 = .ok (.iaload, 1) := by decide +kernel
theorem d100_25 : decode prog_10_method_40_code 25 = .ok (.iload_n 2, 1) := by decide +kernel
theorem d100_26 : decode prog_10_method_40_code 26 = .ok (.invokevirtual 241, 3) := by decide +kernel
theorem d100_29 : decode prog_10_method_40_code 29 = .ok (.ifCond .ne 23, 3) := by decide +kernel
theorem d100_32 : decode prog_10_method_40_code 32 = .ok (.aload_n 0, 1) := by decide +kernel
theorem d100_33 : decode prog_10_method_40_code 33 = .ok (.iload_n 1, 1) := by decide +kernel
theorem d100_34 : decode prog_10_method_40_code 34 = .ok (.aload_n 0, 1) := by decide +kernel
theorem d100_35 : decode prog_10_method_40_code 35 = .ok (.getfield 48, 3) := by decide +kernel
theorem d100_38 : decode prog_10_method_40_code 38 = .ok (.aload_n 0, 1) := by decide +kernel
theorem d100_39 : decode prog_10_method_40_code 39 = .ok (.getfield 57, 3) := by decide +kernel
theorem d100_42 : decode prog_10_method_40_code 42 = .ok (.iload_n 1, 1) := by decide +kernel
theorem d100_43 : decode prog_10_method_40_code 43 = .ok (.iaload, 1) := by decide +kernel
theorem d100_44 : decode prog_10_method_40_code 44 = .ok (.iaload, 1) := by decide +kernel
theorem d100_45 : decode prog_10_method_40_code 45 = .ok (.iload_n 3, 1) := by decide +kernel
theorem d100_46 : decode prog_10_method_40_code 46 = .ok (.invokevirtual 241, 3) := by decide +kernel
theorem d100_49 : decode prog_10_method_40_code 49 = .ok (.ifCond .eq 7, 3) := by decide +kernel
theorem d100_52 : decode prog_10_method_40_code 52 = .ok (.ldc2_w 245, 3) := by decide +kernel
theorem d100_55 : decode prog_10_method_40_code 55 = .ok (.lreturn, 1) := by decide +kernel
theorem d100_56 : decode prog_10_method_40_code 56 = .ok (.aload_n 0, 1) := by decide +kernel
theorem d100_57 : decode prog_10_method_40_code 57 = .ok (.iconst 0, 1) := by decide +kernel
theorem d100_58 : decode prog_10_method_40_code 58 = .ok (.putfield 106, 3) := by decide +kernel
theorem d100_61 : decode prog_10_method_40_code 61 = .ok (.aload_n 0, 1) := by decide +kernel
theorem d100_62 : decode prog_10_method_40_code 62 = .ok (.iconst 0, 1) := by decide +kernel
theorem d100_63 : decode prog_10_method_40_code 63 = .ok (.putfield 103, 3) := by decide +kernel
theorem d100_66 : decode prog_10_method_40_code 66 = .ok (.aload_n 0, 1) := by decide +kernel
theorem d100_67 : decode prog_10_method_40_code 67 = .ok (.iconst 0, 1) := by decide +kernel
theorem d100_68 : decode prog_10_method_40_code 68 = .ok (.putfield 109, 3) := by decide +kernel
theorem d100_71 : decode prog_10_method_40_code 71 = .ok (.aload_n 0, 1) := by decide +kernel
theorem d100_72 : decode prog_10_method_40_code 72 = .ok (.iconst 0, 1) := by decide +kernel
theorem d100_73 : decode prog_10_method_40_code 73 = .ok (.putfield 22, 3) := by decide +kernel
theorem d100_76 : decode prog_10_method_40_code 76 = .ok (.aload_n 0, 1) := by decide +kernel
theorem d100_77 : decode prog_10_method_40_code 77 = .ok (.lconst 0, 1) := by decide +kernel
theorem d100_78 : decode prog_10_method_40_code 78 = .ok (.putfield 116, 3) := by decide +kernel
theorem d100_81 : decode prog_10_method_40_code 81 = .ok (.aload_n 0, 1) := by decide +kernel
theorem d100_82 : decode prog_10_method_40_code 82 = .ok (.getfield 82, 3) := by decide +kernel
theorem d100_85 : decode prog_10_method_40_code 85 = .ok (.iconst 0, 1) := by decide +kernel
theorem d100_86 : decode prog_10_method_40_code 86 = .ok (.iload_n 1, 1) := by decide +kernel
theorem d100_87 : decode prog_10_method_40_code 87 = .ok (.iastore, 1) := by decide +kernel
theorem d100_88 : decode prog_10_method_40_code 88 = .ok (.aload_n 0, 1) := by decide +kernel
theorem d100_89 : decode prog_10_method_40_code 89 = .ok (.getfield 91, 3) := by decide +kernel
theorem d100_92 : decode prog_10_method_40_code 92 = .ok (.iconst 0, 1) := by decide +kernel
theorem d100_93 : decode prog_10_method_40_code 93 = .ok (.iload_n 2, 1) := by decide +kernel
theorem d100_94 : decode prog_10_method_40_code 94 = .ok (.i2l, 1) := by decide +kernel
theorem d100_95 : decode prog_10_method_40_code 95 = .ok (.lastore, 1) := by decide +kernel
theorem d100_96 : decode prog_10_method_40_code 96 = .ok (.aload_n 0, 1) := by decide +kernel
theorem d100_97 : decode prog_10_method_40_code 97 = .ok (.getfield 94, 3) := by decide +kernel
theorem d100_100 : decode prog_10_method_40_code 100 = .ok (.iconst 0, 1) := by decide +kernel
theorem d100_101 : decode prog_10_method_40_code 101 = .ok (.iload_n 3, 1) := by decide +kernel
theorem d100_102 : decode prog_10_method_40_code 102 = .ok (.i2l, 1) := by decide +kernel
theorem d100_103 : decode prog_10_method_40_code 103 = .ok (.lastore, 1) := by decide +kernel
theorem d100_104 : decode prog_10_method_40_code 104 = .ok (.aload_n 0, 1) := by decide +kernel
theorem d100_105 : decode prog_10_method_40_code 105 = .ok (.aload_n 0, 1) := by decide +kernel
theorem d100_106 : decode prog_10_method_40_code 106 = .ok (.getfield 54, 3) := by decide +kernel
theorem d100_109 : decode prog_10_method_40_code 109 = .ok (.aload_n 0, 1) := by decide +kernel
theorem d100_110 : decode prog_10_method_40_code 110 = .ok (.getfield 57, 3) := by decide +kernel
theorem d100_113 : decode prog_10_method_40_code 113 = .ok (.iload_n 1, 1) := by decide +kernel
theorem d100_114 : decode prog_10_method_40_code 114 = .ok (.iaload, 1) := by decide +kernel
theorem d100_115 : decode prog_10_method_40_code 115 = .ok (.iaload, 1) := by decide +kernel
theorem d100_116 : decode prog_10_method_40_code 116 = .ok (.invokevirtual 232, 3) := by decide +kernel
theorem d100_119 : decode prog_10_method_40_code 119 = .ok (.iconst 0, 1) := by decide +kernel
theorem d100_120 : decode prog_10_method_40_code 120 = .ok (.istore 4, 2) := by decide +kernel
theorem d100_122 : decode prog_10_method_40_code 122 = .ok (.iload 4, 2) := by decide +kernel
theorem d100_124 : decode prog_10_method_40_code 124 = .ok (.sipush 20000, 3) := by decide +kernel
theorem d100_127 : decode prog_10_method_40_code 127 = .ok (.if_icmp .ge 101, 3) := by decide +kernel
theorem d100_130 : decode prog_10_method_40_code 130 = .ok (.aload_n 0, 1) := by decide +kernel
theorem d100_131 : decode prog_10_method_40_code 131 = .ok (.getfield 103, 3) := by decide +kernel
theorem d100_134 : decode prog_10_method_40_code 134 = .ok (.ifCond .le 94, 3) := by decide +kernel
theorem d100_137 : decode prog_10_method_40_code 137 = .ok (.aload_n 0, 1) := by decide +kernel
theorem d100_138 : decode prog_10_method_40_code 138 = .ok (.getfield 116, 3) := by decide +kernel
theorem d100_141 : decode prog_10_method_40_code 141 = .ok (.lconst 0, 1) := by decide +kernel
theorem d100_142 : decode prog_10_method_40_code 142 = .ok (.lcmp, 1) := by decide +kernel
theorem d100_143 : decode prog_10_method_40_code 143 = .ok (.ifCond .ne 85, 3) := by decide +kernel
theorem d100_146 : decode prog_10_method_40_code 146 = .ok (.aload_n 0, 1) := by decide +kernel
theorem d100_147 : decode prog_10_method_40_code 147 = .ok (.getfield 85, 3) := by decide +kernel
theorem d100_150 : decode prog_10_method_40_code 150 = .ok (.aload_n 0, 1) := by decide +kernel
theorem d100_151 : decode prog_10_method_40_code 151 = .ok (.getfield 103, 3) := by decide +kernel
theorem d100_154 : decode prog_10_method_40_code 154 = .ok (.iconst 1, 1) := by decide +kernel
theorem d100_155 : decode prog_10_method_40_code 155 = .ok (.isub, 1) := by decide +kernel
theorem d100_156 : decode prog_10_method_40_code 156 = .ok (.iaload, 1) := by decide +kernel
theorem d100_157 : decode prog_10_method_40_code 157 = .ok (.istore 5, 2) := by decide +kernel
theorem d100_159 : decode prog_10_method_40_code 159 = .ok (.aload_n 0, 1) := by decide +kernel
theorem d100_160 : decode prog_10_method_40_code 160 = .ok (.getfield 25, 3) := by decide +kernel
theorem d100_163 : decode prog_10_method_40_code 163 = .ok (.iload 5, 2) := by decide +kernel
theorem d100_165 : decode prog_10_method_40_code 165 = .ok (.iaload, 1) := by decide +kernel
theorem d100_166 : decode prog_10_method_40_code 166 = .ok (.istore 6, 2) := by decide +kernel
theorem d100_168 : decode prog_10_method_40_code 168 = .ok (.iload 6, 2) := by decide +kernel
theorem d100_170 : decode prog_10_method_40_code 170 = .ok (.bipush 13, 2) := by decide +kernel
theorem d100_172 : decode prog_10_method_40_code 172 = .ok (.if_icmp .ge 12, 3) := by decide +kernel
theorem d100_175 : decode prog_10_method_40_code 175 = .ok (.aload_n 0, 1) := by decide +kernel
theorem d100_176 : decode prog_10_method_40_code 176 = .ok (.iload 5, 2) := by decide +kernel
theorem d100_178 : decode prog_10_method_40_code 178 = .ok (.invokevirtual 247, 3) := by decide +kernel
theorem d100_181 : decode prog_10_method_40_code 181 = .ok (.goto 41, 3) := by decide +kernel
theorem d100_184 : decode prog_10_method_40_code 184 = .ok (.iload 6, 2) := by decide +kernel
theorem d100_186 : decode prog_10_method_40_code 186 = .ok (.bipush 13, 2) := by decide +kernel
theorem d100_188 : decode prog_10_method_40_code 188 = .ok (.if_icmp .ne 12, 3) := by decide +kernel
theorem d100_191 : decode prog_10_method_40_code 191 = .ok (.aload_n 0, 1) := by decide +kernel
theorem d100_192 : decode prog_10_method_40_code 192 = .ok (.iload 5, 2) := by decide +kernel
theorem d100_194 : decode prog_10_method_40_code 194 = .ok (.invokevirtual 250, 3) := by decide +kernel
theorem d100_197 : decode prog_10_method_40_code 197 = .ok (.goto 25, 3) := by decide +kernel
theorem d100_200 : decode prog_10_method_40_code 200 = .ok (.iload 6, 2) := by decide +kernel
theorem d100_202 : decode prog_10_method_40_code 202 = .ok (.bipush 14, 2) := by decide +kernel
theorem d100_204 : decode prog_10_method_40_code 204 = .ok (.if_icmp .ne 12, 3) := by decide +kernel
theorem d100_207 : decode prog_10_method_40_code 207 = .ok (.aload_n 0, 1) := by decide +kernel
theorem d100_208 : decode prog_10_method_40_code 208 = .ok (.iload 5, 2) := by decide +kernel
theorem d100_210 : decode prog_10_method_40_code 210 = .ok (.invokevirtual 253, 3) := by decide +kernel
theorem d100_213 : decode prog_10_method_40_code 213 = .ok (.goto 9, 3) := by decide +kernel
theorem d100_216 : decode prog_10_method_40_code 216 = .ok (.aload_n 0, 1) := by decide +kernel
theorem d100_217 : decode prog_10_method_40_code 217 = .ok (.iload 5, 2) := by decide +kernel
theorem d100_219 : decode prog_10_method_40_code 219 = .ok (.invokevirtual 256, 3) := by decide +kernel
theorem d100_222 : decode prog_10_method_40_code 222 = .ok (.iinc 4 1, 3) := by decide +kernel
theorem d100_225 : decode prog_10_method_40_code 225 = .ok (.goto (-103), 3) := by decide +kernel
theorem d100_228 : decode prog_10_method_40_code 228 = .ok (.aload_n 0, 1) := by decide +kernel
theorem d100_229 : decode prog_10_method_40_code 229 = .ok (.getfield 116, 3) := by decide +kernel
theorem d100_232 : decode prog_10_method_40_code 232 = .ok (.lconst 0, 1) := by decide +kernel
theorem d100_233 : decode prog_10_method_40_code 233 = .ok (.lcmp, 1) := by decide +kernel
theorem d100_234 : decode prog_10_method_40_code 234 = .ok (.ifCond .eq 10, 3) := by decide +kernel
theorem d100_237 : decode prog_10_method_40_code 237 = .ok (.aload_n 0, 1) := by decide +kernel
theorem d100_238 : decode prog_10_method_40_code 238 = .ok (.getfield 116, 3) := by decide +kernel
theorem d100_241 : decode prog_10_method_40_code 241 = .ok (.goto 7, 3) := by decide +kernel
theorem d100_244 : decode prog_10_method_40_code 244 = .ok (.aload_n 0, 1) := by decide +kernel
theorem d100_245 : decode prog_10_method_40_code 245 = .ok (.getfield 112, 3) := by decide +kernel
theorem d100_248 : decode prog_10_method_40_code 248 = .ok (.lreturn, 1) := by decide +kernel
theorem d101_0 : decode prog_10_method_41_code 0 = .ok (.iload_n 1, 1) := by decide +kernel
theorem d101_1 : decode prog_10_method_41_code 1 = .ok (.ifCond .lt 11, 3) := by decide +kernel
theorem d101_4 : decode prog_10_method_41_code 4 = .ok (.iload_n 1, 1) := by decide +kernel
theorem d101_5 : decode prog_10_method_41_code 5 = .ok (.aload_n 0, 1) := by decide +kernel
theorem d101_6 : decode prog_10_method_41_code 6 = .ok (.getfield 19, 3) := by decide +kernel
theorem d101_9 : decode prog_10_method_41_code 9 = .ok (.if_icmp .lt 7, 3) := by decide +kernel
theorem d101_12 : decode prog_10_method_41_code 12 = .ok (.iconst 1, 1) := by decide +kernel
theorem d101_13 : decode prog_10_method_41_code 13 = .ok (.goto 4, 3) := by decide +kernel
theorem d101_16 : decode prog_10_method_41_code 16 = .ok (.iconst 0, 1) := by decide +kernel
theorem d101_17 : decode prog_10_method_41_code 17 = .ok (.ireturn, 1) := by decide +kernel
theorem d102_0 : decode prog_10_method_42_code 0 = .ok (.aload_n 0, 1) := by decide +kernel
theorem d102_1 : decode prog_10_method_42_code 1 = .ok (.iload_n 1, 1) := by decide +kernel
theorem d102_2 : decode prog_10_method_42_code 2 = .ok (.invokevirtual 259, 3) := by decide +kernel
theorem d102_5 : decode prog_10_method_42_code 5 = .ok (.ifCond .eq 7, 3) := by decide +kernel
theorem d102_8 : decode prog_10_method_42_code 8 = .ok (.iconst (-1), 1) := by decide +kernel
theorem d102_9 : decode prog_10_method_42_code 9 = .ok (.goto 9, 3) := by decide +kernel
theorem d102_12 : decode prog_10_method_42_code 12 = .ok (.aload_n 0, 1) := by decide +kernel
theorem d102_13 : decode prog_10_method_42_code 13 = .ok (.getfield 57, 3) := by decide +kernel
theorem d102_16 : decode prog_10_method_42_code 16 = .ok (.iload_n 1, 1) := by decide +kernel
theorem d102_17 : decode prog_10_method_42_code 17 = .ok (.iaload, 1) := by decide +kernel
theorem d102_18 : decode prog_10_method_42_code 18 = .ok (.ireturn, 1) := by decide +kernel
theorem d103_0 : decode prog_10_method_43_code 0 = .ok (.aload_n 0, 1) := by decide +kernel
theorem d103_1 : decode prog_10_method_43_code 1 = .ok (.iload_n 1, 1) := by decide +kernel
theorem d103_2 : decode prog_10_method_43_code 2 = .ok (.invokevirtual 259, 3) := by decide +kernel
theorem d103_5 : decode prog_10_method_43_code 5 = .ok (.ifCond .ne 29, 3) := by decide +kernel
theorem d103_8 : decode prog_10_method_43_code 8 = .ok (.iload_n 2, 1) := by decide +kernel
theorem d103_9 : decode prog_10_method_43_code 9 = .ok (.ifCond .lt 25, 3) := by decide +kernel
theorem d103_12 : decode prog_10_method_43_code 12 = .ok (.iload_n 2, 1) := by decide +kernel
theorem d103_13 : decode prog_10_method_43_code 13 = .ok (.iconst 1, 1) := by decide +kernel
theorem d103_14 : decode prog_10_method_43_code 14 = .ok (.if_icmp .gt 20, 3) := by decide +kernel
theorem d103_17 : decode prog_10_method_43_code 17 = .ok (.aload_n 0, 1) := by decide +kernel
theorem d103_18 : decode prog_10_method_43_code 18 = .ok (.aload_n 0, 1) := by decide +kernel
theorem d103_19 : decode prog_10_method_43_code 19 = .ok (.getfield 57, 3) := by decide +kernel
theorem d103_22 : decode prog_10_method_43_code 22 = .ok (.iload_n 1, 1) := by decide +kernel
theorem d103_23 : decode prog_10_method_43_code 23 = .ok (.iaload, 1) := by decide +kernel
theorem d103_24 : decode prog_10_method_43_code 24 = .ok (.iload_n 2, 1) := by decide +kernel
theorem d103_25 : decode prog_10_method_43_code 25 = .ok (.invokevirtual 204, 3) := by decide +kernel
theorem d103_28 : decode prog_10_method_43_code 28 = .ok (.sipush 300, 3) := by decide +kernel
theorem d103_31 : decode prog_10_method_43_code 31 = .ok (.if_icmp .eq 7, 3) := by decide +kernel
theorem d103_34 : decode prog_10_method_43_code 34 = .ok (.ldc2_w 245, 3) := by decide +kernel
theorem d103_37 : decode prog_10_method_43_code 37 = .ok (.lreturn, 1) := by decide +kernel
theorem d103_38 : decode prog_10_method_43_code 38 = .ok (.iload_n 2, 1) := by decide +kernel
theorem d103_39 : decode prog_10_method_43_code 39 = .ok (.ifCond .ne 12, 3) := by decide +kernel
theorem d103_42 : decode prog_10_method_43_code 42 = .ok (.aload_n 0, 1) := by decide +kernel
theorem d103_43 : decode prog_10_method_43_code 43 = .ok (.getfield 119, 3) := by decide +kernel
theorem d103_46 : decode prog_10_method_43_code 46 = .ok (.iload_n 1, 1) := by decide +kernel
theorem d103_47 : decode prog_10_method_43_code 47 = .ok (.laload, 1) := by decide +kernel
theorem d103_48 : decode prog_10_method_43_code 48 = .ok (.goto 9, 3) := by decide +kernel
theorem d103_51 : decode prog_10_method_43_code 51 = .ok (.aload_n 0, 1) := by decide +kernel
theorem d103_52 : decode prog_10_method_43_code 52 = .ok (.getfield 122, 3) := by decide +kernel
theorem d103_55 : decode prog_10_method_43_code 55 = .ok (.iload_n 1, 1) := by decide +kernel
theorem d103_56 : decode prog_10_method_43_code 56 = .ok (.laload, 1) := by decide +kernel
theorem d103_57 : decode prog_10_method_43_code 57 = .ok (.lreturn, 1) := by decide +kernel
theorem d104_0 : decode prog_10_method_44_code 0 = .ok (.aload_n 0, 1) := by decide +kernel
theorem d104_1 : decode prog_10_method_44_code 1 = .ok (.iload_n 1, 1) := by decide +kernel
theorem d104_2 : decode prog_10_method_44_code 2 = .ok (.invokevirtual 259, 3) := by decide +kernel
theorem d104_5 : decode prog_10_method_44_code 5 = .ok (.ifCond .ne 11, 3) := by decide +kernel
theorem d104_8 : decode prog_10_method_44_code 8 = .ok (.aload_n 0, 1) := by decide +kernel
theorem d104_9 : decode prog_10_method_44_code 9 = .ok (.iload_n 2, 1) := by decide +kernel
theorem d104_10 : decode prog_10_method_44_code 10 = .ok (.invokevirtual 136, 3) := by decide +kernel
theorem d104_13 : decode prog_10_method_44_code 13 = .ok (.ifCond .ne 7, 3) := by decide +kernel
theorem d104_16 : decode prog_10_method_44_code 16 = .ok (.iconst (-1), 1) := by decide +kernel
theorem d104_17 : decode prog_10_method_44_code 17 = .ok (.goto 34, 3) := by decide +kernel
theorem d104_20 : decode prog_10_method_44_code 20 = .ok (.aload_n 0, 1) := by decide +kernel
theorem d104_21 : decode prog_10_method_44_code 21 = .ok (.getfield 66, 3) := by decide +kernel
theorem d104_24 : decode prog_10_method_44_code 24 = .ok (.iload_n 1, 1) := by decide +kernel
theorem d104_25 : decode prog_10_method_44_code 25 = .ok (.bipush 60, 2) := by decide +kernel
theorem d104_27 : decode prog_10_method_44_code 27 = .ok (.imul, 1) := by decide +kernel
theorem d104_28 : decode prog_10_method_44_code 28 = .ok (.iload_n 2, 1) := by decide +kernel
theorem d104_29 : decode prog_10_method_44_code 29 = .ok (.iadd, 1) := by decide +kernel
theorem d104_30 : decode prog_10_method_44_code 30 = .ok (.baload, 1) := by decide +kernel
theorem d104_31 : decode prog_10_method_44_code 31 = .ok (.ifCond .eq 17, 3) := by decide +kernel
theorem d104_34 : decode prog_10_method_44_code 34 = .ok (.aload_n 0, 1) := by decide +kernel
theorem d104_35 : decode prog_10_method_44_code 35 = .ok (.getfield 72, 3) := by decide +kernel
theorem d104_38 : decode prog_10_method_44_code 38 = .ok (.iload_n 1, 1) := by decide +kernel
theorem d104_39 : decode prog_10_method_44_code 39 = .ok (.bipush 60, 2) := by decide +kernel
theorem d104_41 : decode prog_10_method_44_code 41 = .ok (.imul, 1) := by decide +kernel
theorem d104_42 : decode prog_10_method_44_code 42 = .ok (.iload_n 2, 1) := by decide +kernel
theorem d104_43 : decode prog_10_method_44_code 43 = .ok (.iadd, 1) := by decide +kernel
theorem d104_44 : decode prog_10_method_44_code 44 = .ok (.iaload, 1) := by decide +kernel
theorem d104_45 : decode prog_10_method_44_code 45 = .ok (.goto 6, 3) := by decide +kernel
theorem d104_48 : decode prog_10_method_44_code 48 = .ok (.sipush 400, 3) := by decide +kernel
theorem d104_51 : decode prog_10_method_44_code 51 = .ok (.ireturn, 1) := by decide +kernel
theorem d105_0 : decode prog_10_method_45_code 0 = .ok (.aload_n 0, 1) := by decide +kernel
theorem d105_1 : decode prog_10_method_45_code 1 = .ok (.iload_n 1, 1) := by decide +kernel
theorem d105_2 : decode prog_10_method_45_code 2 = .ok (.invokevirtual 259, 3) := by decide +kernel
theorem d105_5 : decode prog_10_method_45_code 5 = .ok (.ifCond .ne 39, 3) := by decide +kernel
theorem d105_8 : decode prog_10_method_45_code 8 = .ok (.aload_n 0, 1) := by decide +kernel
theorem d105_9 : decode prog_10_method_45_code 9 = .ok (.iload_n 2, 1) := by decide +kernel
theorem d105_10 : decode prog_10_method_45_code 10 = .ok (.invokevirtual 136, 3) := by decide +kernel
theorem d105_13 : decode prog_10_method_45_code 13 = .ok (.ifCond .eq 31, 3) := by decide +kernel
theorem d105_16 : decode prog_10_method_45_code 16 = .ok (.aload_n 0, 1) := by decide +kernel
theorem d105_17 : decode prog_10_method_45_code 17 = .ok (.getfield 66, 3) := by decide +kernel
theorem d105_20 : decode prog_10_method_45_code 20 = .ok (.iload_n 1, 1) := by decide +kernel
theorem d105_21 : decode prog_10_method_45_code 21 = .ok (.bipush 60, 2) := by decide +kernel
theorem d105_23 : decode prog_10_method_45_code 23 = .ok (.imul, 1) := by decide +kernel
theorem d105_24 : decode prog_10_method_45_code 24 = .ok (.iload_n 2, 1) := by decide +kernel
theorem d105_25 : decode prog_10_method_45_code 25 = .ok (.iadd, 1) := by decide +kernel
theorem d105_26 : decode prog_10_method_45_code 26 = .ok (.baload, 1) := by decide +kernel
theorem d105_27 : decode prog_10_method_45_code 27 = .ok (.ifCond .eq 17, 3) := by decide +kernel
theorem d105_30 : decode prog_10_method_45_code 30 = .ok (.aload_n 0, 1) := by decide +kernel
theorem d105_31 : decode prog_10_method_45_code 31 = .ok (.getfield 69, 3) := by decide +kernel
theorem d105_34 : decode prog_10_method_45_code 34 = .ok (.iload_n 1, 1) := by decide +kernel
theorem d105_35 : decode prog_10_method_45_code 35 = .ok (.bipush 60, 2) := by decide +kernel
theorem d105_37 : decode prog_10_method_45_code 37 = .ok (.imul, 1) := by decide +kernel
theorem d105_38 : decode prog_10_method_45_code 38 = .ok (.iload_n 2, 1) := by decide +kernel
theorem d105_39 : decode prog_10_method_45_code 39 = .ok (.iadd, 1) := by decide +kernel
theorem d105_40 : decode prog_10_method_45_code 40 = .ok (.baload, 1) := by decide +kernel
theorem d105_41 : decode prog_10_method_45_code 41 = .ok (.ifCond .ne 9, 3) := by decide +kernel
theorem d105_44 : decode prog_10_method_45_code 44 = .ok (.ldc2_w 245, 3) := by decide +kernel
theorem d105_47 : decode prog_10_method_45_code 47 = .ok (.goto 14, 3) := by decide +kernel
theorem d105_50 : decode prog_10_method_45_code 50 = .ok (.aload_n 0, 1) := by decide +kernel
theorem d105_51 : decode prog_10_method_45_code 51 = .ok (.getfield 78, 3) := by decide +kernel
theorem d105_54 : decode prog_10_method_45_code 54 = .ok (.iload_n 1, 1) := by decide +kernel
theorem d105_55 : decode prog_10_method_45_code 55 = .ok (.bipush 60, 2) := by decide +kernel
theorem d105_57 : decode prog_10_method_45_code 57 = .ok (.imul, 1) := by decide +kernel
theorem d105_58 : decode prog_10_method_45_code 58 = .ok (.iload_n 2, 1) := by decide +kernel
theorem d105_59 : decode prog_10_method_45_code 59 = .ok (.iadd, 1) := by decide +kernel
theorem d105_60 : decode prog_10_method_45_code 60 = .ok (.laload, 1) := by decide +kernel
theorem d105_61 : decode prog_10_method_45_code 61 = .ok (.lreturn, 1) := by decide +kernel
theorem d106_0 : decode prog_10_method_46_code 0 = .ok (.aload_n 0, 1) := by decide +kernel
theorem d106_1 : decode prog_10_method_46_code 1 = .ok (.iload_n 1, 1) := by decide +kernel
theorem d106_2 : decode prog_10_method_46_code 2 = .ok (.invokevirtual 259, 3) := by decide +kernel
theorem d106_5 : decode prog_10_method_46_code 5 = .ok (.ifCond .eq 5, 3) := by decide +kernel
theorem d106_8 : decode prog_10_method_46_code 8 = .ok (.iconst (-1), 1) := by decide +kernel
theorem d106_9 : decode prog_10_method_46_code 9 = .ok (.ireturn, 1) := by decide +kernel
theorem d106_10 : decode prog_10_method_46_code 10 = .ok (.iconst 0, 1) := by decide +kernel
theorem d106_11 : decode prog_10_method_46_code 11 = .ok (.istore_n 2, 1) := by decide +kernel
theorem d106_12 : decode prog_10_method_46_code 12 = .ok (.iconst 0, 1) := by decide +kernel
theorem d106_13 : decode prog_10_method_46_code 13 = .ok (.istore_n 3, 1) := by decide +kernel
theorem d106_14 : decode prog_10_method_46_code 14 = .ok (.iload_n 3, 1) := by decide +kernel
theorem d106_15 : decode prog_10_method_46_code 15 = .ok (.aload_n 0, 1) := by decide +kernel
theorem d106_16 : decode prog_10_method_46_code 16 = .ok (.getfield 7, 3) := by decide +kernel
theorem d106_19 : decode prog_10_method_46_code 19 = .ok (.if_icmp .ge 61, 3) := by decide +kernel
theorem d106_22 : decode prog_10_method_46_code 22 = .ok (.aload_n 0, 1) := by decide +kernel
theorem d106_23 : decode prog_10_method_46_code 23 = .ok (.getfield 66, 3) := by decide +kernel
theorem d106_26 : decode prog_10_method_46_code 26 = .ok (.iload_n 1, 1) := by decide +kernel
theorem d106_27 : decode prog_10_method_46_code 27 = .ok (.bipush 60, 2) := by decide +kernel
theorem d106_29 : decode prog_10_method_46_code 29 = .ok (.imul, 1) := by decide +kernel
theorem d106_30 : decode prog_10_method_46_code 30 = .ok (.iload_n 3, 1) := by decide +kernel
theorem d106_31 : decode prog_10_method_46_code 31 = .ok (.iadd, 1) := by decide +kernel
theorem d106_32 : decode prog_10_method_46_code 32 = .ok (.baload, 1) := by decide +kernel
theorem d106_33 : decode prog_10_method_46_code 33 = .ok (.ifCond .eq 41, 3) := by decide +kernel
theorem d106_36 : decode prog_10_method_46_code 36 = .ok (.aload_n 0, 1) := by decide +kernel
theorem d106_37 : decode prog_10_method_46_code 37 = .ok (.getfield 69, 3) := by decide +kernel
theorem d106_40 : decode prog_10_method_46_code 40 = .ok (.iload_n 1, 1) := by decide +kernel
theorem d106_41 : decode prog_10_method_46_code 41 = .ok (.bipush 60, 2) := by decide +kernel
theorem d106_43 : decode prog_10_method_46_code 43 = .ok (.imul, 1) := by decide +kernel
theorem d106_44 : decode prog_10_method_46_code 44 = .ok (.iload_n 3, 1) := by decide +kernel
theorem d106_45 : decode prog_10_method_46_code 45 = .ok (.iadd, 1) := by decide +kernel
theorem d106_46 : decode prog_10_method_46_code 46 = .ok (.baload, 1) := by decide +kernel
theorem d106_47 : decode prog_10_method_46_code 47 = .ok (.ifCond .ne 27, 3) := by decide +kernel
theorem d106_50 : decode prog_10_method_46_code 50 = .ok (.aload_n 0, 1) := by decide +kernel
theorem d106_51 : decode prog_10_method_46_code 51 = .ok (.getfield 25, 3) := by decide +kernel
theorem d106_54 : decode prog_10_method_46_code 54 = .ok (.iload_n 3, 1) := by decide +kernel
theorem d106_55 : decode prog_10_method_46_code 55 = .ok (.iaload, 1) := by decide +kernel
theorem d106_56 : decode prog_10_method_46_code 56 = .ok (.iconst 1, 1) := by decide +kernel
theorem d106_57 : decode prog_10_method_46_code 57 = .ok (.if_icmp .le 17, 3) := by decide +kernel
theorem d106_60 : decode prog_10_method_46_code 60 = .ok (.aload_n 0, 1) := by decide +kernel
theorem d106_61 : decode prog_10_method_46_code 61 = .ok (.getfield 25, 3) := by decide +kernel
theorem d106_64 : decode prog_10_method_46_code 64 = .ok (.iload_n 3, 1) := by decide +kernel
theorem d106_65 : decode prog_10_method_46_code 65 = .ok (.iaload, 1) := by decide +kernel
theorem d106_66 : decode prog_10_method_46_code 66 = .ok (.bipush 16, 2) := by decide +kernel
theorem d106_68 : decode prog_10_method_46_code 68 = .ok (.if_icmp .ge 6, 3) := by decide +kernel
theorem d106_71 : decode prog_10_method_46_code 71 = .ok (.iinc 2 1, 3) := by decide +kernel
theorem d106_74 : decode prog_10_method_46_code 74 = .ok (.iinc 3 1, 3) := by decide +kernel
theorem d106_77 : decode prog_10_method_46_code 77 = .ok (.goto (-63), 3) := by decide +kernel
theorem d106_80 : decode prog_10_method_46_code 80 = .ok (.iload_n 2, 1) := by decide +kernel
theorem d106_81 : decode prog_10_method_46_code 81 = .ok (.ireturn, 1) := by decide +kernel
theorem d107_0 : decode prog_10_method_47_code 0 = .ok (.iconst 0, 1) := by decide +kernel
theorem d107_1 : decode prog_10_method_47_code 1 = .ok (.istore_n 2, 1) := by decide +kernel
theorem d107_2 : decode prog_10_method_47_code 2 = .ok (.iconst 0, 1) := by decide +kernel
theorem d107_3 : decode prog_10_method_47_code 3 = .ok (.istore_n 3, 1) := by decide +kernel
theorem d107_4 : decode prog_10_method_47_code 4 = .ok (.iload_n 3, 1) := by decide +kernel
theorem d107_5 : decode prog_10_method_47_code 5 = .ok (.bipush 8, 2) := by decide +kernel
theorem d107_7 : decode prog_10_method_47_code 7 = .ok (.if_icmp .ge 21, 3) := by decide +kernel
theorem d107_10 : decode prog_10_method_47_code 10 = .ok (.aload_n 0, 1) := by decide +kernel
theorem d107_11 : decode prog_10_method_47_code 11 = .ok (.getfield 41, 3) := by decide +kernel
theorem d107_14 : decode prog_10_method_47_code 14 = .ok (.iload_n 3, 1) := by decide +kernel
theorem d107_15 : decode prog_10_method_47_code 15 = .ok (.baload, 1) := by decide +kernel
theorem d107_16 : decode prog_10_method_47_code 16 = .ok (.ifCond .eq 6, 3) := by decide +kernel
theorem d107_19 : decode prog_10_method_47_code 19 = .ok (.iinc 2 1, 3) := by decide +kernel
theorem d107_22 : decode prog_10_method_47_code 22 = .ok (.iinc 3 1, 3) := by decide +kernel
theorem d107_25 : decode prog_10_method_47_code 25 = .ok (.goto (-21), 3) := by decide +kernel
theorem d107_28 : decode prog_10_method_47_code 28 = .ok (.iload_n 1, 1) := by decide +kernel
theorem d107_29 : decode prog_10_method_47_code 29 = .ok (.ifCond .ne 10, 3) := by decide +kernel
theorem d107_32 : decode prog_10_method_47_code 32 = .ok (.aload_n 0, 1) := by decide +kernel
theorem d107_33 : decode prog_10_method_47_code 33 = .ok (.getfield 7, 3) := by decide +kernel
theorem d107_36 : decode prog_10_method_47_code 36 = .ok (.goto 37, 3) := by decide +kernel
theorem d107_39 : decode prog_10_method_47_code 39 = .ok (.iload_n 1, 1) := by decide +kernel
theorem d107_40 : decode prog_10_method_47_code 40 = .ok (.iconst 1, 1) := by decide +kernel
theorem d107_41 : decode prog_10_method_47_code 41 = .ok (.if_icmp .ne 7, 3) := by decide +kernel
theorem d107_44 : decode prog_10_method_47_code 44 = .ok (.iload_n 2, 1) := by decide +kernel
theorem d107_45 : decode prog_10_method_47_code 45 = .ok (.goto 28, 3) := by decide +kernel
theorem d107_48 : decode prog_10_method_47_code 48 = .ok (.iload_n 1, 1) := by decide +kernel
theorem d107_49 : decode prog_10_method_47_code 49 = .ok (.iconst 2, 1) := by decide +kernel
theorem d107_50 : decode prog_10_method_47_code 50 = .ok (.if_icmp .ne 10, 3) := by decide +kernel
theorem d107_53 : decode prog_10_method_47_code 53 = .ok (.aload_n 0, 1) := by decide +kernel
theorem d107_54 : decode prog_10_method_47_code 54 = .ok (.getfield 19, 3) := by decide +kernel
theorem d107_57 : decode prog_10_method_47_code 57 = .ok (.goto 16, 3) := by decide +kernel
theorem d107_60 : decode prog_10_method_47_code 60 = .ok (.iload_n 1, 1) := by decide +kernel
theorem d107_61 : decode prog_10_method_47_code 61 = .ok (.iconst 3, 1) := by decide +kernel
theorem d107_62 : decode prog_10_method_47_code 62 = .ok (.if_icmp .ne 10, 3) := by decide +kernel
theorem d107_65 : decode prog_10_method_47_code 65 = .ok (.aload_n 0, 1) := by decide +kernel
theorem d107_66 : decode prog_10_method_47_code 66 = .ok (.getfield 22, 3) := by decide +kernel
theorem d107_69 : decode prog_10_method_47_code 69 = .ok (.goto 4, 3) := by decide +kernel
theorem d107_72 : decode prog_10_method_47_code 72 = .ok (.iconst (-1), 1) := by decide +kernel
theorem d107_73 : decode prog_10_method_47_code 73 = .ok (.ireturn, 1) := by decide +kernel
end
section
/-! decode rows, printed by a program of mine out of the listing -/
theorem d108_0 : decode prog_5_method_2_code 0 = .ok (.iload_n 0, 1) := by decide +kernel
theorem d108_1 : decode prog_5_method_2_code 1 = .ok (.ifCond .lt 13, 3) := by decide +kernel
theorem d108_4 : decode prog_5_method_2_code 4 = .ok (.iload_n 0, 1) := by decide +kernel
theorem d108_5 : decode prog_5_method_2_code 5 = .ok (.bipush 16, 2) := by decide +kernel
theorem d108_7 : decode prog_5_method_2_code 7 = .ok (.if_icmp .gt 7, 3) := by decide +kernel
theorem d108_10 : decode prog_5_method_2_code 10 = .ok (.iconst 1, 1) := by decide +kernel
theorem d108_11 : decode prog_5_method_2_code 11 = .ok (.goto 4, 3) := by decide +kernel
theorem d108_14 : decode prog_5_method_2_code 14 = .ok (.iconst 0, 1) := by decide +kernel
theorem d108_15 : decode prog_5_method_2_code 15 = .ok (.ireturn, 1) := by decide +kernel
theorem d109_0 : decode prog_5_method_3_code 0 = .ok (.iload_n 0, 1) := by decide +kernel
theorem d109_1 : decode prog_5_method_3_code 1 = .ok (.bipush 6, 2) := by decide +kernel
theorem d109_3 : decode prog_5_method_3_code 3 = .ok (.if_icmp .lt 13, 3) := by decide +kernel
theorem d109_6 : decode prog_5_method_3_code 6 = .ok (.iload_n 0, 1) := by decide +kernel
theorem d109_7 : decode prog_5_method_3_code 7 = .ok (.bipush 10, 2) := by decide +kernel
theorem d109_9 : decode prog_5_method_3_code 9 = .ok (.if_icmp .gt 7, 3) := by decide +kernel
theorem d109_12 : decode prog_5_method_3_code 12 = .ok (.iconst 1, 1) := by decide +kernel
theorem d109_13 : decode prog_5_method_3_code 13 = .ok (.goto 4, 3) := by decide +kernel
theorem d109_16 : decode prog_5_method_3_code 16 = .ok (.iconst 0, 1) := by decide +kernel
theorem d109_17 : decode prog_5_method_3_code 17 = .ok (.ireturn, 1) := by decide +kernel
theorem d110_0 : decode prog_5_method_4_code 0 = .ok (.iload_n 0, 1) := by decide +kernel
theorem d110_1 : decode prog_5_method_4_code 1 = .ok (.bipush 11, 2) := by decide +kernel
theorem d110_3 : decode prog_5_method_4_code 3 = .ok (.if_icmp .eq 9, 3) := by decide +kernel
theorem d110_6 : decode prog_5_method_4_code 6 = .ok (.iload_n 0, 1) := by decide +kernel
theorem d110_7 : decode prog_5_method_4_code 7 = .ok (.bipush 12, 2) := by decide +kernel
theorem d110_9 : decode prog_5_method_4_code 9 = .ok (.if_icmp .ne 7, 3) := by decide +kernel
theorem d110_12 : decode prog_5_method_4_code 12 = .ok (.iconst 1, 1) := by decide +kernel
theorem d110_13 : decode prog_5_method_4_code 13 = .ok (.goto 4, 3) := by decide +kernel
theorem d110_16 : decode prog_5_method_4_code 16 = .ok (.iconst 0, 1) := by decide +kernel
theorem d110_17 : decode prog_5_method_4_code 17 = .ok (.ireturn, 1) := by decide +kernel
theorem d111_0 : decode prog_5_method_5_code 0 = .ok (.iload_n 0, 1) := by decide +kernel
theorem d111_1 : decode prog_5_method_5_code 1 = .ok (.iconst 2, 1) := by decide +kernel
theorem d111_2 : decode prog_5_method_5_code 2 = .ok (.if_icmp .lt 13, 3) := by decide +kernel
theorem d111_5 : decode prog_5_method_5_code 5 = .ok (.iload_n 0, 1) := by decide +kernel
theorem d111_6 : decode prog_5_method_5_code 6 = .ok (.bipush 15, 2) := by decide +kernel
theorem d111_8 : decode prog_5_method_5_code 8 = .ok (.if_icmp .gt 7, 3) := by decide +kernel
theorem d111_11 : decode prog_5_method_5_code 11 = .ok (.iconst 1, 1) := by decide +kernel
theorem d111_12 : decode prog_5_method_5_code 12 = .ok (.goto 4, 3) := by decide +kernel
theorem d111_15 : decode prog_5_method_5_code 15 = .ok (.iconst 0, 1) := by decide +kernel
theorem d111_16 : decode prog_5_method_5_code 16 = .ok (.ireturn, 1) := by decide +kernel
theorem d112_0 : decode prog_8_method_2_code 0 = .ok (.iload_n 0, 1) := by decide +kernel
theorem d112_1 : decode prog_8_method_2_code 1 = .ok (.ifCond .eq 19, 3) := by decide +kernel
theorem d112_4 : decode prog_8_method_2_code 4 = .ok (.iload_n 0, 1) := by decide +kernel
theorem d112_5 : decode prog_8_method_2_code 5 = .ok (.bipush (-31), 2) := by decide +kernel
theorem d112_7 : decode prog_8_method_2_code 7 = .ok (.if_icmp .lt 13, 3) := by decide +kernel
theorem d112_10 : decode prog_8_method_2_code 10 = .ok (.iload_n 0, 1) := by decide +kernel
theorem d112_11 : decode prog_8_method_2_code 11 = .ok (.bipush 31, 2) := by decide +kernel
theorem d112_13 : decode prog_8_method_2_code 13 = .ok (.if_icmp .gt 7, 3) := by decide +kernel
theorem d112_16 : decode prog_8_method_2_code 16 = .ok (.iconst 1, 1) := by decide +kernel
theorem d112_17 : decode prog_8_method_2_code 17 = .ok (.goto 4, 3) := by decide +kernel
theorem d112_20 : decode prog_8_method_2_code 20 = .ok (.iconst 0, 1) := by decide +kernel
theorem d112_21 : decode prog_8_method_2_code 21 = .ok (.ireturn, 1) := by decide +kernel
theorem d113_0 : decode prog_8_method_3_code 0 = .ok (.iload_n 0, 1) := by decide +kernel
theorem d113_1 : decode prog_8_method_3_code 1 = .ok (.bipush 100, 2) := by decide +kernel
theorem d113_3 : decode prog_8_method_3_code 3 = .ok (.if_icmp .eq 23, 3) := by decide +kernel
theorem d113_6 : decode prog_8_method_3_code 6 = .ok (.iload_n 0, 1) := by decide +kernel
theorem d113_7 : decode prog_8_method_3_code 7 = .ok (.bipush 101, 2) := by decide +kernel
theorem d113_9 : decode prog_8_method_3_code 9 = .ok (.if_icmp .eq 17, 3) := by decide +kernel
theorem d113_12 : decode prog_8_method_3_code 12 = .ok (.iload_n 0, 1) := by decide +kernel
theorem d113_13 : decode prog_8_method_3_code 13 = .ok (.sipush 200, 3) := by decide +kernel
theorem d113_16 : decode prog_8_method_3_code 16 = .ok (.if_icmp .eq 10, 3) := by decide +kernel
theorem d113_19 : decode prog_8_method_3_code 19 = .ok (.iload_n 0, 1) := by decide +kernel
theorem d113_20 : decode prog_8_method_3_code 20 = .ok (.sipush 201, 3) := by decide +kernel
theorem d113_23 : decode prog_8_method_3_code 23 = .ok (.if_icmp .ne 7, 3) := by decide +kernel
theorem d113_26 : decode prog_8_method_3_code 26 = .ok (.iconst 1, 1) := by decide +kernel
theorem d113_27 : decode prog_8_method_3_code 27 = .ok (.goto 4, 3) := by decide +kernel
theorem d113_30 : decode prog_8_method_3_code 30 = .ok (.iconst 0, 1) := by decide +kernel
theorem d113_31 : decode prog_8_method_3_code 31 = .ok (.ireturn, 1) := by decide +kernel
theorem d114_0 : decode prog_8_method_4_code 0 = .ok (.iload_n 0, 1) := by decide +kernel
theorem d114_1 : decode prog_8_method_4_code 1 = .ok (.invokestatic 9, 3) := by decide +kernel
theorem d114_4 : decode prog_8_method_4_code 4 = .ok (.ifCond .ne 10, 3) := by decide +kernel
theorem d114_7 : decode prog_8_method_4_code 7 = .ok (.iload_n 0, 1) := by decide +kernel
theorem d114_8 : decode prog_8_method_4_code 8 = .ok (.invokestatic 13, 3) := by decide +kernel
theorem d114_11 : decode prog_8_method_4_code 11 = .ok (.ifCond .eq 7, 3) := by decide +kernel
theorem d114_14 : decode prog_8_method_4_code 14 = .ok (.iconst 1, 1) := by decide +kernel
theorem d114_15 : decode prog_8_method_4_code 15 = .ok (.goto 4, 3) := by decide +kernel
theorem d114_18 : decode prog_8_method_4_code 18 = .ok (.iconst 0, 1) := by decide +kernel
theorem d114_19 : decode prog_8_method_4_code 19 = .ok (.ireturn, 1) := by decide +kernel
theorem d115_0 : decode prog_8_method_5_code 0 = .ok (.iload_n 0, 1) := by decide +kernel
theorem d115_1 : decode prog_8_method_5_code 1 = .ok (.ifCond .eq 10, 3) := by decide +kernel
theorem d115_4 : decode prog_8_method_5_code 4 = .ok (.iload_n 0, 1) := by decide +kernel
theorem d115_5 : decode prog_8_method_5_code 5 = .ok (.invokestatic 16, 3) := by decide +kernel
theorem d115_8 : decode prog_8_method_5_code 8 = .ok (.ifCond .eq 7, 3) := by decide +kernel
theorem d115_11 : decode prog_8_method_5_code 11 = .ok (.iconst 1, 1) := by decide +kernel
theorem d115_12 : decode prog_8_method_5_code 12 = .ok (.goto 4, 3) := by decide +kernel
theorem d115_15 : decode prog_8_method_5_code 15 = .ok (.iconst 0, 1) := by decide +kernel
theorem d115_16 : decode prog_8_method_5_code 16 = .ok (.ireturn, 1) := by decide +kernel
theorem d116_0 : decode prog_8_method_6_code 0 = .ok (.iload_n 0, 1) := by decide +kernel
theorem d116_1 : decode prog_8_method_6_code 1 = .ok (.invokestatic 19, 3) := by decide +kernel
theorem d116_4 : decode prog_8_method_6_code 4 = .ok (.ifCond .ne 17, 3) := by decide +kernel
theorem d116_7 : decode prog_8_method_6_code 7 = .ok (.iload_n 0, 1) := by decide +kernel
theorem d116_8 : decode prog_8_method_6_code 8 = .ok (.sipush 300, 3) := by decide +kernel
theorem d116_11 : decode prog_8_method_6_code 11 = .ok (.if_icmp .eq 10, 3) := by decide +kernel
theorem d116_14 : decode prog_8_method_6_code 14 = .ok (.iload_n 0, 1) := by decide +kernel
theorem d116_15 : decode prog_8_method_6_code 15 = .ok (.sipush 400, 3) := by decide +kernel
theorem d116_18 : decode prog_8_method_6_code 18 = .ok (.if_icmp .ne 7, 3) := by decide +kernel
theorem d116_21 : decode prog_8_method_6_code 21 = .ok (.iconst 1, 1) := by decide +kernel
theorem d116_22 : decode prog_8_method_6_code 22 = .ok (.goto 4, 3) := by decide +kernel
theorem d116_25 : decode prog_8_method_6_code 25 = .ok (.iconst 0, 1) := by decide +kernel
theorem d116_26 : decode prog_8_method_6_code 26 = .ok (.ireturn, 1) := by decide +kernel
theorem d117_0 : decode prog_8_method_7_code 0 = .ok (.iload_n 0, 1) := by decide +kernel
theorem d117_1 : decode prog_8_method_7_code 1 = .ok (.sipush 300, 3) := by decide +kernel
theorem d117_4 : decode prog_8_method_7_code 4 = .ok (.if_icmp .ne 7, 3) := by decide +kernel
theorem d117_7 : decode prog_8_method_7_code 7 = .ok (.ldc2_w 22, 3) := by decide +kernel
theorem d117_10 : decode prog_8_method_7_code 10 = .ok (.lreturn, 1) := by decide +kernel
theorem d117_11 : decode prog_8_method_7_code 11 = .ok (.iload_n 0, 1) := by decide +kernel
theorem d117_12 : decode prog_8_method_7_code 12 = .ok (.ifCond .le 12, 3) := by decide +kernel
theorem d117_15 : decode prog_8_method_7_code 15 = .ok (.lconst 1, 1) := by decide +kernel
theorem d117_16 : decode prog_8_method_7_code 16 = .ok (.iload_n 0, 1) := by decide +kernel
theorem d117_17 : decode prog_8_method_7_code 17 = .ok (.iconst 1, 1) := by decide +kernel
theorem d117_18 : decode prog_8_method_7_code 18 = .ok (.isub, 1) := by decide +kernel
theorem d117_19 : decode prog_8_method_7_code 19 = .ok (.lshl, 1) := by decide +kernel
theorem d117_20 : decode prog_8_method_7_code 20 = .ok (.lneg, 1) := by decide +kernel
theorem d117_21 : decode prog_8_method_7_code 21 = .ok (.goto 4, 3) := by decide +kernel
theorem d117_24 : decode prog_8_method_7_code 24 = .ok (.lconst 0, 1) := by decide +kernel
theorem d117_25 : decode prog_8_method_7_code 25 = .ok (.lreturn, 1) := by decide +kernel
theorem d118_0 : decode prog_8_method_8_code 0 = .ok (.iload_n 0, 1) := by decide +kernel
theorem d118_1 : decode prog_8_method_8_code 1 = .ok (.sipush 300, 3) := by decide +kernel
theorem d118_4 : decode prog_8_method_8_code 4 = .ok (.if_icmp .ne 7, 3) := by decide +kernel
theorem d118_7 : decode prog_8_method_8_code 7 = .ok (.ldc2_w 24, 3) := by decide +kernel
theorem d118_10 : decode prog_8_method_8_code 10 = .ok (.lreturn, 1) := by decide +kernel
theorem d118_11 : decode prog_8_method_8_code 11 = .ok (.iload_n 0, 1) := by decide +kernel
theorem d118_12 : decode prog_8_method_8_code 12 = .ok (.ifCond .ne 5, 3) := by decide +kernel
theorem d118_15 : decode prog_8_method_8_code 15 = .ok (.lconst 1, 1) := by decide +kernel
theorem d118_16 : decode prog_8_method_8_code 16 = .ok (.lreturn, 1) := by decide +kernel
theorem d118_17 : decode prog_8_method_8_code 17 = .ok (.iload_n 0, 1) := by decide +kernel
theorem d118_18 : decode prog_8_method_8_code 18 = .ok (.ifCond .le 13, 3) := by decide +kernel
theorem d118_21 : decode prog_8_method_8_code 21 = .ok (.lconst 1, 1) := by decide +kernel
theorem d118_22 : decode prog_8_method_8_code 22 = .ok (.iload_n 0, 1) := by decide +kernel
theorem d118_23 : decode prog_8_method_8_code 23 = .ok (.iconst 1, 1) := by decide +kernel
theorem d118_24 : decode prog_8_method_8_code 24 = .ok (.isub, 1) := by decide +kernel
theorem d118_25 : decode prog_8_method_8_code 25 = .ok (.lshl, 1) := by decide +kernel
theorem d118_26 : decode prog_8_method_8_code 26 = .ok (.lconst 1, 1) := by decide +kernel
theorem d118_27 : decode prog_8_method_8_code 27 = .ok (.lsub, 1) := by decide +kernel
theorem d118_28 : decode prog_8_method_8_code 28 = .ok (.goto 9, 3) := by decide +kernel
theorem d118_31 : decode prog_8_method_8_code 31 = .ok (.lconst 1, 1) := by decide +kernel
theorem d118_32 : decode prog_8_method_8_code 32 = .ok (.iload_n 0, 1) := by decide +kernel
theorem d118_33 : decode prog_8_method_8_code 33 = .ok (.ineg, 1) := by decide +kernel
theorem d118_34 : decode prog_8_method_8_code 34 = .ok (.lshl, 1) := by decide +kernel
theorem d118_35 : decode prog_8_method_8_code 35 = .ok (.lconst 1, 1) := by decide +kernel
theorem d118_36 : decode prog_8_method_8_code 36 = .ok (.lsub, 1) := by decide +kernel
theorem d118_37 : decode prog_8_method_8_code 37 = .ok (.lreturn, 1) := by decide +kernel
theorem d119_0 : decode prog_8_method_9_code 0 = .ok (.lload_n 1, 1) := by decide +kernel
theorem d119_1 : decode prog_8_method_9_code 1 = .ok (.iload_n 0, 1) := by decide +kernel
theorem d119_2 : decode prog_8_method_9_code 2 = .ok (.invokestatic 26, 3) := by decide +kernel
theorem d119_5 : decode prog_8_method_9_code 5 = .ok (.lcmp, 1) := by decide +kernel
theorem d119_6 : decode prog_8_method_9_code 6 = .ok (.ifCond .lt 16, 3) := by decide +kernel
theorem d119_9 : decode prog_8_method_9_code 9 = .ok (.lload_n 1, 1) := by decide +kernel
theorem d119_10 : decode prog_8_method_9_code 10 = .ok (.iload_n 0, 1) := by decide +kernel
theorem d119_11 : decode prog_8_method_9_code 11 = .ok (.invokestatic 30, 3) := by decide +kernel
theorem d119_14 : decode prog_8_method_9_code 14 = .ok (.lcmp, 1) := by decide +kernel
theorem d119_15 : decode prog_8_method_9_code 15 = .ok (.ifCond .gt 7, 3) := by decide +kernel
theorem d119_18 : decode prog_8_method_9_code 18 = .ok (.iconst 1, 1) := by decide +kernel
theorem d119_19 : decode prog_8_method_9_code 19 = .ok (.goto 4, 3) := by decide +kernel
theorem d119_22 : decode prog_8_method_9_code 22 = .ok (.iconst 0, 1) := by decide +kernel
theorem d119_23 : decode prog_8_method_9_code 23 = .ok (.ireturn, 1) := by decide +kernel
theorem d120_0 : decode prog_2_method_2_code 0 = .ok (.lload_n 0, 1) := by decide +kernel
theorem d120_1 : decode prog_2_method_2_code 1 = .ok (.ldc2_w 9, 3) := by decide +kernel
theorem d120_4 : decode prog_2_method_2_code 4 = .ok (.lcmp, 1) := by decide +kernel
theorem d120_5 : decode prog_2_method_2_code 5 = .ok (.ifCond .le 7, 3) := by decide +kernel
theorem d120_8 : decode prog_2_method_2_code 8 = .ok (.iconst 1, 1) := by decide +kernel
theorem d120_9 : decode prog_2_method_2_code 9 = .ok (.goto 4, 3) := by decide +kernel
theorem d120_12 : decode prog_2_method_2_code 12 = .ok (.iconst 0, 1) := by decide +kernel
theorem d120_13 : decode prog_2_method_2_code 13 = .ok (.ireturn, 1) := by decide +kernel
theorem d121_0 : decode prog_2_method_3_code 0 = .ok (.iload_n 0, 1) := by decide +kernel
theorem d121_1 : decode prog_2_method_3_code 1 = .ok (.tableswitch 162 2 11 #[55, 64, 73, 82, 104, 113, 122, 131, 140, 149], 55) := by decide +kernel
theorem tk121_1 : mm_tk 2 11 #[55, 64, 73, 82, 104, 113, 122, 131, 140, 149] := by unfold mm_tk; decide +kernel
theorem d121_56 : decode prog_2_method_3_code 56 = .ok (.iload_n 1, 1) := by decide +kernel
theorem d121_57 : decode prog_2_method_3_code 57 = .ok (.lload_n 2, 1) := by decide +kernel
theorem d121_58 : decode prog_2_method_3_code 58 = .ok (.lload 4, 2) := by decide +kernel
theorem d121_60 : decode prog_2_method_3_code 60 = .ok (.ladd, 1) := by decide +kernel
theorem d121_61 : decode prog_2_method_3_code 61 = .ok (.invokestatic 11, 3) := by decide +kernel
theorem d121_64 : decode prog_2_method_3_code 64 = .ok (.lreturn, 1) := by decide +kernel
theorem d121_65 : decode prog_2_method_3_code 65 = .ok (.iload_n 1, 1) := by decide +kernel
theorem d121_66 : decode prog_2_method_3_code 66 = .ok (.lload_n 2, 1) := by decide +kernel
theorem d121_67 : decode prog_2_method_3_code 67 = .ok (.lload 4, 2) := by decide +kernel
theorem d121_69 : decode prog_2_method_3_code 69 = .ok (.lsub, 1) := by decide +kernel
theorem d121_70 : decode prog_2_method_3_code 70 = .ok (.invokestatic 11, 3) := by decide +kernel
theorem d121_73 : decode prog_2_method_3_code 73 = .ok (.lreturn, 1) := by decide +kernel
theorem d121_74 : decode prog_2_method_3_code 74 = .ok (.iload_n 1, 1) := by decide +kernel
theorem d121_75 : decode prog_2_method_3_code 75 = .ok (.lload_n 2, 1) := by decide +kernel
theorem d121_76 : decode prog_2_method_3_code 76 = .ok (.lload 4, 2) := by decide +kernel
theorem d121_78 : decode prog_2_method_3_code 78 = .ok (.lmul, 1) := by decide +kernel
theorem d121_79 : decode prog_2_method_3_code 79 = .ok (.invokestatic 11, 3) := by decide +kernel
theorem d121_82 : decode prog_2_method_3_code 82 = .ok (.lreturn, 1) := by decide +kernel
theorem d121_83 : decode prog_2_method_3_code 83 = .ok (.lload 4, 2) := by decide +kernel
theorem d121_85 : decode prog_2_method_3_code 85 = .ok (.lconst 0, 1) := by decide +kernel
theorem d121_86 : decode prog_2_method_3_code 86 = .ok (.lcmp, 1) := by decide +kernel
theorem d121_87 : decode prog_2_method_3_code 87 = .ok (.ifCond .ne 9, 3) := by decide +kernel
theorem d121_90 : decode prog_2_method_3_code 90 = .ok (.ldc2_w 17, 3) := by decide +kernel
theorem d121_93 : decode prog_2_method_3_code 93 = .ok (.goto 11, 3) := by decide +kernel
theorem d121_96 : decode prog_2_method_3_code 96 = .ok (.iload_n 1, 1) := by decide +kernel
theorem d121_97 : decode prog_2_method_3_code 97 = .ok (.lload_n 2, 1) := by decide +kernel
theorem d121_98 : decode prog_2_method_3_code 98 = .ok (.lload 4, 2) := by decide +kernel
theorem d121_100 : decode prog_2_method_3_code 100 = .ok (.ldiv, 1) := by decide +kernel
theorem d121_101 : decode prog_2_method_3_code 101 = .ok (.invokestatic 11, 3) := by decide +kernel
theorem d121_104 : decode prog_2_method_3_code 104 = .ok (.lreturn, 1) := by decide +kernel
theorem d121_105 : decode prog_2_method_3_code 105 = .ok (.iload_n 1, 1) := by decide +kernel
theorem d121_106 : decode prog_2_method_3_code 106 = .ok (.lload_n 2, 1) := by decide +kernel
theorem d121_107 : decode prog_2_method_3_code 107 = .ok (.lload 4, 2) := by decide +kernel
theorem d121_109 : decode prog_2_method_3_code 109 = .ok (.ladd, 1) := by decide +kernel
theorem d121_110 : decode prog_2_method_3_code 110 = .ok (.invokestatic 19, 3) := by decide +kernel
theorem d121_113 : decode prog_2_method_3_code 113 = .ok (.lreturn, 1) := by decide +kernel
theorem d121_114 : decode prog_2_method_3_code 114 = .ok (.iload_n 1, 1) := by decide +kernel
theorem d121_115 : decode prog_2_method_3_code 115 = .ok (.lload_n 2, 1) := by decide +kernel
theorem d121_116 : decode prog_2_method_3_code 116 = .ok (.lload 4, 2) := by decide +kernel
theorem d121_118 : decode prog_2_method_3_code 118 = .ok (.lsub, 1) := by decide +kernel
theorem d121_119 : decode prog_2_method_3_code 119 = .ok (.invokestatic 19, 3) := by decide +kernel
theorem d121_122 : decode prog_2_method_3_code 122 = .ok (.lreturn, 1) := by decide +kernel
theorem d121_123 : decode prog_2_method_3_code 123 = .ok (.iload_n 1, 1) := by decide +kernel
theorem d121_124 : decode prog_2_method_3_code 124 = .ok (.lload_n 2, 1) := by decide +kernel
theorem d121_125 : decode prog_2_method_3_code 125 = .ok (.lload 4, 2) := by decide +kernel
theorem d121_127 : decode prog_2_method_3_code 127 = .ok (.lmul, 1) := by decide +kernel
theorem d121_128 : decode prog_2_method_3_code 128 = .ok (.invokestatic 19, 3) := by decide +kernel
theorem d121_131 : decode prog_2_method_3_code 131 = .ok (.lreturn, 1) := by decide +kernel
theorem d121_132 : decode prog_2_method_3_code 132 = .ok (.iload_n 1, 1) := by decide +kernel
theorem d121_133 : decode prog_2_method_3_code 133 = .ok (.lload_n 2, 1) := by decide +kernel
theorem d121_134 : decode prog_2_method_3_code 134 = .ok (.lload 4, 2) := by decide +kernel
theorem d121_136 : decode prog_2_method_3_code 136 = .ok (.ladd, 1) := by decide +kernel
theorem d121_137 : decode prog_2_method_3_code 137 = .ok (.invokestatic 22, 3) := by decide +kernel
theorem d121_140 : decode prog_2_method_3_code 140 = .ok (.lreturn, 1) := by decide +kernel
theorem d121_141 : decode prog_2_method_3_code 141 = .ok (.iload_n 1, 1) := by decide +kernel
theorem d121_142 : decode prog_2_method_3_code 142 = .ok (.lload_n 2, 1) := by decide +kernel
theorem d121_143 : decode prog_2_method_3_code 143 = .ok (.lload 4, 2) := by decide +kernel
theorem d121_145 : decode prog_2_method_3_code 145 = .ok (.lsub, 1) := by decide +kernel
theorem d121_146 : decode prog_2_method_3_code 146 = .ok (.invokestatic 22, 3) := by decide +kernel
theorem d121_149 : decode prog_2_method_3_code 149 = .ok (.lreturn, 1) := by decide +kernel
theorem d121_150 : decode prog_2_method_3_code 150 = .ok (.lload_n 2, 1) := by decide +kernel
theorem d121_151 : decode prog_2_method_3_code 151 = .ok (.lload 4, 2) := by decide +kernel
theorem d121_153 : decode prog_2_method_3_code 153 = .ok (.lcmp, 1) := by decide +kernel
theorem d121_154 : decode prog_2_method_3_code 154 = .ok (.ifCond .ge 7, 3) := by decide +kernel
theorem d121_157 : decode prog_2_method_3_code 157 = .ok (.lconst 1, 1) := by decide +kernel
theorem d121_158 : decode prog_2_method_3_code 158 = .ok (.goto 4, 3) := by decide +kernel
theorem d121_161 : decode prog_2_method_3_code 161 = .ok (.lconst 0, 1) := by decide +kernel
theorem d121_162 : decode prog_2_method_3_code 162 = .ok (.lreturn, 1) := by decide +kernel
theorem d121_163 : decode prog_2_method_3_code 163 = .ok (.lload_n 2, 1) := by decide +kernel
theorem d121_164 : decode prog_2_method_3_code 164 = .ok (.lload 4, 2) := by decide +kernel
theorem d121_166 : decode prog_2_method_3_code 166 = .ok (.lcmp, 1) := by decide +kernel
theorem d121_167 : decode prog_2_method_3_code 167 = .ok (.ifCond .ne 7, 3) := by decide +kernel
theorem d121_170 : decode prog_2_method_3_code 170 = .ok (.lconst 1, 1) := by decide +kernel
theorem d121_171 : decode prog_2_method_3_code 171 = .ok (.goto 4, 3) := by decide +kernel
theorem d121_174 : decode prog_2_method_3_code 174 = .ok (.lconst 0, 1) := by decide +kernel
theorem d121_175 : decode prog_2_method_3_code 175 = .ok (.lreturn, 1) := by decide +kernel
theorem d122_0 : decode prog_2_method_4_code 0 = .ok (.iload_n 0, 1) := by decide +kernel
theorem d122_1 : decode prog_2_method_4_code 1 = .ok (.lload_n 1, 1) := by decide +kernel
theorem d122_2 : decode prog_2_method_4_code 2 = .ok (.invokestatic 25, 3) := by decide +kernel
theorem d122_5 : decode prog_2_method_4_code 5 = .ok (.ifCond .eq 7, 3) := by decide +kernel
theorem d122_8 : decode prog_2_method_4_code 8 = .ok (.lload_n 1, 1) := by decide +kernel
theorem d122_9 : decode prog_2_method_4_code 9 = .ok (.goto 6, 3) := by decide +kernel
theorem d122_12 : decode prog_2_method_4_code 12 = .ok (.ldc2_w 31, 3) := by decide +kernel
theorem d122_15 : decode prog_2_method_4_code 15 = .ok (.lreturn, 1) := by decide +kernel
theorem d123_0 : decode prog_2_method_5_code 0 = .ok (.bipush 64, 2) := by decide +kernel
theorem d123_2 : decode prog_2_method_5_code 2 = .ok (.iload_n 0, 1) := by decide +kernel
theorem d123_3 : decode prog_2_method_5_code 3 = .ok (.invokestatic 33, 3) := by decide +kernel
theorem d123_6 : decode prog_2_method_5_code 6 = .ok (.isub, 1) := by decide +kernel
theorem d123_7 : decode prog_2_method_5_code 7 = .ok (.istore_n 3, 1) := by decide +kernel
theorem d123_8 : decode prog_2_method_5_code 8 = .ok (.iload_n 0, 1) := by decide +kernel
theorem d123_9 : decode prog_2_method_5_code 9 = .ok (.ifCond .le 11, 3) := by decide +kernel
theorem d123_12 : decode prog_2_method_5_code 12 = .ok (.lload_n 1, 1) := by decide +kernel
theorem d123_13 : decode prog_2_method_5_code 13 = .ok (.iload_n 3, 1) := by decide +kernel
theorem d123_14 : decode prog_2_method_5_code 14 = .ok (.lshl, 1) := by decide +kernel
theorem d123_15 : decode prog_2_method_5_code 15 = .ok (.iload_n 3, 1) := by decide +kernel
theorem d123_16 : decode prog_2_method_5_code 16 = .ok (.lshr, 1) := by decide +kernel
theorem d123_17 : decode prog_2_method_5_code 17 = .ok (.goto 8, 3) := by decide +kernel
theorem d123_20 : decode prog_2_method_5_code 20 = .ok (.lload_n 1, 1) := by decide +kernel
theorem d123_21 : decode prog_2_method_5_code 21 = .ok (.iload_n 3, 1) := by decide +kernel
theorem d123_22 : decode prog_2_method_5_code 22 = .ok (.lshl, 1) := by decide +kernel
theorem d123_23 : decode prog_2_method_5_code 23 = .ok (.iload_n 3, 1) := by decide +kernel
theorem d123_24 : decode prog_2_method_5_code 24 = .ok (.lushr, 1) := by decide +kernel
theorem d123_25 : decode prog_2_method_5_code 25 = .ok (.lreturn, 1) := by decide +kernel
theorem d124_0 : decode prog_2_method_6_code 0 = .ok (.iload_n 0, 1) := by decide +kernel
theorem d124_1 : decode prog_2_method_6_code 1 = .ok (.invokestatic 39, 3) := by decide +kernel
theorem d124_4 : decode prog_2_method_6_code 4 = .ok (.iload_n 0, 1) := by decide +kernel
theorem d124_5 : decode prog_2_method_6_code 5 = .ok (.invokestatic 43, 3) := by decide +kernel
theorem d124_8 : decode prog_2_method_6_code 8 = .ok (.lload_n 1, 1) := by decide +kernel
theorem d124_9 : decode prog_2_method_6_code 9 = .ok (.invokestatic 46, 3) := by decide +kernel
theorem d124_12 : decode prog_2_method_6_code 12 = .ok (.invokestatic 50, 3) := by decide +kernel
theorem d124_15 : decode prog_2_method_6_code 15 = .ok (.lreturn, 1) := by decide +kernel
theorem d999_0 : decode code 0 = .ok (.new 7, 3) := by decide +kernel
theorem d999_3 : decode code 3 = .ok (.dup, 1) := by decide +kernel
theorem d999_4 : decode code 4 = .ok (.invokespecial 9, 3) := by decide +kernel
theorem d999_7 : decode code 7 = .ok (.astore_n 1, 1) := by decide +kernel
theorem d999_8 : decode code 8 = .ok (.new 10, 3) := by decide +kernel
theorem d999_11 : decode code 11 = .ok (.dup, 1) := by decide +kernel
theorem d999_12 : decode code 12 = .ok (.invokespecial 12, 3) := by decide +kernel
theorem d999_15 : decode code 15 = .ok (.astore_n 2, 1) := by decide +kernel
theorem d999_16 : decode code 16 = .ok (.iconst 0, 1) := by decide +kernel
theorem d999_17 : decode code 17 = .ok (.istore_n 3, 1) := by decide +kernel
theorem d999_18 : decode code 18 = .ok (.iload_n 3, 1) := by decide +kernel
theorem d999_19 : decode code 19 = .ok (.aload_n 0, 1) := by decide +kernel
theorem d999_20 : decode code 20 = .ok (.arraylength, 1) := by decide +kernel
theorem d999_21 : decode code 21 = .ok (.bipush 6, 2) := by decide +kernel
theorem d999_23 : decode code 23 = .ok (.isub, 1) := by decide +kernel
theorem d999_24 : decode code 24 = .ok (.if_icmp .gt 460, 3) := by decide +kernel
theorem d999_27 : decode code 27 = .ok (.aload_n 0, 1) := by decide +kernel
theorem d999_28 : decode code 28 = .ok (.iload_n 3, 1) := by decide +kernel
theorem d999_29 : decode code 29 = .ok (.iaload, 1) := by decide +kernel
theorem d999_30 : decode code 30 = .ok (.bipush 15, 2) := by decide +kernel
theorem d999_32 : decode code 32 = .ok (.iand, 1) := by decide +kernel
theorem d999_33 : decode code 33 = .ok (.tableswitch 445 0 10 #[59, 112, 175, 218, 231, 254, 288, 321, 355, 378, 422], 59) := by decide +kernel
theorem tk999_33 : mm_tk 0 10 #[59, 112, 175, 218, 231, 254, 288, 321, 355, 378, 422] := by unfold mm_tk; decide +kernel
theorem d999_92 : decode code 92 = .ok (.aload_n 1, 1) := by decide +kernel
theorem d999_93 : decode code 93 = .ok (.aload_n 0, 1) := by decide +kernel
theorem d999_94 : decode code 94 = .ok (.iload_n 3, 1) := by decide +kernel
theorem d999_95 : decode code 95 = .ok (.iconst 1, 1) := by decide +kernel
theorem d999_96 : decode code 96 = .ok (.iadd, 1) := by decide +kernel
theorem d999_97 : decode code 97 = .ok (.iaload, 1) := by decide +kernel
theorem d999_98 : decode code 98 = .ok (.aload_n 0, 1) := by decide +kernel
theorem d999_99 : decode code 99 = .ok (.iload_n 3, 1) := by decide +kernel
theorem d999_100 : decode code 100 = .ok (.iconst 2, 1) := by decide +kernel
theorem d999_101 : decode code 101 = .ok (.iadd, 1) := by decide +kernel
theorem d999_102 : decode code 102 = .ok (.iaload, 1) := by decide +kernel
theorem d999_103 : decode code 103 = .ok (.aload_n 0, 1) := by decide +kernel
theorem d999_104 : decode code 104 = .ok (.iload_n 3, 1) := by decide +kernel
theorem d999_105 : decode code 105 = .ok (.iconst 3, 1) := by decide +kernel
theorem d999_106 : decode code 106 = .ok (.iadd, 1) := by decide +kernel
theorem d999_107 : decode code 107 = .ok (.iaload, 1) := by decide +kernel
theorem d999_108 : decode code 108 = .ok (.aload_n 0, 1) := by decide +kernel
theorem d999_109 : decode code 109 = .ok (.iload_n 3, 1) := by decide +kernel
theorem d999_110 : decode code 110 = .ok (.iconst 4, 1) := by decide +kernel
theorem d999_111 : decode code 111 = .ok (.iadd, 1) := by decide +kernel
theorem d999_112 : decode code 112 = .ok (.iaload, 1) := by decide +kernel
theorem d999_113 : decode code 113 = .ok (.invokevirtual 13, 3) := by decide +kernel
theorem d999_116 : decode code 116 = .ok (.aload_n 2, 1) := by decide +kernel
theorem d999_117 : decode code 117 = .ok (.aload_n 0, 1) := by decide +kernel
theorem d999_118 : decode code 118 = .ok (.iload_n 3, 1) := by decide +kernel
theorem d999_119 : decode code 119 = .ok (.iconst 1, 1) := by decide +kernel
theorem d999_120 : decode code 120 = .ok (.iadd, 1) := by decide +kernel
theorem d999_121 : decode code 121 = .ok (.iaload, 1) := by decide +kernel
theorem d999_122 : decode code 122 = .ok (.aload_n 0, 1) := by decide +kernel
theorem d999_123 : decode code 123 = .ok (.iload_n 3, 1) := by decide +kernel
theorem d999_124 : decode code 124 = .ok (.iconst 2, 1) := by decide +kernel
theorem d999_125 : decode code 125 = .ok (.iadd, 1) := by decide +kernel
theorem d999_126 : decode code 126 = .ok (.iaload, 1) := by decide +kernel
theorem d999_127 : decode code 127 = .ok (.aload_n 0, 1) := by decide +kernel
theorem d999_128 : decode code 128 = .ok (.iload_n 3, 1) := by decide +kernel
theorem d999_129 : decode code 129 = .ok (.iconst 3, 1) := by decide +kernel
theorem d999_130 : decode code 130 = .ok (.iadd, 1) := by decide +kernel
theorem d999_131 : decode code 131 = .ok (.iaload, 1) := by decide +kernel
theorem d999_132 : decode code 132 = .ok (.aload_n 0, 1) := by decide +kernel
theorem d999_133 : decode code 133 = .ok (.iload_n 3, 1) := by decide +kernel
theorem d999_134 : decode code 134 = .ok (.iconst 4, 1) := by decide +kernel
theorem d999_135 : decode code 135 = .ok (.iadd, 1) := by decide +kernel
theorem d999_136 : decode code 136 = .ok (.iaload, 1) := by decide +kernel
theorem d999_137 : decode code 137 = .ok (.invokevirtual 17, 3) := by decide +kernel
theorem d999_140 : decode code 140 = .ok (.if_icmp .eq 338, 3) := by decide +kernel
theorem d999_143 : decode code 143 = .ok (.iconst 0, 1) := by decide +kernel
theorem d999_144 : decode code 144 = .ok (.ireturn, 1) := by decide +kernel
theorem d999_145 : decode code 145 = .ok (.aload_n 1, 1) := by decide +kernel
theorem d999_146 : decode code 146 = .ok (.aload_n 0, 1) := by decide +kernel
theorem d999_147 : decode code 147 = .ok (.iload_n 3, 1) := by decide +kernel
theorem d999_148 : decode code 148 = .ok (.iconst 1, 1) := by decide +kernel
theorem d999_149 : decode code 149 = .ok (.iadd, 1) := by decide +kernel
theorem d999_150 : decode code 150 = .ok (.iaload, 1) := by decide +kernel
theorem d999_151 : decode code 151 = .ok (.aload_n 0, 1) := by decide +kernel
theorem d999_152 : decode code 152 = .ok (.iload_n 3, 1) := by decide +kernel
theorem d999_153 : decode code 153 = .ok (.iconst 2, 1) := by decide +kernel
theorem d999_154 : decode code 154 = .ok (.iadd, 1) := by decide +kernel
theorem d999_155 : decode code 155 = .ok (.iaload, 1) := by decide +kernel
theorem d999_156 : decode code 156 = .ok (.aload_n 0, 1) := by decide +kernel
theorem d999_157 : decode code 157 = .ok (.iload_n 3, 1) := by decide +kernel
theorem d999_158 : decode code 158 = .ok (.iconst 3, 1) := by decide +kernel
theorem d999_159 : decode code 159 = .ok (.iadd, 1) := by decide +kernel
theorem d999_160 : decode code 160 = .ok (.iaload, 1) := by decide +kernel
theorem d999_161 : decode code 161 = .ok (.aload_n 0, 1) := by decide +kernel
theorem d999_162 : decode code 162 = .ok (.iload_n 3, 1) := by decide +kernel
theorem d999_163 : decode code 163 = .ok (.iconst 4, 1) := by decide +kernel
theorem d999_164 : decode code 164 = .ok (.iadd, 1) := by decide +kernel
theorem d999_165 : decode code 165 = .ok (.iaload, 1) := by decide +kernel
theorem d999_166 : decode code 166 = .ok (.aload_n 0, 1) := by decide +kernel
theorem d999_167 : decode code 167 = .ok (.iload_n 3, 1) := by decide +kernel
theorem d999_168 : decode code 168 = .ok (.iconst 5, 1) := by decide +kernel
theorem d999_169 : decode code 169 = .ok (.iadd, 1) := by decide +kernel
theorem d999_170 : decode code 170 = .ok (.iaload, 1) := by decide +kernel
theorem d999_171 : decode code 171 = .ok (.invokevirtual 18, 3) := by decide +kernel
theorem d999_174 : decode code 174 = .ok (.aload_n 2, 1) := by decide +kernel
theorem d999_175 : decode code 175 = .ok (.aload_n 0, 1) := by decide +kernel
theorem d999_176 : decode code 176 = .ok (.iload_n 3, 1) := by decide +kernel
theorem d999_177 : decode code 177 = .ok (.iconst 1, 1) := by decide +kernel
theorem d999_178 : decode code 178 = .ok (.iadd, 1) := by decide +kernel
theorem d999_179 : decode code 179 = .ok (.iaload, 1) := by decide +kernel
theorem d999_180 : decode code 180 = .ok (.aload_n 0, 1) := by decide +kernel
theorem d999_181 : decode code 181 = .ok (.iload_n 3, 1) := by decide +kernel
theorem d999_182 : decode code 182 = .ok (.iconst 2, 1) := by decide +kernel
theorem d999_183 : decode code 183 = .ok (.iadd, 1) := by decide +kernel
theorem d999_184 : decode code 184 = .ok (.iaload, 1) := by decide +kernel
theorem d999_185 : decode code 185 = .ok (.aload_n 0, 1) := by decide +kernel
theorem d999_186 : decode code 186 = .ok (.iload_n 3, 1) := by decide +kernel
theorem d999_187 : decode code 187 = .ok (.iconst 3, 1) := by decide +kernel
theorem d999_188 : decode code 188 = .ok (.iadd, 1) := by decide +kernel
theorem d999_189 : decode code 189 = .ok (.iaload, 1) := by decide +kernel
theorem d999_190 : decode code 190 = .ok (.aload_n 0, 1) := by decide +kernel
theorem d999_191 : decode code 191 = .ok (.iload_n 3, 1) := by decide +kernel
theorem d999_192 : decode code 192 = .ok (.iconst 4, 1) := by decide +kernel
theorem d999_193 : decode code 193 = .ok (.iadd, 1) := by decide +kernel
theorem d999_194 : decode code 194 = .ok (.iaload, 1) := by decide +kernel
theorem d999_195 : decode code 195 = .ok (.aload_n 0, 1) := by decide +kernel
theorem d999_196 : decode code 196 = .ok (.iload_n 3, 1) := by decide +kernel
theorem d999_197 : decode code 197 = .ok (.iconst 5, 1) := by decide +kernel
theorem d999_198 : decode code 198 = .ok (.iadd, 1) := by decide +kernel
theorem d999_199 : decode code 199 = .ok (.iaload, 1) := by decide +kernel
theorem d999_200 : decode code 200 = .ok (.invokevirtual 22, 3) := by decide +kernel
theorem d999_203 : decode code 203 = .ok (.if_icmp .eq 275, 3) := by decide +kernel
theorem d999_206 : decode code 206 = .ok (.iconst 0, 1) := by decide +kernel
theorem d999_207 : decode code 207 = .ok (.ireturn, 1) := by decide +kernel
theorem d999_208 : decode code 208 = .ok (.aload_n 1, 1) := by decide +kernel
theorem d999_209 : decode code 209 = .ok (.aload_n 0, 1) := by decide +kernel
theorem d999_210 : decode code 210 = .ok (.iload_n 3, 1) := by decide +kernel
theorem d999_211 : decode code 211 = .ok (.iconst 1, 1) := by decide +kernel
theorem d999_212 : decode code 212 = .ok (.iadd, 1) := by decide +kernel
theorem d999_213 : decode code 213 = .ok (.iaload, 1) := by decide +kernel
theorem d999_214 : decode code 214 = .ok (.aload_n 0, 1) := by decide +kernel
theorem d999_215 : decode code 215 = .ok (.iload_n 3, 1) := by decide +kernel
theorem d999_216 : decode code 216 = .ok (.iconst 2, 1) := by decide +kernel
theorem d999_217 : decode code 217 = .ok (.iadd, 1) := by decide +kernel
theorem d999_218 : decode code 218 = .ok (.iaload, 1) := by decide +kernel
theorem d999_219 : decode code 219 = .ok (.aload_n 0, 1) := by decide +kernel
theorem d999_220 : decode code 220 = .ok (.iload_n 3, 1) := by decide +kernel
theorem d999_221 : decode code 221 = .ok (.iconst 3, 1) := by decide +kernel
theorem d999_222 : decode code 222 = .ok (.iadd, 1) := by decide +kernel
theorem d999_223 : decode code 223 = .ok (.iaload, 1) := by decide +kernel
theorem d999_224 : decode code 224 = .ok (.invokevirtual 23, 3) := by decide +kernel
theorem d999_227 : decode code 227 = .ok (.aload_n 2, 1) := by decide +kernel
theorem d999_228 : decode code 228 = .ok (.aload_n 0, 1) := by decide +kernel
theorem d999_229 : decode code 229 = .ok (.iload_n 3, 1) := by decide +kernel
theorem d999_230 : decode code 230 = .ok (.iconst 1, 1) := by decide +kernel
theorem d999_231 : decode code 231 = .ok (.iadd, 1) := by decide +kernel
theorem d999_232 : decode code 232 = .ok (.iaload, 1) := by decide +kernel
theorem d999_233 : decode code 233 = .ok (.aload_n 0, 1) := by decide +kernel
theorem d999_234 : decode code 234 = .ok (.iload_n 3, 1) := by decide +kernel
theorem d999_235 : decode code 235 = .ok (.iconst 2, 1) := by decide +kernel
theorem d999_236 : decode code 236 = .ok (.iadd, 1) := by decide +kernel
theorem d999_237 : decode code 237 = .ok (.iaload, 1) := by decide +kernel
theorem d999_238 : decode code 238 = .ok (.aload_n 0, 1) := by decide +kernel
theorem d999_239 : decode code 239 = .ok (.iload_n 3, 1) := by decide +kernel
theorem d999_240 : decode code 240 = .ok (.iconst 3, 1) := by decide +kernel
theorem d999_241 : decode code 241 = .ok (.iadd, 1) := by decide +kernel
theorem d999_242 : decode code 242 = .ok (.iaload, 1) := by decide +kernel
theorem d999_243 : decode code 243 = .ok (.invokevirtual 27, 3) := by decide +kernel
theorem d999_246 : decode code 246 = .ok (.if_icmp .eq 232, 3) := by decide +kernel
theorem d999_249 : decode code 249 = .ok (.iconst 0, 1) := by decide +kernel
theorem d999_250 : decode code 250 = .ok (.ireturn, 1) := by decide +kernel
theorem d999_251 : decode code 251 = .ok (.aload_n 1, 1) := by decide +kernel
theorem d999_252 : decode code 252 = .ok (.invokevirtual 28, 3) := by decide +kernel
theorem d999_255 : decode code 255 = .ok (.aload_n 2, 1) := by decide +kernel
theorem d999_256 : decode code 256 = .ok (.invokevirtual 32, 3) := by decide +kernel
theorem d999_259 : decode code 259 = .ok (.if_icmp .eq 219, 3) := by decide +kernel
theorem d999_262 : decode code 262 = .ok (.iconst 0, 1) := by decide +kernel
theorem d999_263 : decode code 263 = .ok (.ireturn, 1) := by decide +kernel
theorem d999_264 : decode code 264 = .ok (.aload_n 1, 1) := by decide +kernel
theorem d999_265 : decode code 265 = .ok (.aload_n 0, 1) := by decide +kernel
theorem d999_266 : decode code 266 = .ok (.iload_n 3, 1) := by decide +kernel
theorem d999_267 : decode code 267 = .ok (.iconst 1, 1) := by decide +kernel
theorem d999_268 : decode code 268 = .ok (.iadd, 1) := by decide +kernel
theorem d999_269 : decode code 269 = .ok (.iaload, 1) := by decide +kernel
theorem d999_270 : decode code 270 = .ok (.invokevirtual 33, 3) := by decide +kernel
theorem d999_273 : decode code 273 = .ok (.aload_n 2, 1) := by decide +kernel
theorem d999_274 : decode code 274 = .ok (.aload_n 0, 1) := by decide +kernel
theorem d999_275 : decode code 275 = .ok (.iload_n 3, 1) := by decide +kernel
theorem d999_276 : decode code 276 = .ok (.iconst 1, 1) := by decide +kernel
theorem d999_277 : decode code 277 = .ok (.iadd, 1) := by decide +kernel
theorem d999_278 : decode code 278 = .ok (.iaload, 1) := by decide +kernel
theorem d999_279 : decode code 279 = .ok (.invokevirtual 37, 3) := by decide +kernel
theorem d999_282 : decode code 282 = .ok (.if_icmp .eq 196, 3) := by decide +kernel
theorem d999_285 : decode code 285 = .ok (.iconst 0, 1) := by decide +kernel
theorem d999_286 : decode code 286 = .ok (.ireturn, 1) := by decide +kernel
theorem d999_287 : decode code 287 = .ok (.aload_n 1, 1) := by decide +kernel
theorem d999_288 : decode code 288 = .ok (.aload_n 0, 1) := by decide +kernel
theorem d999_289 : decode code 289 = .ok (.iload_n 3, 1) := by decide +kernel
theorem d999_290 : decode code 290 = .ok (.iconst 1, 1) := by decide +kernel
theorem d999_291 : decode code 291 = .ok (.iadd, 1) := by decide +kernel
theorem d999_292 : decode code 292 = .ok (.iaload, 1) := by decide +kernel
theorem d999_293 : decode code 293 = .ok (.aload_n 0, 1) := by decide +kernel
theorem d999_294 : decode code 294 = .ok (.iload_n 3, 1) := by decide +kernel
theorem d999_295 : decode code 295 = .ok (.iconst 2, 1) := by decide +kernel
theorem d999_296 : decode code 296 = .ok (.iadd, 1) := by decide +kernel
theorem d999_297 : decode code 297 = .ok (.iaload, 1) := by decide +kernel
theorem d999_298 : decode code 298 = .ok (.invokevirtual 38, 3) := by decide +kernel
theorem d999_301 : decode code 301 = .ok (.aload_n 2, 1) := by decide +kernel
theorem d999_302 : decode code 302 = .ok (.aload_n 0, 1) := by decide +kernel
theorem d999_303 : decode code 303 = .ok (.iload_n 3, 1) := by decide +kernel
theorem d999_304 : decode code 304 = .ok (.iconst 1, 1) := by decide +kernel
theorem d999_305 : decode code 305 = .ok (.iadd, 1) := by decide +kernel
theorem d999_306 : decode code 306 = .ok (.iaload, 1) := by decide +kernel
theorem d999_307 : decode code 307 = .ok (.aload_n 0, 1) := by decide +kernel
theorem d999_308 : decode code 308 = .ok (.iload_n 3, 1) := by decide +kernel
theorem d999_309 : decode code 309 = .ok (.iconst 2, 1) := by decide +kernel
theorem d999_310 : decode code 310 = .ok (.iadd, 1) := by decide +kernel
theorem d999_311 : decode code 311 = .ok (.iaload, 1) := by decide +kernel
theorem d999_312 : decode code 312 = .ok (.invokevirtual 42, 3) := by decide +kernel
theorem d999_315 : decode code 315 = .ok (.lcmp, 1) := by decide +kernel
theorem d999_316 : decode code 316 = .ok (.ifCond .eq 162, 3) := by decide +kernel
theorem d999_319 : decode code 319 = .ok (.iconst 0, 1) := by decide +kernel
theorem d999_320 : decode code 320 = .ok (.ireturn, 1) := by decide +kernel
theorem d999_321 : decode code 321 = .ok (.aload_n 1, 1) := by decide +kernel
theorem d999_322 : decode code 322 = .ok (.aload_n 0, 1) := by decide +kernel
theorem d999_323 : decode code 323 = .ok (.iload_n 3, 1) := by decide +kernel
theorem d999_324 : decode code 324 = .ok (.iconst 1, 1) := by decide +kernel
theorem d999_325 : decode code 325 = .ok (.iadd, 1) := by decide +kernel
theorem d999_326 : decode code 326 = .ok (.iaload, 1) := by decide +kernel
theorem d999_327 : decode code 327 = .ok (.aload_n 0, 1) := by decide +kernel
theorem d999_328 : decode code 328 = .ok (.iload_n 3, 1) := by decide +kernel
theorem d999_329 : decode code 329 = .ok (.iconst 2, 1) := by decide +kernel
theorem d999_330 : decode code 330 = .ok (.iadd, 1) := by decide +kernel
theorem d999_331 : decode code 331 = .ok (.iaload, 1) := by decide +kernel
theorem d999_332 : decode code 332 = .ok (.invokevirtual 43, 3) := by decide +kernel
theorem d999_335 : decode code 335 = .ok (.aload_n 2, 1) := by decide +kernel
theorem d999_336 : decode code 336 = .ok (.aload_n 0, 1) := by decide +kernel
theorem d999_337 : decode code 337 = .ok (.iload_n 3, 1) := by decide +kernel
theorem d999_338 : decode code 338 = .ok (.iconst 1, 1) := by decide +kernel
theorem d999_339 : decode code 339 = .ok (.iadd, 1) := by decide +kernel
theorem d999_340 : decode code 340 = .ok (.iaload, 1) := by decide +kernel
theorem d999_341 : decode code 341 = .ok (.aload_n 0, 1) := by decide +kernel
theorem d999_342 : decode code 342 = .ok (.iload_n 3, 1) := by decide +kernel
theorem d999_343 : decode code 343 = .ok (.iconst 2, 1) := by decide +kernel
theorem d999_344 : decode code 344 = .ok (.iadd, 1) := by decide +kernel
theorem d999_345 : decode code 345 = .ok (.iaload, 1) := by decide +kernel
theorem d999_346 : decode code 346 = .ok (.invokevirtual 47, 3) := by decide +kernel
theorem d999_349 : decode code 349 = .ok (.if_icmp .eq 129, 3) := by decide +kernel
theorem d999_352 : decode code 352 = .ok (.iconst 0, 1) := by decide +kernel
theorem d999_353 : decode code 353 = .ok (.ireturn, 1) := by decide +kernel
theorem d999_354 : decode code 354 = .ok (.aload_n 1, 1) := by decide +kernel
theorem d999_355 : decode code 355 = .ok (.aload_n 0, 1) := by decide +kernel
theorem d999_356 : decode code 356 = .ok (.iload_n 3, 1) := by decide +kernel
theorem d999_357 : decode code 357 = .ok (.iconst 1, 1) := by decide +kernel
theorem d999_358 : decode code 358 = .ok (.iadd, 1) := by decide +kernel
theorem d999_359 : decode code 359 = .ok (.iaload, 1) := by decide +kernel
theorem d999_360 : decode code 360 = .ok (.aload_n 0, 1) := by decide +kernel
theorem d999_361 : decode code 361 = .ok (.iload_n 3, 1) := by decide +kernel
theorem d999_362 : decode code 362 = .ok (.iconst 2, 1) := by decide +kernel
theorem d999_363 : decode code 363 = .ok (.iadd, 1) := by decide +kernel
theorem d999_364 : decode code 364 = .ok (.iaload, 1) := by decide +kernel
theorem d999_365 : decode code 365 = .ok (.invokevirtual 48, 3) := by decide +kernel
theorem d999_368 : decode code 368 = .ok (.aload_n 2, 1) := by decide +kernel
theorem d999_369 : decode code 369 = .ok (.aload_n 0, 1) := by decide +kernel
theorem d999_370 : decode code 370 = .ok (.iload_n 3, 1) := by decide +kernel
theorem d999_371 : decode code 371 = .ok (.iconst 1, 1) := by decide +kernel
theorem d999_372 : decode code 372 = .ok (.iadd, 1) := by decide +kernel
theorem d999_373 : decode code 373 = .ok (.iaload, 1) := by decide +kernel
theorem d999_374 : decode code 374 = .ok (.aload_n 0, 1) := by decide +kernel
theorem d999_375 : decode code 375 = .ok (.iload_n 3, 1) := by decide +kernel
theorem d999_376 : decode code 376 = .ok (.iconst 2, 1) := by decide +kernel
theorem d999_377 : decode code 377 = .ok (.iadd, 1) := by decide +kernel
theorem d999_378 : decode code 378 = .ok (.iaload, 1) := by decide +kernel
theorem d999_379 : decode code 379 = .ok (.invokevirtual 51, 3) := by decide +kernel
theorem d999_382 : decode code 382 = .ok (.lcmp, 1) := by decide +kernel
theorem d999_383 : decode code 383 = .ok (.ifCond .eq 95, 3) := by decide +kernel
theorem d999_386 : decode code 386 = .ok (.iconst 0, 1) := by decide +kernel
theorem d999_387 : decode code 387 = .ok (.ireturn, 1) := by decide +kernel
theorem d999_388 : decode code 388 = .ok (.aload_n 1, 1) := by decide +kernel
theorem d999_389 : decode code 389 = .ok (.aload_n 0, 1) := by decide +kernel
theorem d999_390 : decode code 390 = .ok (.iload_n 3, 1) := by decide +kernel
theorem d999_391 : decode code 391 = .ok (.iconst 1, 1) := by decide +kernel
theorem d999_392 : decode code 392 = .ok (.iadd, 1) := by decide +kernel
theorem d999_393 : decode code 393 = .ok (.iaload, 1) := by decide +kernel
theorem d999_394 : decode code 394 = .ok (.invokevirtual 52, 3) := by decide +kernel
theorem d999_397 : decode code 397 = .ok (.aload_n 2, 1) := by decide +kernel
theorem d999_398 : decode code 398 = .ok (.aload_n 0, 1) := by decide +kernel
theorem d999_399 : decode code 399 = .ok (.iload_n 3, 1) := by decide +kernel
theorem d999_400 : decode code 400 = .ok (.iconst 1, 1) := by decide +kernel
theorem d999_401 : decode code 401 = .ok (.iadd, 1) := by decide +kernel
theorem d999_402 : decode code 402 = .ok (.iaload, 1) := by decide +kernel
theorem d999_403 : decode code 403 = .ok (.invokevirtual 55, 3) := by decide +kernel
theorem d999_406 : decode code 406 = .ok (.if_icmp .eq 72, 3) := by decide +kernel
theorem d999_409 : decode code 409 = .ok (.iconst 0, 1) := by decide +kernel
theorem d999_410 : decode code 410 = .ok (.ireturn, 1) := by decide +kernel
theorem d999_411 : decode code 411 = .ok (.aload_n 1, 1) := by decide +kernel
theorem d999_412 : decode code 412 = .ok (.aload_n 0, 1) := by decide +kernel
theorem d999_413 : decode code 413 = .ok (.iload_n 3, 1) := by decide +kernel
theorem d999_414 : decode code 414 = .ok (.iconst 1, 1) := by decide +kernel
theorem d999_415 : decode code 415 = .ok (.iadd, 1) := by decide +kernel
theorem d999_416 : decode code 416 = .ok (.iaload, 1) := by decide +kernel
theorem d999_417 : decode code 417 = .ok (.aload_n 0, 1) := by decide +kernel
theorem d999_418 : decode code 418 = .ok (.iload_n 3, 1) := by decide +kernel
theorem d999_419 : decode code 419 = .ok (.iconst 2, 1) := by decide +kernel
theorem d999_420 : decode code 420 = .ok (.iadd, 1) := by decide +kernel
theorem d999_421 : decode code 421 = .ok (.iaload, 1) := by decide +kernel
theorem d999_422 : decode code 422 = .ok (.aload_n 0, 1) := by decide +kernel
theorem d999_423 : decode code 423 = .ok (.iload_n 3, 1) := by decide +kernel
theorem d999_424 : decode code 424 = .ok (.iconst 3, 1) := by decide +kernel
theorem d999_425 : decode code 425 = .ok (.iadd, 1) := by decide +kernel
theorem d999_426 : decode code 426 = .ok (.iaload, 1) := by decide +kernel
theorem d999_427 : decode code 427 = .ok (.invokevirtual 56, 3) := by decide +kernel
theorem d999_430 : decode code 430 = .ok (.aload_n 2, 1) := by decide +kernel
theorem d999_431 : decode code 431 = .ok (.aload_n 0, 1) := by decide +kernel
theorem d999_432 : decode code 432 = .ok (.iload_n 3, 1) := by decide +kernel
theorem d999_433 : decode code 433 = .ok (.iconst 1, 1) := by decide +kernel
theorem d999_434 : decode code 434 = .ok (.iadd, 1) := by decide +kernel
theorem d999_435 : decode code 435 = .ok (.iaload, 1) := by decide +kernel
theorem d999_436 : decode code 436 = .ok (.aload_n 0, 1) := by decide +kernel
theorem d999_437 : decode code 437 = .ok (.iload_n 3, 1) := by decide +kernel
theorem d999_438 : decode code 438 = .ok (.iconst 2, 1) := by decide +kernel
theorem d999_439 : decode code 439 = .ok (.iadd, 1) := by decide +kernel
theorem d999_440 : decode code 440 = .ok (.iaload, 1) := by decide +kernel
theorem d999_441 : decode code 441 = .ok (.aload_n 0, 1) := by decide +kernel
theorem d999_442 : decode code 442 = .ok (.iload_n 3, 1) := by decide +kernel
theorem d999_443 : decode code 443 = .ok (.iconst 3, 1) := by decide +kernel
theorem d999_444 : decode code 444 = .ok (.iadd, 1) := by decide +kernel
theorem d999_445 : decode code 445 = .ok (.iaload, 1) := by decide +kernel
theorem d999_446 : decode code 446 = .ok (.invokevirtual 60, 3) := by decide +kernel
theorem d999_449 : decode code 449 = .ok (.lcmp, 1) := by decide +kernel
theorem d999_450 : decode code 450 = .ok (.ifCond .eq 28, 3) := by decide +kernel
theorem d999_453 : decode code 453 = .ok (.iconst 0, 1) := by decide +kernel
theorem d999_454 : decode code 454 = .ok (.ireturn, 1) := by decide +kernel
theorem d999_455 : decode code 455 = .ok (.aload_n 1, 1) := by decide +kernel
theorem d999_456 : decode code 456 = .ok (.aload_n 0, 1) := by decide +kernel
theorem d999_457 : decode code 457 = .ok (.iload_n 3, 1) := by decide +kernel
theorem d999_458 : decode code 458 = .ok (.iconst 1, 1) := by decide +kernel
theorem d999_459 : decode code 459 = .ok (.iadd, 1) := by decide +kernel
theorem d999_460 : decode code 460 = .ok (.iaload, 1) := by decide +kernel
theorem d999_461 : decode code 461 = .ok (.invokevirtual 61, 3) := by decide +kernel
theorem d999_464 : decode code 464 = .ok (.aload_n 2, 1) := by decide +kernel
theorem d999_465 : decode code 465 = .ok (.aload_n 0, 1) := by decide +kernel
theorem d999_466 : decode code 466 = .ok (.iload_n 3, 1) := by decide +kernel
theorem d999_467 : decode code 467 = .ok (.iconst 1, 1) := by decide +kernel
theorem d999_468 : decode code 468 = .ok (.iadd, 1) := by decide +kernel
theorem d999_469 : decode code 469 = .ok (.iaload, 1) := by decide +kernel
theorem d999_470 : decode code 470 = .ok (.invokevirtual 64, 3) := by decide +kernel
theorem d999_473 : decode code 473 = .ok (.if_icmp .eq 5, 3) := by decide +kernel
theorem d999_476 : decode code 476 = .ok (.iconst 0, 1) := by decide +kernel
theorem d999_477 : decode code 477 = .ok (.ireturn, 1) := by decide +kernel
theorem d999_478 : decode code 478 = .ok (.iinc 3 6, 3) := by decide +kernel
theorem d999_481 : decode code 481 = .ok (.goto (-463), 3) := by decide +kernel
theorem d999_484 : decode code 484 = .ok (.iconst 1, 1) := by decide +kernel
theorem d999_485 : decode code 485 = .ok (.ireturn, 1) := by decide +kernel
end
