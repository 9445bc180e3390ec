section
-- ===== PART A: goes FIRST, ahead of the names: the tables' words, and 'selects' of the private methods out of them =====
/-- a private method of a class that the tables say can be made, by its rows of tables_1 -/
def lw_okq (q : MethodName × Nat) : Prop := (q.1.cls ≠ "java/lang/invoke/MethodHandle" ∧ q.1.cls ≠ "java/lang/invoke/VarHandle") ∧ Cond.instantiable q.1.cls q.2 ∈ tables_1 ∧ Cond.privateMethod q.1 ∈ tables_1 ∧ Cond.instanceMethod q.1 ∈ tables_1
theorem lw_p0 : lw_okq (⟨"FuzzyFinder$ExpressionReader", "read", "([CI)I"⟩, 9) := ⟨⟨by decide +kernel, by decide +kernel⟩, List.mem_of_getElem? (i := 18) (by decide +kernel), List.mem_of_getElem? (i := 191) (by decide +kernel), List.mem_of_getElem? (i := 192) (by decide +kernel)⟩
theorem lw_p1 : lw_okq (⟨"FuzzyFinder$Pattern", "clear", "()V"⟩, 5) := ⟨⟨by decide +kernel, by decide +kernel⟩, List.mem_of_getElem? (i := 24) (by decide +kernel), List.mem_of_getElem? (i := 195) (by decide +kernel), List.mem_of_getElem? (i := 196) (by decide +kernel)⟩
theorem lw_p2 : lw_okq (⟨"FuzzyFinder$ExpressionReader", "beginBracket", "()V"⟩, 9) := ⟨⟨by decide +kernel, by decide +kernel⟩, List.mem_of_getElem? (i := 18) (by decide +kernel), List.mem_of_getElem? (i := 199) (by decide +kernel), List.mem_of_getElem? (i := 200) (by decide +kernel)⟩
theorem lw_p3 : lw_okq (⟨"FuzzyFinder$ExpressionReader", "take", "(C)Z"⟩, 9) := ⟨⟨by decide +kernel, by decide +kernel⟩, List.mem_of_getElem? (i := 18) (by decide +kernel), List.mem_of_getElem? (i := 203) (by decide +kernel), List.mem_of_getElem? (i := 204) (by decide +kernel)⟩
theorem lw_p4 : lw_okq (⟨"FuzzyFinder$ExpressionReader", "takeAtom", "(C)Z"⟩, 9) := ⟨⟨by decide +kernel, by decide +kernel⟩, List.mem_of_getElem? (i := 18) (by decide +kernel), List.mem_of_getElem? (i := 207) (by decide +kernel), List.mem_of_getElem? (i := 208) (by decide +kernel)⟩
theorem lw_p5 : lw_okq (⟨"FuzzyFinder$ExpressionReader", "endAtom", "(I)V"⟩, 9) := ⟨⟨by decide +kernel, by decide +kernel⟩, List.mem_of_getElem? (i := 18) (by decide +kernel), List.mem_of_getElem? (i := 217) (by decide +kernel), List.mem_of_getElem? (i := 218) (by decide +kernel)⟩
theorem lw_p6 : lw_okq (⟨"FuzzyFinder$Pattern", "put", "(IIII)I"⟩, 5) := ⟨⟨by decide +kernel, by decide +kernel⟩, List.mem_of_getElem? (i := 24) (by decide +kernel), List.mem_of_getElem? (i := 221) (by decide +kernel), List.mem_of_getElem? (i := 222) (by decide +kernel)⟩
theorem lw_p7 : lw_okq (⟨"FuzzyFinder$ExpressionReader", "takeOpening", "()Z"⟩, 9) := ⟨⟨by decide +kernel, by decide +kernel⟩, List.mem_of_getElem? (i := 18) (by decide +kernel), List.mem_of_getElem? (i := 226) (by decide +kernel), List.mem_of_getElem? (i := 227) (by decide +kernel)⟩
theorem lw_p8 : lw_okq (⟨"FuzzyFinder$ExpressionReader", "takeFirstDigit", "(C)Z"⟩, 9) := ⟨⟨by decide +kernel, by decide +kernel⟩, List.mem_of_getElem? (i := 18) (by decide +kernel), List.mem_of_getElem? (i := 230) (by decide +kernel), List.mem_of_getElem? (i := 231) (by decide +kernel)⟩
theorem lw_p9 : lw_okq (⟨"FuzzyFinder$ExpressionReader", "endSuffix", "(II)V"⟩, 9) := ⟨⟨by decide +kernel, by decide +kernel⟩, List.mem_of_getElem? (i := 18) (by decide +kernel), List.mem_of_getElem? (i := 237) (by decide +kernel), List.mem_of_getElem? (i := 238) (by decide +kernel)⟩
theorem lw_p10 : lw_okq (⟨"FuzzyFinder$ExpressionReader", "takeSecondDigit", "(C)Z"⟩, 9) := ⟨⟨by decide +kernel, by decide +kernel⟩, List.mem_of_getElem? (i := 18) (by decide +kernel), List.mem_of_getElem? (i := 241) (by decide +kernel), List.mem_of_getElem? (i := 242) (by decide +kernel)⟩
theorem lw_p11 : lw_okq (⟨"FuzzyFinder$Pattern", "changeValue", "(II)V"⟩, 5) := ⟨⟨by decide +kernel, by decide +kernel⟩, List.mem_of_getElem? (i := 24) (by decide +kernel), List.mem_of_getElem? (i := 245) (by decide +kernel), List.mem_of_getElem? (i := 246) (by decide +kernel)⟩
theorem lw_p12 : lw_okq (⟨"FuzzyFinder$ExpressionReader", "takeAfterItem", "(C)Z"⟩, 9) := ⟨⟨by decide +kernel, by decide +kernel⟩, List.mem_of_getElem? (i := 18) (by decide +kernel), List.mem_of_getElem? (i := 249) (by decide +kernel), List.mem_of_getElem? (i := 250) (by decide +kernel)⟩
theorem lw_p13 : lw_okq (⟨"FuzzyFinder$ExpressionReader", "takeSuffix", "(C)Z"⟩, 9) := ⟨⟨by decide +kernel, by decide +kernel⟩, List.mem_of_getElem? (i := 18) (by decide +kernel), List.mem_of_getElem? (i := 253) (by decide +kernel), List.mem_of_getElem? (i := 254) (by decide +kernel)⟩
theorem lw_p14 : lw_okq (⟨"FuzzyFinder$ExpressionReader", "endItem", "()V"⟩, 9) := ⟨⟨by decide +kernel, by decide +kernel⟩, List.mem_of_getElem? (i := 18) (by decide +kernel), List.mem_of_getElem? (i := 257) (by decide +kernel), List.mem_of_getElem? (i := 258) (by decide +kernel)⟩
theorem lw_p15 : lw_okq (⟨"FuzzyFinder$ExpressionReader", "endRow", "()V"⟩, 9) := ⟨⟨by decide +kernel, by decide +kernel⟩, List.mem_of_getElem? (i := 18) (by decide +kernel), List.mem_of_getElem? (i := 261) (by decide +kernel), List.mem_of_getElem? (i := 262) (by decide +kernel)⟩
def lw_privs_1 : List (MethodName × Nat) := [(⟨"FuzzyFinder$ExpressionReader", "read", "([CI)I"⟩, 9), (⟨"FuzzyFinder$Pattern", "clear", "()V"⟩, 5), (⟨"FuzzyFinder$ExpressionReader", "beginBracket", "()V"⟩, 9), (⟨"FuzzyFinder$ExpressionReader", "take", "(C)Z"⟩, 9), (⟨"FuzzyFinder$ExpressionReader", "takeAtom", "(C)Z"⟩, 9), (⟨"FuzzyFinder$ExpressionReader", "endAtom", "(I)V"⟩, 9), (⟨"FuzzyFinder$Pattern", "put", "(IIII)I"⟩, 5), (⟨"FuzzyFinder$ExpressionReader", "takeOpening", "()Z"⟩, 9), (⟨"FuzzyFinder$ExpressionReader", "takeFirstDigit", "(C)Z"⟩, 9), (⟨"FuzzyFinder$ExpressionReader", "endSuffix", "(II)V"⟩, 9), (⟨"FuzzyFinder$ExpressionReader", "takeSecondDigit", "(C)Z"⟩, 9), (⟨"FuzzyFinder$Pattern", "changeValue", "(II)V"⟩, 5), (⟨"FuzzyFinder$ExpressionReader", "takeAfterItem", "(C)Z"⟩, 9), (⟨"FuzzyFinder$ExpressionReader", "takeSuffix", "(C)Z"⟩, 9), (⟨"FuzzyFinder$ExpressionReader", "endItem", "()V"⟩, 9), (⟨"FuzzyFinder$ExpressionReader", "endRow", "()V"⟩, 9)]
theorem lw_r1 : ∀ q ∈ lw_privs_1, lw_okq q := List.forall_mem_cons.mpr ⟨lw_p0, List.forall_mem_cons.mpr ⟨lw_p1, List.forall_mem_cons.mpr ⟨lw_p2, List.forall_mem_cons.mpr ⟨lw_p3, List.forall_mem_cons.mpr ⟨lw_p4, List.forall_mem_cons.mpr ⟨lw_p5, List.forall_mem_cons.mpr ⟨lw_p6, List.forall_mem_cons.mpr ⟨lw_p7, List.forall_mem_cons.mpr ⟨lw_p8, List.forall_mem_cons.mpr ⟨lw_p9, List.forall_mem_cons.mpr ⟨lw_p10, List.forall_mem_cons.mpr ⟨lw_p11, List.forall_mem_cons.mpr ⟨lw_p12, List.forall_mem_cons.mpr ⟨lw_p13, List.forall_mem_cons.mpr ⟨lw_p14, List.forall_mem_cons.mpr ⟨lw_p15, fun _ h => absurd h List.not_mem_nil⟩⟩⟩⟩⟩⟩⟩⟩⟩⟩⟩⟩⟩⟩⟩⟩
theorem lw_p16 : lw_okq (⟨"FuzzyFinder$ExpressionReader", "takeClosing", "()Z"⟩, 9) := ⟨⟨by decide +kernel, by decide +kernel⟩, List.mem_of_getElem? (i := 18) (by decide +kernel), List.mem_of_getElem? (i := 265) (by decide +kernel), List.mem_of_getElem? (i := 266) (by decide +kernel)⟩
theorem lw_p17 : lw_okq (⟨"FuzzyFinder$ExpressionReader", "takeOthersSign", "(C)Z"⟩, 9) := ⟨⟨by decide +kernel, by decide +kernel⟩, List.mem_of_getElem? (i := 18) (by decide +kernel), List.mem_of_getElem? (i := 269) (by decide +kernel), List.mem_of_getElem? (i := 270) (by decide +kernel)⟩
theorem lw_p18 : lw_okq (⟨"FuzzyFinder$ExpressionReader", "takeSetLetter", "(C)Z"⟩, 9) := ⟨⟨by decide +kernel, by decide +kernel⟩, List.mem_of_getElem? (i := 18) (by decide +kernel), List.mem_of_getElem? (i := 273) (by decide +kernel), List.mem_of_getElem? (i := 274) (by decide +kernel)⟩
theorem lw_p19 : lw_okq (⟨"FuzzyFinder$ExpressionReader", "takeSetEnd", "(C)Z"⟩, 9) := ⟨⟨by decide +kernel, by decide +kernel⟩, List.mem_of_getElem? (i := 18) (by decide +kernel), List.mem_of_getElem? (i := 277) (by decide +kernel), List.mem_of_getElem? (i := 278) (by decide +kernel)⟩
theorem lw_p20 : lw_okq (⟨"FuzzyFinder$Pattern", "copyFrom", "(LFuzzyFinder$Pattern;)V"⟩, 5) := ⟨⟨by decide +kernel, by decide +kernel⟩, List.mem_of_getElem? (i := 24) (by decide +kernel), List.mem_of_getElem? (i := 281) (by decide +kernel), List.mem_of_getElem? (i := 282) (by decide +kernel)⟩
theorem lw_p21 : lw_okq (⟨"FuzzyFinder$CostTable", "forget", "()V"⟩, 6) := ⟨⟨by decide +kernel, by decide +kernel⟩, List.mem_of_getElem? (i := 101) (by decide +kernel), List.mem_of_getElem? (i := 290) (by decide +kernel), List.mem_of_getElem? (i := 291) (by decide +kernel)⟩
theorem lw_p22 : lw_okq (⟨"FuzzyFinder", "forgetMatch", "()V"⟩, 10) := ⟨⟨by decide +kernel, by decide +kernel⟩, List.mem_of_getElem? (i := 10) (by decide +kernel), List.mem_of_getElem? (i := 294) (by decide +kernel), List.mem_of_getElem? (i := 295) (by decide +kernel)⟩
theorem lw_p23 : lw_okq (⟨"FuzzyFinder$CostTable", "weigh", "(III)V"⟩, 6) := ⟨⟨by decide +kernel, by decide +kernel⟩, List.mem_of_getElem? (i := 101) (by decide +kernel), List.mem_of_getElem? (i := 309) (by decide +kernel), List.mem_of_getElem? (i := 310) (by decide +kernel)⟩
theorem lw_p24 : lw_okq (⟨"FuzzyFinder$Letters", "append", "(C)V"⟩, 2) := ⟨⟨by decide +kernel, by decide +kernel⟩, List.mem_of_getElem? (i := 85) (by decide +kernel), List.mem_of_getElem? (i := 323) (by decide +kernel), List.mem_of_getElem? (i := 324) (by decide +kernel)⟩
theorem lw_p25 : lw_okq (⟨"FuzzyFinder$Letters", "clear", "()V"⟩, 2) := ⟨⟨by decide +kernel, by decide +kernel⟩, List.mem_of_getElem? (i := 85) (by decide +kernel), List.mem_of_getElem? (i := 331) (by decide +kernel), List.mem_of_getElem? (i := 332) (by decide +kernel)⟩
theorem lw_p26 : lw_okq (⟨"FuzzyFinder$CostTable", "learn", "(LFuzzyFinder$Pattern;LFuzzyFinder$Letters;)V"⟩, 6) := ⟨⟨by decide +kernel, by decide +kernel⟩, List.mem_of_getElem? (i := 101) (by decide +kernel), List.mem_of_getElem? (i := 339) (by decide +kernel), List.mem_of_getElem? (i := 340) (by decide +kernel)⟩
theorem lw_p27 : lw_okq (⟨"FuzzyFinder$CostTable", "fillColumn", "(LFuzzyFinder$Pattern;ILFuzzyFinder$Letters;I)V"⟩, 6) := ⟨⟨by decide +kernel, by decide +kernel⟩, List.mem_of_getElem? (i := 101) (by decide +kernel), List.mem_of_getElem? (i := 343) (by decide +kernel), List.mem_of_getElem? (i := 344) (by decide +kernel)⟩
theorem lw_p28 : lw_okq (⟨"FuzzyFinder$CostTable", "fillLetter", "([IILFuzzyFinder$Letters;I)V"⟩, 6) := ⟨⟨by decide +kernel, by decide +kernel⟩, List.mem_of_getElem? (i := 101) (by decide +kernel), List.mem_of_getElem? (i := 347) (by decide +kernel), List.mem_of_getElem? (i := 348) (by decide +kernel)⟩
theorem lw_p29 : lw_okq (⟨"FuzzyFinder$Letters", "letterAt", "(I)C"⟩, 2) := ⟨⟨by decide +kernel, by decide +kernel⟩, List.mem_of_getElem? (i := 85) (by decide +kernel), List.mem_of_getElem? (i := 354) (by decide +kernel), List.mem_of_getElem? (i := 355) (by decide +kernel)⟩
theorem lw_p30 : lw_okq (⟨"FuzzyFinder$CostTable", "fillRow", "([I[I[II)V"⟩, 6) := ⟨⟨by decide +kernel, by decide +kernel⟩, List.mem_of_getElem? (i := 101) (by decide +kernel), List.mem_of_getElem? (i := 362) (by decide +kernel), List.mem_of_getElem? (i := 363) (by decide +kernel)⟩
theorem lw_p31 : lw_okq (⟨"FuzzyFinder$CostTable", "fillEither", "([I[I[II)V"⟩, 6) := ⟨⟨by decide +kernel, by decide +kernel⟩, List.mem_of_getElem? (i := 101) (by decide +kernel), List.mem_of_getElem? (i := 367) (by decide +kernel), List.mem_of_getElem? (i := 368) (by decide +kernel)⟩
def lw_privs_2 : List (MethodName × Nat) := [(⟨"FuzzyFinder$ExpressionReader", "takeClosing", "()Z"⟩, 9), (⟨"FuzzyFinder$ExpressionReader", "takeOthersSign", "(C)Z"⟩, 9), (⟨"FuzzyFinder$ExpressionReader", "takeSetLetter", "(C)Z"⟩, 9), (⟨"FuzzyFinder$ExpressionReader", "takeSetEnd", "(C)Z"⟩, 9), (⟨"FuzzyFinder$Pattern", "copyFrom", "(LFuzzyFinder$Pattern;)V"⟩, 5), (⟨"FuzzyFinder$CostTable", "forget", "()V"⟩, 6), (⟨"FuzzyFinder", "forgetMatch", "()V"⟩, 10), (⟨"FuzzyFinder$CostTable", "weigh", "(III)V"⟩, 6), (⟨"FuzzyFinder$Letters", "append", "(C)V"⟩, 2), (⟨"FuzzyFinder$Letters", "clear", "()V"⟩, 2), (⟨"FuzzyFinder$CostTable", "learn", "(LFuzzyFinder$Pattern;LFuzzyFinder$Letters;)V"⟩, 6), (⟨"FuzzyFinder$CostTable", "fillColumn", "(LFuzzyFinder$Pattern;ILFuzzyFinder$Letters;I)V"⟩, 6), (⟨"FuzzyFinder$CostTable", "fillLetter", "([IILFuzzyFinder$Letters;I)V"⟩, 6), (⟨"FuzzyFinder$Letters", "letterAt", "(I)C"⟩, 2), (⟨"FuzzyFinder$CostTable", "fillRow", "([I[I[II)V"⟩, 6), (⟨"FuzzyFinder$CostTable", "fillEither", "([I[I[II)V"⟩, 6)]
theorem lw_r2 : ∀ q ∈ lw_privs_2, lw_okq q := List.forall_mem_cons.mpr ⟨lw_p16, List.forall_mem_cons.mpr ⟨lw_p17, List.forall_mem_cons.mpr ⟨lw_p18, List.forall_mem_cons.mpr ⟨lw_p19, List.forall_mem_cons.mpr ⟨lw_p20, List.forall_mem_cons.mpr ⟨lw_p21, List.forall_mem_cons.mpr ⟨lw_p22, List.forall_mem_cons.mpr ⟨lw_p23, List.forall_mem_cons.mpr ⟨lw_p24, List.forall_mem_cons.mpr ⟨lw_p25, List.forall_mem_cons.mpr ⟨lw_p26, List.forall_mem_cons.mpr ⟨lw_p27, List.forall_mem_cons.mpr ⟨lw_p28, List.forall_mem_cons.mpr ⟨lw_p29, List.forall_mem_cons.mpr ⟨lw_p30, List.forall_mem_cons.mpr ⟨lw_p31, fun _ h => absurd h List.not_mem_nil⟩⟩⟩⟩⟩⟩⟩⟩⟩⟩⟩⟩⟩⟩⟩⟩
theorem lw_p32 : lw_okq (⟨"FuzzyFinder$CostTable", "fillMaybe", "([I[II)V"⟩, 6) := ⟨⟨by decide +kernel, by decide +kernel⟩, List.mem_of_getElem? (i := 101) (by decide +kernel), List.mem_of_getElem? (i := 371) (by decide +kernel), List.mem_of_getElem? (i := 372) (by decide +kernel)⟩
theorem lw_p33 : lw_okq (⟨"FuzzyFinder$CostTable", "fillLimit", "([I[III)V"⟩, 6) := ⟨⟨by decide +kernel, by decide +kernel⟩, List.mem_of_getElem? (i := 101) (by decide +kernel), List.mem_of_getElem? (i := 375) (by decide +kernel), List.mem_of_getElem? (i := 376) (by decide +kernel)⟩
theorem lw_p34 : lw_okq (⟨"FuzzyFinder$CostTable", "fillChains", "([II)V"⟩, 6) := ⟨⟨by decide +kernel, by decide +kernel⟩, List.mem_of_getElem? (i := 101) (by decide +kernel), List.mem_of_getElem? (i := 379) (by decide +kernel), List.mem_of_getElem? (i := 380) (by decide +kernel)⟩
theorem lw_p35 : lw_okq (⟨"FuzzyFinder$CostTable", "fillRepeated", "([IZI)V"⟩, 6) := ⟨⟨by decide +kernel, by decide +kernel⟩, List.mem_of_getElem? (i := 101) (by decide +kernel), List.mem_of_getElem? (i := 383) (by decide +kernel), List.mem_of_getElem? (i := 384) (by decide +kernel)⟩
theorem lw_p36 : lw_okq (⟨"FuzzyFinder$CostTable", "ofWhole", "(LFuzzyFinder$Pattern;II)I"⟩, 6) := ⟨⟨by decide +kernel, by decide +kernel⟩, List.mem_of_getElem? (i := 101) (by decide +kernel), List.mem_of_getElem? (i := 387) (by decide +kernel), List.mem_of_getElem? (i := 388) (by decide +kernel)⟩
theorem lw_p37 : lw_okq (⟨"FuzzyFinder$Dictionary", "keep", "(LFuzzyFinder$Letters;)I"⟩, 4) := ⟨⟨by decide +kernel, by decide +kernel⟩, List.mem_of_getElem? (i := 128) (by decide +kernel), List.mem_of_getElem? (i := 412) (by decide +kernel), List.mem_of_getElem? (i := 413) (by decide +kernel)⟩
theorem lw_p38 : lw_okq (⟨"FuzzyFinder$Dictionary", "holds", "(LFuzzyFinder$Letters;)Z"⟩, 4) := ⟨⟨by decide +kernel, by decide +kernel⟩, List.mem_of_getElem? (i := 128) (by decide +kernel), List.mem_of_getElem? (i := 416) (by decide +kernel), List.mem_of_getElem? (i := 417) (by decide +kernel)⟩
theorem lw_p39 : lw_okq (⟨"FuzzyFinder$Letters", "compareWith", "(LFuzzyFinder$Letters;)I"⟩, 2) := ⟨⟨by decide +kernel, by decide +kernel⟩, List.mem_of_getElem? (i := 85) (by decide +kernel), List.mem_of_getElem? (i := 420) (by decide +kernel), List.mem_of_getElem? (i := 421) (by decide +kernel)⟩
theorem lw_p40 : lw_okq (⟨"FuzzyFinder$Letters", "copyFrom", "(LFuzzyFinder$Letters;)V"⟩, 2) := ⟨⟨by decide +kernel, by decide +kernel⟩, List.mem_of_getElem? (i := 85) (by decide +kernel), List.mem_of_getElem? (i := 426) (by decide +kernel), List.mem_of_getElem? (i := 427) (by decide +kernel)⟩
theorem lw_p41 : lw_okq (⟨"FuzzyFinder$Dictionary", "distanceOf", "(ILFuzzyFinder$Letters;Z)I"⟩, 4) := ⟨⟨by decide +kernel, by decide +kernel⟩, List.mem_of_getElem? (i := 128) (by decide +kernel), List.mem_of_getElem? (i := 440) (by decide +kernel), List.mem_of_getElem? (i := 441) (by decide +kernel)⟩
theorem lw_p42 : lw_okq (⟨"FuzzyFinder$Dictionary", "leastSteps", "(LFuzzyFinder$Letters;LFuzzyFinder$Letters;IIZ)I"⟩, 4) := ⟨⟨by decide +kernel, by decide +kernel⟩, List.mem_of_getElem? (i := 128) (by decide +kernel), List.mem_of_getElem? (i := 444) (by decide +kernel), List.mem_of_getElem? (i := 445) (by decide +kernel)⟩
theorem lw_p43 : lw_okq (⟨"FuzzyFinder$Dictionary", "countWithin", "(ILFuzzyFinder$Letters;Z)I"⟩, 4) := ⟨⟨by decide +kernel, by decide +kernel⟩, List.mem_of_getElem? (i := 128) (by decide +kernel), List.mem_of_getElem? (i := 460) (by decide +kernel), List.mem_of_getElem? (i := 461) (by decide +kernel)⟩
theorem lw_p44 : lw_okq (⟨"FuzzyFinder$Dictionary", "wordAtRank", "(ILFuzzyFinder$Letters;Z)I"⟩, 4) := ⟨⟨by decide +kernel, by decide +kernel⟩, List.mem_of_getElem? (i := 128) (by decide +kernel), List.mem_of_getElem? (i := 469) (by decide +kernel), List.mem_of_getElem? (i := 470) (by decide +kernel)⟩
theorem lw_p45 : lw_okq (⟨"FuzzyFinder$Dictionary", "rankOf", "(I)I"⟩, 4) := ⟨⟨by decide +kernel, by decide +kernel⟩, List.mem_of_getElem? (i := 128) (by decide +kernel), List.mem_of_getElem? (i := 473) (by decide +kernel), List.mem_of_getElem? (i := 474) (by decide +kernel)⟩
theorem lw_p46 : lw_okq (⟨"FuzzyFinder$Dictionary", "comesBefore", "(II)Z"⟩, 4) := ⟨⟨by decide +kernel, by decide +kernel⟩, List.mem_of_getElem? (i := 128) (by decide +kernel), List.mem_of_getElem? (i := 477) (by decide +kernel), List.mem_of_getElem? (i := 478) (by decide +kernel)⟩
theorem lw_p47 : lw_okq (⟨"FuzzyFinderModel", "fault", "()I"⟩, 29) := ⟨⟨by decide +kernel, by decide +kernel⟩, List.mem_of_getElem? (i := 481) (by decide +kernel), List.mem_of_getElem? (i := 583) (by decide +kernel), List.mem_of_getElem? (i := 584) (by decide +kernel)⟩
def lw_privs_3 : List (MethodName × Nat) := [(⟨"FuzzyFinder$CostTable", "fillMaybe", "([I[II)V"⟩, 6), (⟨"FuzzyFinder$CostTable", "fillLimit", "([I[III)V"⟩, 6), (⟨"FuzzyFinder$CostTable", "fillChains", "([II)V"⟩, 6), (⟨"FuzzyFinder$CostTable", "fillRepeated", "([IZI)V"⟩, 6), (⟨"FuzzyFinder$CostTable", "ofWhole", "(LFuzzyFinder$Pattern;II)I"⟩, 6), (⟨"FuzzyFinder$Dictionary", "keep", "(LFuzzyFinder$Letters;)I"⟩, 4), (⟨"FuzzyFinder$Dictionary", "holds", "(LFuzzyFinder$Letters;)Z"⟩, 4), (⟨"FuzzyFinder$Letters", "compareWith", "(LFuzzyFinder$Letters;)I"⟩, 2), (⟨"FuzzyFinder$Letters", "copyFrom", "(LFuzzyFinder$Letters;)V"⟩, 2), (⟨"FuzzyFinder$Dictionary", "distanceOf", "(ILFuzzyFinder$Letters;Z)I"⟩, 4), (⟨"FuzzyFinder$Dictionary", "leastSteps", "(LFuzzyFinder$Letters;LFuzzyFinder$Letters;IIZ)I"⟩, 4), (⟨"FuzzyFinder$Dictionary", "countWithin", "(ILFuzzyFinder$Letters;Z)I"⟩, 4), (⟨"FuzzyFinder$Dictionary", "wordAtRank", "(ILFuzzyFinder$Letters;Z)I"⟩, 4), (⟨"FuzzyFinder$Dictionary", "rankOf", "(I)I"⟩, 4), (⟨"FuzzyFinder$Dictionary", "comesBefore", "(II)Z"⟩, 4), (⟨"FuzzyFinderModel", "fault", "()I"⟩, 29)]
theorem lw_r3 : ∀ q ∈ lw_privs_3, lw_okq q := List.forall_mem_cons.mpr ⟨lw_p32, List.forall_mem_cons.mpr ⟨lw_p33, List.forall_mem_cons.mpr ⟨lw_p34, List.forall_mem_cons.mpr ⟨lw_p35, List.forall_mem_cons.mpr ⟨lw_p36, List.forall_mem_cons.mpr ⟨lw_p37, List.forall_mem_cons.mpr ⟨lw_p38, List.forall_mem_cons.mpr ⟨lw_p39, List.forall_mem_cons.mpr ⟨lw_p40, List.forall_mem_cons.mpr ⟨lw_p41, List.forall_mem_cons.mpr ⟨lw_p42, List.forall_mem_cons.mpr ⟨lw_p43, List.forall_mem_cons.mpr ⟨lw_p44, List.forall_mem_cons.mpr ⟨lw_p45, List.forall_mem_cons.mpr ⟨lw_p46, List.forall_mem_cons.mpr ⟨lw_p47, fun _ h => absurd h List.not_mem_nil⟩⟩⟩⟩⟩⟩⟩⟩⟩⟩⟩⟩⟩⟩⟩⟩
theorem lw_p48 : lw_okq (⟨"FuzzyFinderModel", "read", "()V"⟩, 29) := ⟨⟨by decide +kernel, by decide +kernel⟩, List.mem_of_getElem? (i := 481) (by decide +kernel), List.mem_of_getElem? (i := 593) (by decide +kernel), List.mem_of_getElem? (i := 594) (by decide +kernel)⟩
theorem lw_p49 : lw_okq (⟨"FuzzyFinderModel", "join", "(I)V"⟩, 29) := ⟨⟨by decide +kernel, by decide +kernel⟩, List.mem_of_getElem? (i := 481) (by decide +kernel), List.mem_of_getElem? (i := 597) (by decide +kernel), List.mem_of_getElem? (i := 598) (by decide +kernel)⟩
theorem lw_p50 : lw_okq (⟨"FuzzyFinderModel", "make", "(III)V"⟩, 29) := ⟨⟨by decide +kernel, by decide +kernel⟩, List.mem_of_getElem? (i := 481) (by decide +kernel), List.mem_of_getElem? (i := 601) (by decide +kernel), List.mem_of_getElem? (i := 602) (by decide +kernel)⟩
theorem lw_p51 : lw_okq (⟨"FuzzyFinderModel", "hold", "(I)V"⟩, 29) := ⟨⟨by decide +kernel, by decide +kernel⟩, List.mem_of_getElem? (i := 481) (by decide +kernel), List.mem_of_getElem? (i := 605) (by decide +kernel), List.mem_of_getElem? (i := 606) (by decide +kernel)⟩
theorem lw_p52 : lw_okq (⟨"FuzzyFinderModel", "item", "(Z)V"⟩, 29) := ⟨⟨by decide +kernel, by decide +kernel⟩, List.mem_of_getElem? (i := 481) (by decide +kernel), List.mem_of_getElem? (i := 609) (by decide +kernel), List.mem_of_getElem? (i := 610) (by decide +kernel)⟩
theorem lw_p53 : lw_okq (⟨"FuzzyFinderModel", "suffix", "(II)V"⟩, 29) := ⟨⟨by decide +kernel, by decide +kernel⟩, List.mem_of_getElem? (i := 481) (by decide +kernel), List.mem_of_getElem? (i := 613) (by decide +kernel), List.mem_of_getElem? (i := 614) (by decide +kernel)⟩
theorem lw_p54 : lw_okq (⟨"FuzzyFinderModel", "set", "(I)I"⟩, 29) := ⟨⟨by decide +kernel, by decide +kernel⟩, List.mem_of_getElem? (i := 481) (by decide +kernel), List.mem_of_getElem? (i := 618) (by decide +kernel), List.mem_of_getElem? (i := 619) (by decide +kernel)⟩
theorem lw_p55 : lw_okq (⟨"FuzzyFinderModel", "changed", "()V"⟩, 29) := ⟨⟨by decide +kernel, by decide +kernel⟩, List.mem_of_getElem? (i := 481) (by decide +kernel), List.mem_of_getElem? (i := 622) (by decide +kernel), List.mem_of_getElem? (i := 623) (by decide +kernel)⟩
theorem lw_p56 : lw_okq (⟨"FuzzyFinderModel", "work", "()V"⟩, 29) := ⟨⟨by decide +kernel, by decide +kernel⟩, List.mem_of_getElem? (i := 481) (by decide +kernel), List.mem_of_getElem? (i := 650) (by decide +kernel), List.mem_of_getElem? (i := 651) (by decide +kernel)⟩
theorem lw_p57 : lw_okq (⟨"FuzzyFinderModel", "ofNode", "(III)I"⟩, 29) := ⟨⟨by decide +kernel, by decide +kernel⟩, List.mem_of_getElem? (i := 481) (by decide +kernel), List.mem_of_getElem? (i := 654) (by decide +kernel), List.mem_of_getElem? (i := 655) (by decide +kernel)⟩
theorem lw_p58 : lw_okq (⟨"FuzzyFinderModel", "ofSet", "(III)I"⟩, 29) := ⟨⟨by decide +kernel, by decide +kernel⟩, List.mem_of_getElem? (i := 481) (by decide +kernel), List.mem_of_getElem? (i := 658) (by decide +kernel), List.mem_of_getElem? (i := 659) (by decide +kernel)⟩
theorem lw_p59 : lw_okq (⟨"FuzzyFinderModel", "ofRow", "(IIII)I"⟩, 29) := ⟨⟨by decide +kernel, by decide +kernel⟩, List.mem_of_getElem? (i := 481) (by decide +kernel), List.mem_of_getElem? (i := 662) (by decide +kernel), List.mem_of_getElem? (i := 663) (by decide +kernel)⟩
theorem lw_p60 : lw_okq (⟨"FuzzyFinderModel", "costOf", "(III)I"⟩, 29) := ⟨⟨by decide +kernel, by decide +kernel⟩, List.mem_of_getElem? (i := 481) (by decide +kernel), List.mem_of_getElem? (i := 667) (by decide +kernel), List.mem_of_getElem? (i := 668) (by decide +kernel)⟩
theorem lw_p61 : lw_okq (⟨"FuzzyFinderModel", "ofPlus", "(IIII)I"⟩, 29) := ⟨⟨by decide +kernel, by decide +kernel⟩, List.mem_of_getElem? (i := 481) (by decide +kernel), List.mem_of_getElem? (i := 674) (by decide +kernel), List.mem_of_getElem? (i := 675) (by decide +kernel)⟩
theorem lw_p62 : lw_okq (⟨"FuzzyFinderModel", "matches", "(II)Z"⟩, 29) := ⟨⟨by decide +kernel, by decide +kernel⟩, List.mem_of_getElem? (i := 481) (by decide +kernel), List.mem_of_getElem? (i := 682) (by decide +kernel), List.mem_of_getElem? (i := 683) (by decide +kernel)⟩
theorem lw_p63 : lw_okq (⟨"FuzzyFinderModel", "before", "(ZIIII)Z"⟩, 29) := ⟨⟨by decide +kernel, by decide +kernel⟩, List.mem_of_getElem? (i := 481) (by decide +kernel), List.mem_of_getElem? (i := 687) (by decide +kernel), List.mem_of_getElem? (i := 688) (by decide +kernel)⟩
def lw_privs_4 : List (MethodName × Nat) := [(⟨"FuzzyFinderModel", "read", "()V"⟩, 29), (⟨"FuzzyFinderModel", "join", "(I)V"⟩, 29), (⟨"FuzzyFinderModel", "make", "(III)V"⟩, 29), (⟨"FuzzyFinderModel", "hold", "(I)V"⟩, 29), (⟨"FuzzyFinderModel", "item", "(Z)V"⟩, 29), (⟨"FuzzyFinderModel", "suffix", "(II)V"⟩, 29), (⟨"FuzzyFinderModel", "set", "(I)I"⟩, 29), (⟨"FuzzyFinderModel", "changed", "()V"⟩, 29), (⟨"FuzzyFinderModel", "work", "()V"⟩, 29), (⟨"FuzzyFinderModel", "ofNode", "(III)I"⟩, 29), (⟨"FuzzyFinderModel", "ofSet", "(III)I"⟩, 29), (⟨"FuzzyFinderModel", "ofRow", "(IIII)I"⟩, 29), (⟨"FuzzyFinderModel", "costOf", "(III)I"⟩, 29), (⟨"FuzzyFinderModel", "ofPlus", "(IIII)I"⟩, 29), (⟨"FuzzyFinderModel", "matches", "(II)Z"⟩, 29), (⟨"FuzzyFinderModel", "before", "(ZIIII)Z"⟩, 29)]
theorem lw_r4 : ∀ q ∈ lw_privs_4, lw_okq q := List.forall_mem_cons.mpr ⟨lw_p48, List.forall_mem_cons.mpr ⟨lw_p49, List.forall_mem_cons.mpr ⟨lw_p50, List.forall_mem_cons.mpr ⟨lw_p51, List.forall_mem_cons.mpr ⟨lw_p52, List.forall_mem_cons.mpr ⟨lw_p53, List.forall_mem_cons.mpr ⟨lw_p54, List.forall_mem_cons.mpr ⟨lw_p55, List.forall_mem_cons.mpr ⟨lw_p56, List.forall_mem_cons.mpr ⟨lw_p57, List.forall_mem_cons.mpr ⟨lw_p58, List.forall_mem_cons.mpr ⟨lw_p59, List.forall_mem_cons.mpr ⟨lw_p60, List.forall_mem_cons.mpr ⟨lw_p61, List.forall_mem_cons.mpr ⟨lw_p62, List.forall_mem_cons.mpr ⟨lw_p63, fun _ h => absurd h List.not_mem_nil⟩⟩⟩⟩⟩⟩⟩⟩⟩⟩⟩⟩⟩⟩⟩⟩
theorem lw_p64 : lw_okq (⟨"FuzzyFinderModel", "step", "(IIIZ)I"⟩, 29) := ⟨⟨by decide +kernel, by decide +kernel⟩, List.mem_of_getElem? (i := 481) (by decide +kernel), List.mem_of_getElem? (i := 711) (by decide +kernel), List.mem_of_getElem? (i := 712) (by decide +kernel)⟩
theorem lw_p65 : lw_okq (⟨"FuzzyFinderModel", "earlier", "(II)Z"⟩, 29) := ⟨⟨by decide +kernel, by decide +kernel⟩, List.mem_of_getElem? (i := 481) (by decide +kernel), List.mem_of_getElem? (i := 728) (by decide +kernel), List.mem_of_getElem? (i := 729) (by decide +kernel)⟩
def lw_privs_5 : List (MethodName × Nat) := [(⟨"FuzzyFinderModel", "step", "(IIIZ)I"⟩, 29), (⟨"FuzzyFinderModel", "earlier", "(II)Z"⟩, 29)]
theorem lw_r5 : ∀ q ∈ lw_privs_5, lw_okq q := List.forall_mem_cons.mpr ⟨lw_p64, List.forall_mem_cons.mpr ⟨lw_p65, fun _ h => absurd h List.not_mem_nil⟩⟩
def lw_privs : List (MethodName × Nat) := lw_privs_1 ++ (lw_privs_2 ++ (lw_privs_3 ++ (lw_privs_4 ++ (lw_privs_5))))
def lw_tbl : List Cond := k2_sels lw_privs ++ tables_1
theorem lw_privs_ok : ∀ q ∈ lw_privs, lw_okq q := by
  show ∀ q ∈ lw_privs_1 ++ (lw_privs_2 ++ (lw_privs_3 ++ (lw_privs_4 ++ (lw_privs_5)))), lw_okq q
  exact List.forall_mem_append.mpr ⟨lw_r1, List.forall_mem_append.mpr ⟨lw_r2, List.forall_mem_append.mpr ⟨lw_r3, List.forall_mem_append.mpr ⟨lw_r4, lw_r5⟩⟩⟩⟩
-- ===== end of PART A; then your names; then what follows =====
end
section
/-! ===== BEGIN words of one list among another's, by their places ===== -/
theorem goodIn_r {big : List Cond} (ws : List Cond) (ps : List Nat) (hp : ws = ps.filterMap (fun i => big[i]?)) (h : ws.all goodWord = true) : GoodIn big ws := by
  intro w hw
  have h1 := List.all_eq_true.mp h w hw
  rw [hp] at hw
  obtain ⟨i, -, hi⟩ := List.mem_filterMap.mp hw
  have hm : w ∈ big := by first | exact List.mem_of_getElem? hi | exact List.getElem?_mem hi
  exact ⟨hm, good_of_word h1⟩
theorem goodIn_app {big a b : List Cond} (ha : GoodIn big a) (hb : GoodIn big b) : GoodIn big (a ++ b) := fun w h => (List.mem_append.mp h).elim (ha w) (hb w)
theorem goodIn_ca {big a b : List Cond} {c : Cond} (ha : GoodIn big (c :: a)) (hb : GoodIn big b) : GoodIn big (c :: (a ++ b)) := fun w h => (List.mem_cons.mp h).elim (fun e => ha w (List.mem_cons.mpr (Or.inl e))) (fun h => (List.mem_append.mp h).elim (fun h => ha w (List.mem_cons.mpr (Or.inr h))) (hb w))
theorem goodIn_sub {big ws : List Cond} (hm : ∀ w ∈ ws, w ∈ big) (h : ws.all goodWord = true) : GoodIn big ws := fun w hw => ⟨hm w hw, good_of_word (List.all_eq_true.mp h w hw)⟩
/-! ===== END ===== -/


/-! ===== BEGIN printed: names, fields, word lists, decode rows ===== -/
def RX0 : String := "FuzzyFinder$CostTable"
def TX0 : u_T := fun k => match k with
  | 0 => ("FuzzyFinder$CostTable", "costsOfNodes", "[[I", true)
  | 1 => ("FuzzyFinder$CostTable", "chains", "[I", true)
  | 2 => ("FuzzyFinder$CostTable", "knownColumns", "I", false)
  | 3 => ("FuzzyFinder$CostTable", "added", "I", false)
  | 4 => ("FuzzyFinder$CostTable", "missing", "I", false)
  | _ => ("FuzzyFinder$CostTable", "wrong", "I", false)
def tyX0 : Nat → FieldType := fun k => match k with
  | 0 => .array (.array .int)
  | 1 => .array .int
  | 2 => .int
  | 3 => .int
  | 4 => .int
  | _ => .int
abbrev wsX00 : List Cond := u_ws RX0 TX0 6
theorem nmX0 : ∀ a, a < 6 → ∀ b, b < 6 → a ≠ b → (TX0 a).2.1 ≠ (TX0 b).2.1 := by decide +kernel
theorem tyX0_ok : ∀ k, k < 6 → parseFieldDescriptor (TX0 k).2.2.1 = some (tyX0 k) := by decide +kernel
abbrev cX0_init : ByteArray := prog_2_method_1_code
def yX0_init : MethodName := ⟨RX0, "<init>", "()V"⟩
abbrev cX0_weigh : ByteArray := prog_2_method_2_code
def yX0_weigh : MethodName := ⟨RX0, "weigh", "(III)V"⟩
abbrev cX0_forget : ByteArray := prog_2_method_3_code
def yX0_forget : MethodName := ⟨RX0, "forget", "()V"⟩
abbrev cX0_learn : ByteArray := prog_2_method_4_code
def yX0_learn : MethodName := ⟨RX0, "learn", "(LFuzzyFinder$Pattern;LFuzzyFinder$Letters;)V"⟩
abbrev cX0_ofWhole : ByteArray := prog_2_method_5_code
def yX0_ofWhole : MethodName := ⟨RX0, "ofWhole", "(LFuzzyFinder$Pattern;II)I"⟩
abbrev cX0_fillColumn : ByteArray := prog_2_method_6_code
def yX0_fillColumn : MethodName := ⟨RX0, "fillColumn", "(LFuzzyFinder$Pattern;ILFuzzyFinder$Letters;I)V"⟩
abbrev cX0_operand : ByteArray := prog_2_method_7_code
def yX0_operand : MethodName := ⟨RX0, "operand", "(II)I"⟩
abbrev cX0_fillLetter : ByteArray := prog_2_method_8_code
def yX0_fillLetter : MethodName := ⟨RX0, "fillLetter", "([IILFuzzyFinder$Letters;I)V"⟩
abbrev cX0_fillRow : ByteArray := prog_2_method_9_code
def yX0_fillRow : MethodName := ⟨RX0, "fillRow", "([I[I[II)V"⟩
abbrev cX0_fillEither : ByteArray := prog_2_method_10_code
def yX0_fillEither : MethodName := ⟨RX0, "fillEither", "([I[I[II)V"⟩
abbrev cX0_fillMaybe : ByteArray := prog_2_method_11_code
def yX0_fillMaybe : MethodName := ⟨RX0, "fillMaybe", "([I[II)V"⟩
abbrev cX0_fillLimit : ByteArray := prog_2_method_12_code
def yX0_fillLimit : MethodName := ⟨RX0, "fillLimit", "([I[III)V"⟩
abbrev cX0_fillChains : ByteArray := prog_2_method_13_code
def yX0_fillChains : MethodName := ⟨RX0, "fillChains", "([II)V"⟩
abbrev cX0_fillRepeated : ByteArray := prog_2_method_14_code
def yX0_fillRepeated : MethodName := ⟨RX0, "fillRepeated", "([IZI)V"⟩
abbrev cX0_pieceAt : ByteArray := prog_2_method_15_code
def yX0_pieceAt : MethodName := ⟨RX0, "pieceAt", "(II)I"⟩
def RX1 : String := "FuzzyFinder$Dictionary"
def TX1 : u_T := fun k => match k with
  | 0 => ("FuzzyFinder$Dictionary", "entries", "[LFuzzyFinder$Letters;", true)
  | 1 => ("FuzzyFinder$Dictionary", "count", "I", false)
  | 2 => ("FuzzyFinder$Dictionary", "distances", "[I", true)
  | _ => ("FuzzyFinder$Dictionary", "steps", "[[I", true)
def tyX1 : Nat → FieldType := fun k => match k with
  | 0 => .array (.object "FuzzyFinder$Letters")
  | 1 => .int
  | 2 => .array .int
  | _ => .array (.array .int)
abbrev wsX10 : List Cond := u_ws RX1 TX1 4
theorem nmX1 : ∀ a, a < 4 → ∀ b, b < 4 → a ≠ b → (TX1 a).2.1 ≠ (TX1 b).2.1 := by decide +kernel
theorem tyX1_ok : ∀ k, k < 4 → parseFieldDescriptor (TX1 k).2.2.1 = some (tyX1 k) := by decide +kernel
abbrev cX1_init : ByteArray := prog_3_method_1_code
def yX1_init : MethodName := ⟨RX1, "<init>", "()V"⟩
abbrev cX1_keep : ByteArray := prog_3_method_2_code
def yX1_keep : MethodName := ⟨RX1, "keep", "(LFuzzyFinder$Letters;)I"⟩
abbrev cX1_holds : ByteArray := prog_3_method_3_code
def yX1_holds : MethodName := ⟨RX1, "holds", "(LFuzzyFinder$Letters;)Z"⟩
abbrev cX1_distanceOf : ByteArray := prog_3_method_4_code
def yX1_distanceOf : MethodName := ⟨RX1, "distanceOf", "(ILFuzzyFinder$Letters;Z)I"⟩
abbrev cX1_leastSteps : ByteArray := prog_3_method_5_code
def yX1_leastSteps : MethodName := ⟨RX1, "leastSteps", "(LFuzzyFinder$Letters;LFuzzyFinder$Letters;IIZ)I"⟩
abbrev cX1_areExchanged : ByteArray := prog_3_method_6_code
def yX1_areExchanged : MethodName := ⟨RX1, "areExchanged", "(LFuzzyFinder$Letters;LFuzzyFinder$Letters;II)Z"⟩
abbrev cX1_countWithin : ByteArray := prog_3_method_7_code
def yX1_countWithin : MethodName := ⟨RX1, "countWithin", "(ILFuzzyFinder$Letters;Z)I"⟩
abbrev cX1_wordAtRank : ByteArray := prog_3_method_8_code
def yX1_wordAtRank : MethodName := ⟨RX1, "wordAtRank", "(ILFuzzyFinder$Letters;Z)I"⟩
abbrev cX1_rankOf : ByteArray := prog_3_method_9_code
def yX1_rankOf : MethodName := ⟨RX1, "rankOf", "(I)I"⟩
abbrev cX1_comesBefore : ByteArray := prog_3_method_10_code
def yX1_comesBefore : MethodName := ⟨RX1, "comesBefore", "(II)Z"⟩
def RX2 : String := "FuzzyFinder$ExpressionReader"
def TX2 : u_T := fun k => match k with
  | 0 => ("FuzzyFinder$ExpressionReader", "draft", "LFuzzyFinder$Pattern;", true)
  | 1 => ("FuzzyFinder$ExpressionReader", "state", "I", false)
  | 2 => ("FuzzyFinder$ExpressionReader", "depth", "I", false)
  | 3 => ("FuzzyFinder$ExpressionReader", "items", "[I", true)
  | 4 => ("FuzzyFinder$ExpressionReader", "rows", "[I", true)
  | 5 => ("FuzzyFinder$ExpressionReader", "choices", "[I", true)
  | 6 => ("FuzzyFinder$ExpressionReader", "setLetters", "I", false)
  | 7 => ("FuzzyFinder$ExpressionReader", "setIsOfOthers", "Z", false)
  | _ => ("FuzzyFinder$ExpressionReader", "limit", "I", false)
def tyX2 : Nat → FieldType := fun k => match k with
  | 0 => .object "FuzzyFinder$Pattern"
  | 1 => .int
  | 2 => .int
  | 3 => .array .int
  | 4 => .array .int
  | 5 => .array .int
  | 6 => .int
  | 7 => .boolean
  | _ => .int
abbrev wsX20 : List Cond := u_ws RX2 TX2 9
theorem nmX2 : ∀ a, a < 9 → ∀ b, b < 9 → a ≠ b → (TX2 a).2.1 ≠ (TX2 b).2.1 := by decide +kernel
theorem tyX2_ok : ∀ k, k < 9 → parseFieldDescriptor (TX2 k).2.2.1 = some (tyX2 k) := by decide +kernel
abbrev cX2_init : ByteArray := prog_4_method_1_code
def yX2_init : MethodName := ⟨RX2, "<init>", "()V"⟩
abbrev cX2_read : ByteArray := prog_4_method_2_code
def yX2_read : MethodName := ⟨RX2, "read", "([CI)I"⟩
abbrev cX2_take : ByteArray := prog_4_method_3_code
def yX2_take : MethodName := ⟨RX2, "take", "(C)Z"⟩
abbrev cX2_takeAtom : ByteArray := prog_4_method_4_code
def yX2_takeAtom : MethodName := ⟨RX2, "takeAtom", "(C)Z"⟩
abbrev cX2_takeOpening : ByteArray := prog_4_method_5_code
def yX2_takeOpening : MethodName := ⟨RX2, "takeOpening", "()Z"⟩
abbrev cX2_takeOthersSign : ByteArray := prog_4_method_6_code
def yX2_takeOthersSign : MethodName := ⟨RX2, "takeOthersSign", "(C)Z"⟩
abbrev cX2_takeSetLetter : ByteArray := prog_4_method_7_code
def yX2_takeSetLetter : MethodName := ⟨RX2, "takeSetLetter", "(C)Z"⟩
abbrev cX2_takeSetEnd : ByteArray := prog_4_method_8_code
def yX2_takeSetEnd : MethodName := ⟨RX2, "takeSetEnd", "(C)Z"⟩
abbrev cX2_takeFirstDigit : ByteArray := prog_4_method_9_code
def yX2_takeFirstDigit : MethodName := ⟨RX2, "takeFirstDigit", "(C)Z"⟩
abbrev cX2_takeSecondDigit : ByteArray := prog_4_method_10_code
def yX2_takeSecondDigit : MethodName := ⟨RX2, "takeSecondDigit", "(C)Z"⟩
abbrev cX2_takeAfterItem : ByteArray := prog_4_method_11_code
def yX2_takeAfterItem : MethodName := ⟨RX2, "takeAfterItem", "(C)Z"⟩
abbrev cX2_takeSuffix : ByteArray := prog_4_method_12_code
def yX2_takeSuffix : MethodName := ⟨RX2, "takeSuffix", "(C)Z"⟩
abbrev cX2_takeClosing : ByteArray := prog_4_method_13_code
def yX2_takeClosing : MethodName := ⟨RX2, "takeClosing", "()Z"⟩
abbrev cX2_beginBracket : ByteArray := prog_4_method_14_code
def yX2_beginBracket : MethodName := ⟨RX2, "beginBracket", "()V"⟩
abbrev cX2_endAtom : ByteArray := prog_4_method_15_code
def yX2_endAtom : MethodName := ⟨RX2, "endAtom", "(I)V"⟩
abbrev cX2_endSuffix : ByteArray := prog_4_method_16_code
def yX2_endSuffix : MethodName := ⟨RX2, "endSuffix", "(II)V"⟩
abbrev cX2_endItem : ByteArray := prog_4_method_17_code
def yX2_endItem : MethodName := ⟨RX2, "endItem", "()V"⟩
abbrev cX2_endRow : ByteArray := prog_4_method_18_code
def yX2_endRow : MethodName := ⟨RX2, "endRow", "()V"⟩
abbrev cX2_bitOf : ByteArray := prog_4_method_19_code
def yX2_bitOf : MethodName := ⟨RX2, "bitOf", "(C)I"⟩
def RX3 : String := "FuzzyFinder$Letters"
def TX3 : u_T := fun k => match k with
  | 0 => ("FuzzyFinder$Letters", "signs", "[C", true)
  | _ => ("FuzzyFinder$Letters", "count", "I", false)
def tyX3 : Nat → FieldType := fun k => match k with
  | 0 => .array .char
  | _ => .int
abbrev wsX30 : List Cond := u_ws RX3 TX3 2
theorem nmX3 : ∀ a, a < 2 → ∀ b, b < 2 → a ≠ b → (TX3 a).2.1 ≠ (TX3 b).2.1 := by decide +kernel
theorem tyX3_ok : ∀ k, k < 2 → parseFieldDescriptor (TX3 k).2.2.1 = some (tyX3 k) := by decide +kernel
abbrev cX3_init : ByteArray := prog_5_method_1_code
def yX3_init : MethodName := ⟨RX3, "<init>", "()V"⟩
abbrev cX3_append : ByteArray := prog_5_method_2_code
def yX3_append : MethodName := ⟨RX3, "append", "(C)V"⟩
abbrev cX3_clear : ByteArray := prog_5_method_3_code
def yX3_clear : MethodName := ⟨RX3, "clear", "()V"⟩
abbrev cX3_letterAt : ByteArray := prog_5_method_4_code
def yX3_letterAt : MethodName := ⟨RX3, "letterAt", "(I)C"⟩
abbrev cX3_copyFrom : ByteArray := prog_5_method_5_code
def yX3_copyFrom : MethodName := ⟨RX3, "copyFrom", "(LFuzzyFinder$Letters;)V"⟩
abbrev cX3_compareWith : ByteArray := prog_5_method_6_code
def yX3_compareWith : MethodName := ⟨RX3, "compareWith", "(LFuzzyFinder$Letters;)I"⟩
def RX4 : String := "FuzzyFinder$Pattern"
def TX4 : u_T := fun k => match k with
  | 0 => ("FuzzyFinder$Pattern", "kinds", "[I", true)
  | 1 => ("FuzzyFinder$Pattern", "lefts", "[I", true)
  | 2 => ("FuzzyFinder$Pattern", "rights", "[I", true)
  | 3 => ("FuzzyFinder$Pattern", "values", "[I", true)
  | _ => ("FuzzyFinder$Pattern", "count", "I", false)
def tyX4 : Nat → FieldType := fun k => match k with
  | 0 => .array .int
  | 1 => .array .int
  | 2 => .array .int
  | 3 => .array .int
  | _ => .int
abbrev wsX40 : List Cond := u_ws RX4 TX4 5
theorem nmX4 : ∀ a, a < 5 → ∀ b, b < 5 → a ≠ b → (TX4 a).2.1 ≠ (TX4 b).2.1 := by decide +kernel
theorem tyX4_ok : ∀ k, k < 5 → parseFieldDescriptor (TX4 k).2.2.1 = some (tyX4 k) := by decide +kernel
abbrev cX4_init : ByteArray := prog_6_method_1_code
def yX4_init : MethodName := ⟨RX4, "<init>", "()V"⟩
abbrev cX4_clear : ByteArray := prog_6_method_2_code
def yX4_clear : MethodName := ⟨RX4, "clear", "()V"⟩
abbrev cX4_put : ByteArray := prog_6_method_3_code
def yX4_put : MethodName := ⟨RX4, "put", "(IIII)I"⟩
abbrev cX4_changeValue : ByteArray := prog_6_method_4_code
def yX4_changeValue : MethodName := ⟨RX4, "changeValue", "(II)V"⟩
abbrev cX4_copyFrom : ByteArray := prog_6_method_5_code
def yX4_copyFrom : MethodName := ⟨RX4, "copyFrom", "(LFuzzyFinder$Pattern;)V"⟩
def RX5 : String := "FuzzyFinder"
def TX5 : u_T := fun k => match k with
  | 0 => ("FuzzyFinder", "typed", "[C", true)
  | 1 => ("FuzzyFinder", "typedCount", "I", false)
  | 2 => ("FuzzyFinder", "reader", "LFuzzyFinder$ExpressionReader;", true)
  | 3 => ("FuzzyFinder", "pattern", "LFuzzyFinder$Pattern;", true)
  | 4 => ("FuzzyFinder", "text", "LFuzzyFinder$Letters;", true)
  | 5 => ("FuzzyFinder", "costs", "LFuzzyFinder$CostTable;", true)
  | 6 => ("FuzzyFinder", "dictionary", "LFuzzyFinder$Dictionary;", true)
  | 7 => ("FuzzyFinder", "bound", "I", false)
  | 8 => ("FuzzyFinder", "foundFrom", "I", false)
  | _ => ("FuzzyFinder", "foundTo", "I", false)
def tyX5 : Nat → FieldType := fun k => match k with
  | 0 => .array .char
  | 1 => .int
  | 2 => .object "FuzzyFinder$ExpressionReader"
  | 3 => .object "FuzzyFinder$Pattern"
  | 4 => .object "FuzzyFinder$Letters"
  | 5 => .object "FuzzyFinder$CostTable"
  | 6 => .object "FuzzyFinder$Dictionary"
  | 7 => .int
  | 8 => .int
  | _ => .int
abbrev wsX50 : List Cond := u_ws RX5 TX5 10
theorem nmX5 : ∀ a, a < 10 → ∀ b, b < 10 → a ≠ b → (TX5 a).2.1 ≠ (TX5 b).2.1 := by decide +kernel
theorem tyX5_ok : ∀ k, k < 10 → parseFieldDescriptor (TX5 k).2.2.1 = some (tyX5 k) := by decide +kernel
abbrev cX5_init : ByteArray := prog_1_method_1_code
def yX5_init : MethodName := ⟨RX5, "<init>", "()V"⟩
abbrev cX5_type : ByteArray := prog_1_method_2_code
def yX5_type : MethodName := ⟨RX5, "type", "(C)Z"⟩
abbrev cX5_compile : ByteArray := prog_1_method_3_code
def yX5_compile : MethodName := ⟨RX5, "compile", "()I"⟩
abbrev cX5_nodes : ByteArray := prog_1_method_4_code
def yX5_nodes : MethodName := ⟨RX5, "nodes", "()I"⟩
abbrev cX5_weights : ByteArray := prog_1_method_5_code
def yX5_weights : MethodName := ⟨RX5, "weights", "(III)Z"⟩
abbrev cX5_bound : ByteArray := prog_1_method_6_code
def yX5_bound : MethodName := ⟨RX5, "bound", "(I)Z"⟩
abbrev cX5_write : ByteArray := prog_1_method_7_code
def yX5_write : MethodName := ⟨RX5, "write", "(C)Z"⟩
abbrev cX5_erase : ByteArray := prog_1_method_8_code
def yX5_erase : MethodName := ⟨RX5, "erase", "()V"⟩
abbrev cX5_cost : ByteArray := prog_1_method_9_code
def yX5_cost : MethodName := ⟨RX5, "cost", "(II)I"⟩
abbrev cX5_find : ByteArray := prog_1_method_10_code
def yX5_find : MethodName := ⟨RX5, "find", "(Z)I"⟩
abbrev cX5_from : ByteArray := prog_1_method_11_code
def yX5_from : MethodName := ⟨RX5, "from", "()I"⟩
abbrev cX5_to : ByteArray := prog_1_method_12_code
def yX5_to : MethodName := ⟨RX5, "to", "()I"⟩
abbrev cX5_ends : ByteArray := prog_1_method_13_code
def yX5_ends : MethodName := ⟨RX5, "ends", "()I"⟩
abbrev cX5_add : ByteArray := prog_1_method_14_code
def yX5_add : MethodName := ⟨RX5, "add", "()I"⟩
abbrev cX5_words : ByteArray := prog_1_method_15_code
def yX5_words : MethodName := ⟨RX5, "words", "()I"⟩
abbrev cX5_distance : ByteArray := prog_1_method_16_code
def yX5_distance : MethodName := ⟨RX5, "distance", "(IZ)I"⟩
abbrev cX5_near : ByteArray := prog_1_method_17_code
def yX5_near : MethodName := ⟨RX5, "near", "(IZ)I"⟩
abbrev cX5_rank : ByteArray := prog_1_method_18_code
def yX5_rank : MethodName := ⟨RX5, "rank", "(IZ)I"⟩
abbrev cX5_forgetMatch : ByteArray := prog_1_method_19_code
def yX5_forgetMatch : MethodName := ⟨RX5, "forgetMatch", "()V"⟩
abbrev cX5_isLetter : ByteArray := prog_1_method_20_code
def yX5_isLetter : MethodName := ⟨RX5, "isLetter", "(C)Z"⟩
abbrev cX5_isDigit : ByteArray := prog_1_method_21_code
def yX5_isDigit : MethodName := ⟨RX5, "isDigit", "(C)Z"⟩
abbrev cX5_isWeight : ByteArray := prog_1_method_22_code
def yX5_isWeight : MethodName := ⟨RX5, "isWeight", "(I)Z"⟩
def RX6 : String := "FuzzyFinderModel"
def TX6 : u_T := fun k => match k with
  | 0 => ("FuzzyFinderModel", "typed", "I", false)
  | 1 => ("FuzzyFinderModel", "chars", "[I", true)
  | 2 => ("FuzzyFinderModel", "nodes", "I", false)
  | 3 => ("FuzzyFinderModel", "kind", "[I", true)
  | 4 => ("FuzzyFinderModel", "left", "[I", true)
  | 5 => ("FuzzyFinderModel", "right", "[I", true)
  | 6 => ("FuzzyFinderModel", "fresh", "I", false)
  | 7 => ("FuzzyFinderModel", "freshKind", "[I", true)
  | 8 => ("FuzzyFinderModel", "freshLeft", "[I", true)
  | 9 => ("FuzzyFinderModel", "freshRight", "[I", true)
  | 10 => ("FuzzyFinderModel", "waits", "I", false)
  | 11 => ("FuzzyFinderModel", "waiting", "[I", true)
  | 12 => ("FuzzyFinderModel", "wholes", "I", false)
  | 13 => ("FuzzyFinderModel", "whole", "[I", true)
  | 14 => ("FuzzyFinderModel", "letters", "I", false)
  | 15 => ("FuzzyFinderModel", "added", "I", false)
  | 16 => ("FuzzyFinderModel", "missing", "I", false)
  | 17 => ("FuzzyFinderModel", "wrong", "I", false)
  | 18 => ("FuzzyFinderModel", "most", "I", false)
  | 19 => ("FuzzyFinderModel", "length", "I", false)
  | 20 => ("FuzzyFinderModel", "text", "[I", true)
  | 21 => ("FuzzyFinderModel", "known", "Z", false)
  | 22 => ("FuzzyFinderModel", "costs", "[I", true)
  | 23 => ("FuzzyFinderModel", "foundFrom", "I", false)
  | 24 => ("FuzzyFinderModel", "foundTo", "I", false)
  | 25 => ("FuzzyFinderModel", "words", "I", false)
  | 26 => ("FuzzyFinderModel", "size", "[I", true)
  | 27 => ("FuzzyFinderModel", "letter", "[I", true)
  | _ => ("FuzzyFinderModel", "steps", "[I", true)
def tyX6 : Nat → FieldType := fun k => match k with
  | 0 => .int
  | 1 => .array .int
  | 2 => .int
  | 3 => .array .int
  | 4 => .array .int
  | 5 => .array .int
  | 6 => .int
  | 7 => .array .int
  | 8 => .array .int
  | 9 => .array .int
  | 10 => .int
  | 11 => .array .int
  | 12 => .int
  | 13 => .array .int
  | 14 => .int
  | 15 => .int
  | 16 => .int
  | 17 => .int
  | 18 => .int
  | 19 => .int
  | 20 => .array .int
  | 21 => .boolean
  | 22 => .array .int
  | 23 => .int
  | 24 => .int
  | 25 => .int
  | 26 => .array .int
  | 27 => .array .int
  | _ => .array .int
abbrev wsX60 : List Cond := u_ws RX6 TX6 29
theorem nmX6 : ∀ a, a < 29 → ∀ b, b < 29 → a ≠ b → (TX6 a).2.1 ≠ (TX6 b).2.1 := by decide +kernel
theorem tyX6_ok : ∀ k, k < 29 → parseFieldDescriptor (TX6 k).2.2.1 = some (tyX6 k) := by decide +kernel
abbrev cX6_init : ByteArray := prog_8_method_1_code
def yX6_init : MethodName := ⟨RX6, "<init>", "()V"⟩
abbrev cX6_type : ByteArray := prog_8_method_2_code
def yX6_type : MethodName := ⟨RX6, "type", "(C)Z"⟩
abbrev cX6_small : ByteArray := prog_8_method_3_code
def yX6_small : MethodName := ⟨RX6, "small", "(I)Z"⟩
abbrev cX6_next : ByteArray := prog_8_method_4_code
def yX6_next : MethodName := ⟨RX6, "next", "(III)I"⟩
abbrev cX6_fault : ByteArray := prog_8_method_5_code
def yX6_fault : MethodName := ⟨RX6, "fault", "()I"⟩
abbrev cX6_make : ByteArray := prog_8_method_6_code
def yX6_make : MethodName := ⟨RX6, "make", "(III)V"⟩
abbrev cX6_join : ByteArray := prog_8_method_7_code
def yX6_join : MethodName := ⟨RX6, "join", "(I)V"⟩
abbrev cX6_hold : ByteArray := prog_8_method_8_code
def yX6_hold : MethodName := ⟨RX6, "hold", "(I)V"⟩
abbrev cX6_suffix : ByteArray := prog_8_method_9_code
def yX6_suffix : MethodName := ⟨RX6, "suffix", "(II)V"⟩
abbrev cX6_item : ByteArray := prog_8_method_10_code
def yX6_item : MethodName := ⟨RX6, "item", "(Z)V"⟩
abbrev cX6_set : ByteArray := prog_8_method_11_code
def yX6_set : MethodName := ⟨RX6, "set", "(I)I"⟩
abbrev cX6_read : ByteArray := prog_8_method_12_code
def yX6_read : MethodName := ⟨RX6, "read", "()V"⟩
abbrev cX6_compile : ByteArray := prog_8_method_13_code
def yX6_compile : MethodName := ⟨RX6, "compile", "()I"⟩
abbrev cX6_nodes : ByteArray := prog_8_method_14_code
def yX6_nodes : MethodName := ⟨RX6, "nodes", "()I"⟩
abbrev cX6_changed : ByteArray := prog_8_method_15_code
def yX6_changed : MethodName := ⟨RX6, "changed", "()V"⟩
abbrev cX6_weights : ByteArray := prog_8_method_16_code
def yX6_weights : MethodName := ⟨RX6, "weights", "(III)Z"⟩
abbrev cX6_bound : ByteArray := prog_8_method_17_code
def yX6_bound : MethodName := ⟨RX6, "bound", "(I)Z"⟩
abbrev cX6_write : ByteArray := prog_8_method_18_code
def yX6_write : MethodName := ⟨RX6, "write", "(C)Z"⟩
abbrev cX6_erase : ByteArray := prog_8_method_19_code
def yX6_erase : MethodName := ⟨RX6, "erase", "()V"⟩
abbrev cX6_costOf : ByteArray := prog_8_method_20_code
def yX6_costOf : MethodName := ⟨RX6, "costOf", "(III)I"⟩
abbrev cX6_sum : ByteArray := prog_8_method_21_code
def yX6_sum : MethodName := ⟨RX6, "sum", "(II)I"⟩
abbrev cX6_ofSet : ByteArray := prog_8_method_22_code
def yX6_ofSet : MethodName := ⟨RX6, "ofSet", "(III)I"⟩
abbrev cX6_ofRow : ByteArray := prog_8_method_23_code
def yX6_ofRow : MethodName := ⟨RX6, "ofRow", "(IIII)I"⟩
abbrev cX6_ofPlus : ByteArray := prog_8_method_24_code
def yX6_ofPlus : MethodName := ⟨RX6, "ofPlus", "(IIII)I"⟩
abbrev cX6_ofNode : ByteArray := prog_8_method_25_code
def yX6_ofNode : MethodName := ⟨RX6, "ofNode", "(III)I"⟩
abbrev cX6_work : ByteArray := prog_8_method_26_code
def yX6_work : MethodName := ⟨RX6, "work", "()V"⟩
abbrev cX6_cost : ByteArray := prog_8_method_27_code
def yX6_cost : MethodName := ⟨RX6, "cost", "(II)I"⟩
abbrev cX6_matches : ByteArray := prog_8_method_28_code
def yX6_matches : MethodName := ⟨RX6, "matches", "(II)Z"⟩
abbrev cX6_before : ByteArray := prog_8_method_29_code
def yX6_before : MethodName := ⟨RX6, "before", "(ZIIII)Z"⟩
abbrev cX6_find : ByteArray := prog_8_method_30_code
def yX6_find : MethodName := ⟨RX6, "find", "(Z)I"⟩
abbrev cX6_from : ByteArray := prog_8_method_31_code
def yX6_from : MethodName := ⟨RX6, "from", "()I"⟩
abbrev cX6_to : ByteArray := prog_8_method_32_code
def yX6_to : MethodName := ⟨RX6, "to", "()I"⟩
abbrev cX6_ends : ByteArray := prog_8_method_33_code
def yX6_ends : MethodName := ⟨RX6, "ends", "()I"⟩
abbrev cX6_add : ByteArray := prog_8_method_34_code
def yX6_add : MethodName := ⟨RX6, "add", "()I"⟩
abbrev cX6_words : ByteArray := prog_8_method_35_code
def yX6_words : MethodName := ⟨RX6, "words", "()I"⟩
abbrev cX6_step : ByteArray := prog_8_method_36_code
def yX6_step : MethodName := ⟨RX6, "step", "(IIIZ)I"⟩
abbrev cX6_distance : ByteArray := prog_8_method_37_code
def yX6_distance : MethodName := ⟨RX6, "distance", "(IZ)I"⟩
abbrev cX6_near : ByteArray := prog_8_method_38_code
def yX6_near : MethodName := ⟨RX6, "near", "(IZ)I"⟩
abbrev cX6_earlier : ByteArray := prog_8_method_39_code
def yX6_earlier : MethodName := ⟨RX6, "earlier", "(II)Z"⟩
abbrev cX6_rank : ByteArray := prog_8_method_40_code
def yX6_rank : MethodName := ⟨RX6, "rank", "(IZ)I"⟩
def RJ9 : String := "java/lang/Math"
def TJ9 : u_T := fun k => match k with
  | _ => ("", "", "", false)
def tyJ9 : Nat → FieldType := fun k => match k with
  | _ => .int
abbrev wsJ90 : List Cond := u_ws RJ9 TJ9 0
theorem nmJ9 : ∀ a, a < 0 → ∀ b, b < 0 → a ≠ b → (TJ9 a).2.1 ≠ (TJ9 b).2.1 := by decide +kernel
theorem tyJ9_ok : ∀ k, k < 0 → parseFieldDescriptor (TJ9 k).2.2.1 = some (tyJ9 k) := by decide +kernel
abbrev cJ9_max_7cf53 : ByteArray := prog_9_method_65_code
def yJ9_max_7cf53 : MethodName := ⟨RJ9, "max", "(II)I"⟩
abbrev cJ9_min_7cf53 : ByteArray := prog_9_method_69_code
def yJ9_min_7cf53 : MethodName := ⟨RJ9, "min", "(II)I"⟩
def RL : String := "FuzzyFinderLaw"
abbrev cL_law : ByteArray := code
def yL_law : MethodName := ⟨RL, "law", "([I)Z"⟩
def wsX0_init : List Cond := .code yX0_init cX0_init 1 none :: ([.methodLink RX0 3 objectInit, .instanceMethod objectInit, .code objectInit ⟨#[0xb1]⟩ 1 none, .classLink RX0 11 "[[I", .arrayClass .int, .fieldLink RX0 13 "FuzzyFinder$CostTable" "costsOfNodes" "[[I", .fieldLink RX0 16 "FuzzyFinder$CostTable" "chains" "[I", .fieldLink RX0 20 "FuzzyFinder$CostTable" "knownColumns" "I", .fieldLink RX0 24 "FuzzyFinder$CostTable" "added" "I", .fieldLink RX0 27 "FuzzyFinder$CostTable" "missing" "I", .fieldLink RX0 30 "FuzzyFinder$CostTable" "wrong" "I"] ++ wsX00)
def wsX0_forget : List Cond := .code yX0_forget cX0_forget 1 none :: ([.fieldLink RX0 20 "FuzzyFinder$CostTable" "knownColumns" "I"] ++ wsX00)
def wsX0_weigh : List Cond := .code yX0_weigh cX0_weigh 4 none :: ([.fieldLink RX0 24 "FuzzyFinder$CostTable" "added" "I", .fieldLink RX0 27 "FuzzyFinder$CostTable" "missing" "I", .fieldLink RX0 30 "FuzzyFinder$CostTable" "wrong" "I", .methodLink RX0 33 yX0_forget, .instanceMethod yX0_forget, .selects RX0 yX0_forget yX0_forget, .initialized RX0, .code yX0_forget cX0_forget 1 none, .fieldLink RX0 20 "FuzzyFinder$CostTable" "knownColumns" "I"] ++ wsX00)
def wsX0_pieceAt : List Cond := .code yX0_pieceAt cX0_pieceAt 2 (some .int) :: ([])
def wsX3_letterAt : List Cond := .code yX3_letterAt cX3_letterAt 2 (some .char) :: ([.fieldLink RX3 15 "FuzzyFinder$Letters" "count" "I", .fieldLink RX3 9 "FuzzyFinder$Letters" "signs" "[C"] ++ wsX30)
def wsX0_fillLetter : List Cond := .code yX0_fillLetter cX0_fillLetter 9 none :: ([.fieldLink RX0 27 "FuzzyFinder$CostTable" "missing" "I", .fieldLink RX0 24 "FuzzyFinder$CostTable" "added" "I", .fieldLink RX0 30 "FuzzyFinder$CostTable" "wrong" "I", .methodLink RX0 99 Lib.Math.min.name, .static Lib.Math.min.name, .initialized "java/lang/Math", .code Lib.Math.min.name Lib.Math.min.code 2 (some .int), .methodLink RX0 49 yX0_pieceAt, .static yX0_pieceAt, .initialized RX0, .code yX0_pieceAt cX0_pieceAt 2 (some .int), .instanceMethod yX3_letterAt, .initialized RX3, .selects RX3 yX3_letterAt yX3_letterAt, .code yX3_letterAt cX3_letterAt 2 (some .char), .fieldLink RX3 15 "FuzzyFinder$Letters" "count" "I", .fieldLink RX3 9 "FuzzyFinder$Letters" "signs" "[C"] ++ wsX00 ++ wsX30)
def wsX0_operand : List Cond := .code yX0_operand cX0_operand 2 (some .int) :: ([])
def wsX0_fillRow : List Cond := .code yX0_fillRow cX0_fillRow 8 none :: ([.constant RX0 48 (268435456), .methodLink RX0 99 Lib.Math.min.name, .static Lib.Math.min.name, .initialized "java/lang/Math", .code Lib.Math.min.name Lib.Math.min.code 2 (some .int), .methodLink RX0 49 yX0_pieceAt, .static yX0_pieceAt, .initialized RX0, .code yX0_pieceAt cX0_pieceAt 2 (some .int)])
def wsX0_fillEither : List Cond := .code yX0_fillEither cX0_fillEither 6 none :: ([.methodLink RX0 99 Lib.Math.min.name, .static Lib.Math.min.name, .initialized "java/lang/Math", .code Lib.Math.min.name Lib.Math.min.code 2 (some .int), .methodLink RX0 49 yX0_pieceAt, .static yX0_pieceAt, .initialized RX0, .code yX0_pieceAt cX0_pieceAt 2 (some .int)])
def wsX0_fillMaybe : List Cond := .code yX0_fillMaybe cX0_fillMaybe 5 none :: ([.fieldLink RX0 24 "FuzzyFinder$CostTable" "added" "I", .methodLink RX0 99 Lib.Math.min.name, .static Lib.Math.min.name, .initialized "java/lang/Math", .code Lib.Math.min.name Lib.Math.min.code 2 (some .int), .methodLink RX0 49 yX0_pieceAt, .static yX0_pieceAt, .initialized RX0, .code yX0_pieceAt cX0_pieceAt 2 (some .int)] ++ wsX00)
def wsX0_fillLimit : List Cond := .code yX0_fillLimit cX0_fillLimit 7 none :: ([.constant RX0 48 (268435456), .methodLink RX0 49 yX0_pieceAt, .static yX0_pieceAt, .initialized RX0, .code yX0_pieceAt cX0_pieceAt 2 (some .int)])
def wsX0_fillChains : List Cond := .code yX0_fillChains cX0_fillChains 6 none :: ([.fieldLink RX0 16 "FuzzyFinder$CostTable" "chains" "[I", .methodLink RX0 99 Lib.Math.min.name, .static Lib.Math.min.name, .initialized "java/lang/Math", .code Lib.Math.min.name Lib.Math.min.code 2 (some .int), .methodLink RX0 49 yX0_pieceAt, .static yX0_pieceAt, .initialized RX0, .code yX0_pieceAt cX0_pieceAt 2 (some .int)] ++ wsX00)
def wsX0_fillRepeated : List Cond := .code yX0_fillRepeated cX0_fillRepeated 6 none :: ([.fieldLink RX0 24 "FuzzyFinder$CostTable" "added" "I", .constant RX0 48 (268435456), .fieldLink RX0 16 "FuzzyFinder$CostTable" "chains" "[I", .methodLink RX0 99 Lib.Math.min.name, .static Lib.Math.min.name, .initialized "java/lang/Math", .code Lib.Math.min.name Lib.Math.min.code 2 (some .int), .methodLink RX0 49 yX0_pieceAt, .static yX0_pieceAt, .initialized RX0, .code yX0_pieceAt cX0_pieceAt 2 (some .int)] ++ wsX00)
def wsX0_fillColumn_r1 : List Cond := [Cond.fieldLink RX0 13 "FuzzyFinder$CostTable" "costsOfNodes" "[[I", Cond.methodLink RX0 59 yX0_fillLetter, Cond.instanceMethod yX0_fillLetter, Cond.selects RX0 yX0_fillLetter yX0_fillLetter, Cond.initialized RX0, Cond.code yX0_fillLetter cX0_fillLetter 9 none, Cond.fieldLink RX0 27 "FuzzyFinder$CostTable" "missing" "I", Cond.fieldLink RX0 24 "FuzzyFinder$CostTable" "added" "I", Cond.fieldLink RX0 30 "FuzzyFinder$CostTable" "wrong" "I", Cond.methodLink RX0 99 Lib.Math.min.name, Cond.static Lib.Math.min.name, Cond.initialized "java/lang/Math", Cond.code Lib.Math.min.name Lib.Math.min.code 2 (some .int), Cond.methodLink RX0 49 yX0_pieceAt, Cond.static yX0_pieceAt, Cond.code yX0_pieceAt cX0_pieceAt 2 (some .int), Cond.instanceMethod yX3_letterAt, Cond.initialized RX3, Cond.selects RX3 yX3_letterAt yX3_letterAt, Cond.code yX3_letterAt cX3_letterAt 2 (some .char), Cond.fieldLink RX3 15 "FuzzyFinder$Letters" "count" "I", Cond.fieldLink RX3 9 "FuzzyFinder$Letters" "signs" "[C", Cond.methodLink RX0 66 yX0_operand, Cond.static yX0_operand]
def wsX0_fillColumn_r2 : List Cond := [Cond.code yX0_operand cX0_operand 2 (some .int), Cond.methodLink RX0 72 yX0_fillRow, Cond.instanceMethod yX0_fillRow, Cond.selects RX0 yX0_fillRow yX0_fillRow, Cond.code yX0_fillRow cX0_fillRow 8 none, Cond.constant RX0 48 (268435456), Cond.methodLink RX0 76 yX0_fillEither, Cond.instanceMethod yX0_fillEither, Cond.selects RX0 yX0_fillEither yX0_fillEither, Cond.code yX0_fillEither cX0_fillEither 6 none, Cond.methodLink RX0 79 yX0_fillMaybe, Cond.instanceMethod yX0_fillMaybe, Cond.selects RX0 yX0_fillMaybe yX0_fillMaybe, Cond.code yX0_fillMaybe cX0_fillMaybe 5 none, Cond.methodLink RX0 83 yX0_fillLimit, Cond.instanceMethod yX0_fillLimit, Cond.selects RX0 yX0_fillLimit yX0_fillLimit, Cond.code yX0_fillLimit cX0_fillLimit 7 none, Cond.methodLink RX0 87 yX0_fillChains, Cond.instanceMethod yX0_fillChains, Cond.selects RX0 yX0_fillChains yX0_fillChains, Cond.code yX0_fillChains cX0_fillChains 6 none, Cond.fieldLink RX0 16 "FuzzyFinder$CostTable" "chains" "[I", Cond.methodLink RX0 91 yX0_fillRepeated]
def wsX0_fillColumn_r3 : List Cond := [Cond.instanceMethod yX0_fillRepeated, Cond.selects RX0 yX0_fillRepeated yX0_fillRepeated, Cond.code yX0_fillRepeated cX0_fillRepeated 6 none]
def wsX0_fillColumn : List Cond := .code yX0_fillColumn cX0_fillColumn 9 none :: ((wsX0_fillColumn_r1 ++ (wsX0_fillColumn_r2 ++ wsX0_fillColumn_r3)) ++ wsX00 ++ wsX40 ++ wsX30)
def wsX0_learn_r1 : List Cond := [Cond.fieldLink RX0 20 "FuzzyFinder$CostTable" "knownColumns" "I", Cond.methodLink RX0 44 yX0_fillColumn, Cond.instanceMethod yX0_fillColumn, Cond.selects RX0 yX0_fillColumn yX0_fillColumn, Cond.initialized RX0, Cond.code yX0_fillColumn cX0_fillColumn 9 none, Cond.fieldLink RX0 13 "FuzzyFinder$CostTable" "costsOfNodes" "[[I", Cond.methodLink RX0 59 yX0_fillLetter, Cond.instanceMethod yX0_fillLetter, Cond.selects RX0 yX0_fillLetter yX0_fillLetter, Cond.code yX0_fillLetter cX0_fillLetter 9 none, Cond.fieldLink RX0 27 "FuzzyFinder$CostTable" "missing" "I", Cond.fieldLink RX0 24 "FuzzyFinder$CostTable" "added" "I", Cond.fieldLink RX0 30 "FuzzyFinder$CostTable" "wrong" "I", Cond.methodLink RX0 99 Lib.Math.min.name, Cond.static Lib.Math.min.name, Cond.initialized "java/lang/Math", Cond.code Lib.Math.min.name Lib.Math.min.code 2 (some .int), Cond.methodLink RX0 49 yX0_pieceAt, Cond.static yX0_pieceAt, Cond.code yX0_pieceAt cX0_pieceAt 2 (some .int), Cond.instanceMethod yX3_letterAt, Cond.initialized RX3, Cond.selects RX3 yX3_letterAt yX3_letterAt]
def wsX0_learn_r2 : List Cond := [Cond.code yX3_letterAt cX3_letterAt 2 (some .char), Cond.fieldLink RX3 15 "FuzzyFinder$Letters" "count" "I", Cond.fieldLink RX3 9 "FuzzyFinder$Letters" "signs" "[C", Cond.methodLink RX0 66 yX0_operand, Cond.static yX0_operand, Cond.code yX0_operand cX0_operand 2 (some .int), Cond.methodLink RX0 72 yX0_fillRow, Cond.instanceMethod yX0_fillRow, Cond.selects RX0 yX0_fillRow yX0_fillRow, Cond.code yX0_fillRow cX0_fillRow 8 none, Cond.constant RX0 48 (268435456), Cond.methodLink RX0 76 yX0_fillEither, Cond.instanceMethod yX0_fillEither, Cond.selects RX0 yX0_fillEither yX0_fillEither, Cond.code yX0_fillEither cX0_fillEither 6 none, Cond.methodLink RX0 79 yX0_fillMaybe, Cond.instanceMethod yX0_fillMaybe, Cond.selects RX0 yX0_fillMaybe yX0_fillMaybe, Cond.code yX0_fillMaybe cX0_fillMaybe 5 none, Cond.methodLink RX0 83 yX0_fillLimit, Cond.instanceMethod yX0_fillLimit, Cond.selects RX0 yX0_fillLimit yX0_fillLimit, Cond.code yX0_fillLimit cX0_fillLimit 7 none, Cond.methodLink RX0 87 yX0_fillChains]
def wsX0_learn_r3 : List Cond := [Cond.instanceMethod yX0_fillChains, Cond.selects RX0 yX0_fillChains yX0_fillChains, Cond.code yX0_fillChains cX0_fillChains 6 none, Cond.fieldLink RX0 16 "FuzzyFinder$CostTable" "chains" "[I", Cond.methodLink RX0 91 yX0_fillRepeated, Cond.instanceMethod yX0_fillRepeated, Cond.selects RX0 yX0_fillRepeated yX0_fillRepeated, Cond.code yX0_fillRepeated cX0_fillRepeated 6 none]
def wsX0_learn : List Cond := .code yX0_learn cX0_learn 5 none :: ((wsX0_learn_r1 ++ (wsX0_learn_r2 ++ wsX0_learn_r3)) ++ wsX00 ++ wsX30 ++ wsX40)
def wsX0_ofWhole : List Cond := .code yX0_ofWhole cX0_ofWhole 4 (some .int) :: ([.fieldLink RX0 20 "FuzzyFinder$CostTable" "knownColumns" "I", .constant RX0 48 (268435456), .fieldLink RX0 13 "FuzzyFinder$CostTable" "costsOfNodes" "[[I", .methodLink RX0 49 yX0_pieceAt, .static yX0_pieceAt, .initialized RX0, .code yX0_pieceAt cX0_pieceAt 2 (some .int)] ++ wsX40 ++ wsX00)
def wsX3_init : List Cond := .code yX3_init cX3_init 1 none :: ([.methodLink RX3 3 objectInit, .instanceMethod objectInit, .code objectInit ⟨#[0xb1]⟩ 1 none, .arrayClass .char, .fieldLink RX3 9 "FuzzyFinder$Letters" "signs" "[C", .fieldLink RX3 15 "FuzzyFinder$Letters" "count" "I"] ++ wsX30)
def wsX1_init : List Cond := .code yX1_init cX1_init 2 none :: ([.methodLink RX1 3 objectInit, .instanceMethod objectInit, .code objectInit ⟨#[0xb1]⟩ 1 none, .classLink RX1 9 RX3, .fieldLink RX1 11 "FuzzyFinder$Dictionary" "entries" "[LFuzzyFinder$Letters;", .fieldLink RX1 17 "FuzzyFinder$Dictionary" "count" "I", .arrayClass .int, .fieldLink RX1 21 "FuzzyFinder$Dictionary" "distances" "[I", .classLink RX1 25 "[[I", .fieldLink RX1 27 "FuzzyFinder$Dictionary" "steps" "[[I", .instantiable RX3 2, .initialized RX3, .instanceMethod yX3_init, .code yX3_init cX3_init 1 none, .methodLink RX3 3 objectInit, .arrayClass .char, .fieldLink RX3 9 "FuzzyFinder$Letters" "signs" "[C", .fieldLink RX3 15 "FuzzyFinder$Letters" "count" "I"] ++ wsX10 ++ wsX30)
def wsX3_compareWith : List Cond := .code yX3_compareWith cX3_compareWith 5 (some .int) :: ([.fieldLink RX3 15 "FuzzyFinder$Letters" "count" "I", .methodLink RX3 30 Lib.Math.min.name, .static Lib.Math.min.name, .initialized "java/lang/Math", .code Lib.Math.min.name Lib.Math.min.code 2 (some .int), .methodLink RX3 22 yX3_letterAt, .instanceMethod yX3_letterAt, .selects RX3 yX3_letterAt yX3_letterAt, .initialized RX3, .code yX3_letterAt cX3_letterAt 2 (some .char), .fieldLink RX3 9 "FuzzyFinder$Letters" "signs" "[C"] ++ wsX30)
def wsX1_holds : List Cond := .code yX1_holds cX1_holds 3 (some .boolean) :: ([.fieldLink RX1 17 "FuzzyFinder$Dictionary" "count" "I", .fieldLink RX1 11 "FuzzyFinder$Dictionary" "entries" "[LFuzzyFinder$Letters;", .instanceMethod yX3_compareWith, .initialized RX3, .selects RX3 yX3_compareWith yX3_compareWith, .code yX3_compareWith cX3_compareWith 5 (some .int), .fieldLink RX3 15 "FuzzyFinder$Letters" "count" "I", .methodLink RX3 30 Lib.Math.min.name, .static Lib.Math.min.name, .initialized "java/lang/Math", .code Lib.Math.min.name Lib.Math.min.code 2 (some .int), .methodLink RX3 22 yX3_letterAt, .instanceMethod yX3_letterAt, .selects RX3 yX3_letterAt yX3_letterAt, .code yX3_letterAt cX3_letterAt 2 (some .char), .fieldLink RX3 9 "FuzzyFinder$Letters" "signs" "[C"] ++ wsX10 ++ wsX30)
def wsX3_clear : List Cond := .code yX3_clear cX3_clear 1 none :: ([.fieldLink RX3 15 "FuzzyFinder$Letters" "count" "I"] ++ wsX30)
def wsX3_append : List Cond := .code yX3_append cX3_append 2 none :: ([.fieldLink RX3 15 "FuzzyFinder$Letters" "count" "I", .fieldLink RX3 9 "FuzzyFinder$Letters" "signs" "[C"] ++ wsX30)
def wsX3_copyFrom : List Cond := .code yX3_copyFrom cX3_copyFrom 3 none :: ([.fieldLink RX3 15 "FuzzyFinder$Letters" "count" "I", .methodLink RX3 19 yX3_clear, .instanceMethod yX3_clear, .selects RX3 yX3_clear yX3_clear, .initialized RX3, .code yX3_clear cX3_clear 1 none, .methodLink RX3 22 yX3_letterAt, .instanceMethod yX3_letterAt, .selects RX3 yX3_letterAt yX3_letterAt, .code yX3_letterAt cX3_letterAt 2 (some .char), .fieldLink RX3 9 "FuzzyFinder$Letters" "signs" "[C", .methodLink RX3 26 yX3_append, .instanceMethod yX3_append, .selects RX3 yX3_append yX3_append, .code yX3_append cX3_append 2 none] ++ wsX30)
def wsX1_keep_r1 : List Cond := [Cond.fieldLink RX1 17 "FuzzyFinder$Dictionary" "count" "I", Cond.fieldLink RX1 11 "FuzzyFinder$Dictionary" "entries" "[LFuzzyFinder$Letters;", Cond.methodLink RX1 32 yX1_holds, Cond.instanceMethod yX1_holds, Cond.selects RX1 yX1_holds yX1_holds, Cond.initialized RX1, Cond.code yX1_holds cX1_holds 3 (some .boolean), Cond.instanceMethod yX3_compareWith, Cond.initialized RX3, Cond.selects RX3 yX3_compareWith yX3_compareWith, Cond.code yX3_compareWith cX3_compareWith 5 (some .int), Cond.fieldLink RX3 15 "FuzzyFinder$Letters" "count" "I", Cond.methodLink RX3 30 Lib.Math.min.name, Cond.static Lib.Math.min.name, Cond.initialized "java/lang/Math", Cond.code Lib.Math.min.name Lib.Math.min.code 2 (some .int), Cond.methodLink RX3 22 yX3_letterAt, Cond.instanceMethod yX3_letterAt, Cond.selects RX3 yX3_letterAt yX3_letterAt, Cond.code yX3_letterAt cX3_letterAt 2 (some .char), Cond.fieldLink RX3 9 "FuzzyFinder$Letters" "signs" "[C", Cond.instanceMethod yX3_copyFrom, Cond.selects RX3 yX3_copyFrom yX3_copyFrom, Cond.code yX3_copyFrom cX3_copyFrom 3 none]
def wsX1_keep_r2 : List Cond := [Cond.methodLink RX3 19 yX3_clear, Cond.instanceMethod yX3_clear, Cond.selects RX3 yX3_clear yX3_clear, Cond.code yX3_clear cX3_clear 1 none, Cond.methodLink RX3 26 yX3_append, Cond.instanceMethod yX3_append, Cond.selects RX3 yX3_append yX3_append, Cond.code yX3_append cX3_append 2 none]
def wsX1_keep : List Cond := .code yX1_keep cX1_keep 3 (some .int) :: ((wsX1_keep_r1 ++ wsX1_keep_r2) ++ wsX30 ++ wsX10)
def wsX1_areExchanged : List Cond := .code yX1_areExchanged cX1_areExchanged 4 (some .boolean) :: ([.instanceMethod yX3_letterAt, .initialized RX3, .selects RX3 yX3_letterAt yX3_letterAt, .code yX3_letterAt cX3_letterAt 2 (some .char), .fieldLink RX3 15 "FuzzyFinder$Letters" "count" "I", .fieldLink RX3 9 "FuzzyFinder$Letters" "signs" "[C"] ++ wsX30)
def wsX1_leastSteps : List Cond := .code yX1_leastSteps cX1_leastSteps 8 (some .int) :: ([.methodLink RX1 48 Lib.Math.max.name, .static Lib.Math.max.name, .initialized "java/lang/Math", .code Lib.Math.max.name Lib.Math.max.code 2 (some .int), .fieldLink RX1 27 "FuzzyFinder$Dictionary" "steps" "[[I", .methodLink RX1 54 Lib.Math.min.name, .static Lib.Math.min.name, .code Lib.Math.min.name Lib.Math.min.code 2 (some .int), .instanceMethod yX3_letterAt, .initialized RX3, .selects RX3 yX3_letterAt yX3_letterAt, .code yX3_letterAt cX3_letterAt 2 (some .char), .fieldLink RX3 15 "FuzzyFinder$Letters" "count" "I", .fieldLink RX3 9 "FuzzyFinder$Letters" "signs" "[C", .methodLink RX1 61 yX1_areExchanged, .static yX1_areExchanged, .initialized RX1, .code yX1_areExchanged cX1_areExchanged 4 (some .boolean)] ++ wsX10 ++ wsX30)
def wsX1_distanceOf : List Cond := .code yX1_distanceOf cX1_distanceOf 7 (some .int) :: ([.fieldLink RX1 17 "FuzzyFinder$Dictionary" "count" "I", .fieldLink RX1 11 "FuzzyFinder$Dictionary" "entries" "[LFuzzyFinder$Letters;", .fieldLink RX1 27 "FuzzyFinder$Dictionary" "steps" "[[I", .methodLink RX1 44 yX1_leastSteps, .instanceMethod yX1_leastSteps, .selects RX1 yX1_leastSteps yX1_leastSteps, .initialized RX1, .code yX1_leastSteps cX1_leastSteps 8 (some .int), .methodLink RX1 48 Lib.Math.max.name, .static Lib.Math.max.name, .initialized "java/lang/Math", .code Lib.Math.max.name Lib.Math.max.code 2 (some .int), .methodLink RX1 54 Lib.Math.min.name, .static Lib.Math.min.name, .code Lib.Math.min.name Lib.Math.min.code 2 (some .int), .instanceMethod yX3_letterAt, .initialized RX3, .selects RX3 yX3_letterAt yX3_letterAt, .code yX3_letterAt cX3_letterAt 2 (some .char), .fieldLink RX3 15 "FuzzyFinder$Letters" "count" "I", .fieldLink RX3 9 "FuzzyFinder$Letters" "signs" "[C", .methodLink RX1 61 yX1_areExchanged, .static yX1_areExchanged, .code yX1_areExchanged cX1_areExchanged 4 (some .boolean)] ++ wsX10 ++ wsX30)
def wsX1_countWithin_r1 : List Cond := [Cond.fieldLink RX1 17 "FuzzyFinder$Dictionary" "count" "I", Cond.methodLink RX1 65 yX1_distanceOf, Cond.instanceMethod yX1_distanceOf, Cond.selects RX1 yX1_distanceOf yX1_distanceOf, Cond.initialized RX1, Cond.code yX1_distanceOf cX1_distanceOf 7 (some .int), Cond.fieldLink RX1 11 "FuzzyFinder$Dictionary" "entries" "[LFuzzyFinder$Letters;", Cond.fieldLink RX1 27 "FuzzyFinder$Dictionary" "steps" "[[I", Cond.methodLink RX1 44 yX1_leastSteps, Cond.instanceMethod yX1_leastSteps, Cond.selects RX1 yX1_leastSteps yX1_leastSteps, Cond.code yX1_leastSteps cX1_leastSteps 8 (some .int), Cond.methodLink RX1 48 Lib.Math.max.name, Cond.static Lib.Math.max.name, Cond.initialized "java/lang/Math", Cond.code Lib.Math.max.name Lib.Math.max.code 2 (some .int), Cond.methodLink RX1 54 Lib.Math.min.name, Cond.static Lib.Math.min.name, Cond.code Lib.Math.min.name Lib.Math.min.code 2 (some .int), Cond.instanceMethod yX3_letterAt, Cond.initialized RX3, Cond.selects RX3 yX3_letterAt yX3_letterAt, Cond.code yX3_letterAt cX3_letterAt 2 (some .char), Cond.fieldLink RX3 15 "FuzzyFinder$Letters" "count" "I"]
def wsX1_countWithin_r2 : List Cond := [Cond.fieldLink RX3 9 "FuzzyFinder$Letters" "signs" "[C", Cond.methodLink RX1 61 yX1_areExchanged, Cond.static yX1_areExchanged, Cond.code yX1_areExchanged cX1_areExchanged 4 (some .boolean)]
def wsX1_countWithin : List Cond := .code yX1_countWithin cX1_countWithin 6 (some .int) :: ((wsX1_countWithin_r1 ++ wsX1_countWithin_r2) ++ wsX10 ++ wsX30)
def wsX1_comesBefore : List Cond := .code yX1_comesBefore cX1_comesBefore 3 (some .boolean) :: ([.fieldLink RX1 21 "FuzzyFinder$Dictionary" "distances" "[I", .fieldLink RX1 11 "FuzzyFinder$Dictionary" "entries" "[LFuzzyFinder$Letters;", .instanceMethod yX3_compareWith, .initialized RX3, .selects RX3 yX3_compareWith yX3_compareWith, .code yX3_compareWith cX3_compareWith 5 (some .int), .fieldLink RX3 15 "FuzzyFinder$Letters" "count" "I", .methodLink RX3 30 Lib.Math.min.name, .static Lib.Math.min.name, .initialized "java/lang/Math", .code Lib.Math.min.name Lib.Math.min.code 2 (some .int), .methodLink RX3 22 yX3_letterAt, .instanceMethod yX3_letterAt, .selects RX3 yX3_letterAt yX3_letterAt, .code yX3_letterAt cX3_letterAt 2 (some .char), .fieldLink RX3 9 "FuzzyFinder$Letters" "signs" "[C"] ++ wsX10 ++ wsX30)
def wsX1_rankOf : List Cond := .code yX1_rankOf cX1_rankOf 4 (some .int) :: ([.fieldLink RX1 17 "FuzzyFinder$Dictionary" "count" "I", .methodLink RX1 73 yX1_comesBefore, .instanceMethod yX1_comesBefore, .selects RX1 yX1_comesBefore yX1_comesBefore, .initialized RX1, .code yX1_comesBefore cX1_comesBefore 3 (some .boolean), .fieldLink RX1 21 "FuzzyFinder$Dictionary" "distances" "[I", .fieldLink RX1 11 "FuzzyFinder$Dictionary" "entries" "[LFuzzyFinder$Letters;", .instanceMethod yX3_compareWith, .initialized RX3, .selects RX3 yX3_compareWith yX3_compareWith, .code yX3_compareWith cX3_compareWith 5 (some .int), .fieldLink RX3 15 "FuzzyFinder$Letters" "count" "I", .methodLink RX3 30 Lib.Math.min.name, .static Lib.Math.min.name, .initialized "java/lang/Math", .code Lib.Math.min.name Lib.Math.min.code 2 (some .int), .methodLink RX3 22 yX3_letterAt, .instanceMethod yX3_letterAt, .selects RX3 yX3_letterAt yX3_letterAt, .code yX3_letterAt cX3_letterAt 2 (some .char), .fieldLink RX3 9 "FuzzyFinder$Letters" "signs" "[C"] ++ wsX10 ++ wsX30)
def wsX1_wordAtRank_r1 : List Cond := [Cond.fieldLink RX1 17 "FuzzyFinder$Dictionary" "count" "I", Cond.fieldLink RX1 21 "FuzzyFinder$Dictionary" "distances" "[I", Cond.methodLink RX1 65 yX1_distanceOf, Cond.instanceMethod yX1_distanceOf, Cond.selects RX1 yX1_distanceOf yX1_distanceOf, Cond.initialized RX1, Cond.code yX1_distanceOf cX1_distanceOf 7 (some .int), Cond.fieldLink RX1 11 "FuzzyFinder$Dictionary" "entries" "[LFuzzyFinder$Letters;", Cond.fieldLink RX1 27 "FuzzyFinder$Dictionary" "steps" "[[I", Cond.methodLink RX1 44 yX1_leastSteps, Cond.instanceMethod yX1_leastSteps, Cond.selects RX1 yX1_leastSteps yX1_leastSteps, Cond.code yX1_leastSteps cX1_leastSteps 8 (some .int), Cond.methodLink RX1 48 Lib.Math.max.name, Cond.static Lib.Math.max.name, Cond.initialized "java/lang/Math", Cond.code Lib.Math.max.name Lib.Math.max.code 2 (some .int), Cond.methodLink RX1 54 Lib.Math.min.name, Cond.static Lib.Math.min.name, Cond.code Lib.Math.min.name Lib.Math.min.code 2 (some .int), Cond.instanceMethod yX3_letterAt, Cond.initialized RX3, Cond.selects RX3 yX3_letterAt yX3_letterAt, Cond.code yX3_letterAt cX3_letterAt 2 (some .char)]
def wsX1_wordAtRank_r2 : List Cond := [Cond.fieldLink RX3 15 "FuzzyFinder$Letters" "count" "I", Cond.fieldLink RX3 9 "FuzzyFinder$Letters" "signs" "[C", Cond.methodLink RX1 61 yX1_areExchanged, Cond.static yX1_areExchanged, Cond.code yX1_areExchanged cX1_areExchanged 4 (some .boolean), Cond.methodLink RX1 69 yX1_rankOf, Cond.instanceMethod yX1_rankOf, Cond.selects RX1 yX1_rankOf yX1_rankOf, Cond.code yX1_rankOf cX1_rankOf 4 (some .int), Cond.methodLink RX1 73 yX1_comesBefore, Cond.instanceMethod yX1_comesBefore, Cond.selects RX1 yX1_comesBefore yX1_comesBefore, Cond.code yX1_comesBefore cX1_comesBefore 3 (some .boolean), Cond.instanceMethod yX3_compareWith, Cond.selects RX3 yX3_compareWith yX3_compareWith, Cond.code yX3_compareWith cX3_compareWith 5 (some .int), Cond.methodLink RX3 30 Lib.Math.min.name, Cond.methodLink RX3 22 yX3_letterAt]
def wsX1_wordAtRank : List Cond := .code yX1_wordAtRank cX1_wordAtRank 5 (some .int) :: ((wsX1_wordAtRank_r1 ++ wsX1_wordAtRank_r2) ++ wsX10 ++ wsX30)
def wsX4_init : List Cond := .code yX4_init cX4_init 1 none :: ([.methodLink RX4 3 objectInit, .instanceMethod objectInit, .code objectInit ⟨#[0xb1]⟩ 1 none, .arrayClass .int, .fieldLink RX4 9 "FuzzyFinder$Pattern" "kinds" "[I", .fieldLink RX4 15 "FuzzyFinder$Pattern" "lefts" "[I", .fieldLink RX4 18 "FuzzyFinder$Pattern" "rights" "[I", .fieldLink RX4 21 "FuzzyFinder$Pattern" "values" "[I", .fieldLink RX4 24 "FuzzyFinder$Pattern" "count" "I"] ++ wsX40)
def wsX2_init : List Cond := .code yX2_init cX2_init 1 none :: ([.methodLink RX2 3 objectInit, .instanceMethod objectInit, .code objectInit ⟨#[0xb1]⟩ 1 none, .classLink RX2 9 RX4, .instantiable RX4 5, .initialized RX4, .fieldLink RX2 12 "FuzzyFinder$ExpressionReader" "draft" "LFuzzyFinder$Pattern;", .fieldLink RX2 18 "FuzzyFinder$ExpressionReader" "state" "I", .fieldLink RX2 22 "FuzzyFinder$ExpressionReader" "depth" "I", .arrayClass .int, .fieldLink RX2 25 "FuzzyFinder$ExpressionReader" "items" "[I", .fieldLink RX2 29 "FuzzyFinder$ExpressionReader" "rows" "[I", .fieldLink RX2 32 "FuzzyFinder$ExpressionReader" "choices" "[I", .fieldLink RX2 35 "FuzzyFinder$ExpressionReader" "setLetters" "I", .fieldLink RX2 38 "FuzzyFinder$ExpressionReader" "setIsOfOthers" "Z", .fieldLink RX2 42 "FuzzyFinder$ExpressionReader" "limit" "I", .instanceMethod yX4_init, .code yX4_init cX4_init 1 none, .methodLink RX4 3 objectInit, .fieldLink RX4 9 "FuzzyFinder$Pattern" "kinds" "[I", .fieldLink RX4 15 "FuzzyFinder$Pattern" "lefts" "[I", .fieldLink RX4 18 "FuzzyFinder$Pattern" "rights" "[I", .fieldLink RX4 21 "FuzzyFinder$Pattern" "values" "[I", .fieldLink RX4 24 "FuzzyFinder$Pattern" "count" "I"] ++ wsX40 ++ wsX20)
def wsX4_clear : List Cond := .code yX4_clear cX4_clear 1 none :: ([.fieldLink RX4 24 "FuzzyFinder$Pattern" "count" "I"] ++ wsX40)
def wsX2_beginBracket : List Cond := .code yX2_beginBracket cX2_beginBracket 1 none :: ([.fieldLink RX2 25 "FuzzyFinder$ExpressionReader" "items" "[I", .fieldLink RX2 22 "FuzzyFinder$ExpressionReader" "depth" "I", .fieldLink RX2 29 "FuzzyFinder$ExpressionReader" "rows" "[I", .fieldLink RX2 32 "FuzzyFinder$ExpressionReader" "choices" "[I", .fieldLink RX2 18 "FuzzyFinder$ExpressionReader" "state" "I"] ++ wsX20)
def wsX5_isLetter : List Cond := .code yX5_isLetter cX5_isLetter 1 (some .boolean) :: ([])
def wsX2_bitOf : List Cond := .code yX2_bitOf cX2_bitOf 1 (some .int) :: ([])
def wsX4_put : List Cond := .code yX4_put cX4_put 6 (some .int) :: ([.fieldLink RX4 24 "FuzzyFinder$Pattern" "count" "I", .fieldLink RX4 9 "FuzzyFinder$Pattern" "kinds" "[I", .fieldLink RX4 15 "FuzzyFinder$Pattern" "lefts" "[I", .fieldLink RX4 18 "FuzzyFinder$Pattern" "rights" "[I", .fieldLink RX4 21 "FuzzyFinder$Pattern" "values" "[I"] ++ wsX40)
def wsX2_endAtom : List Cond := .code yX2_endAtom cX2_endAtom 2 none :: ([.fieldLink RX2 25 "FuzzyFinder$ExpressionReader" "items" "[I", .fieldLink RX2 22 "FuzzyFinder$ExpressionReader" "depth" "I", .fieldLink RX2 12 "FuzzyFinder$ExpressionReader" "draft" "LFuzzyFinder$Pattern;", .fieldLink RX2 18 "FuzzyFinder$ExpressionReader" "state" "I", .instanceMethod yX4_put, .initialized RX4, .selects RX4 yX4_put yX4_put, .code yX4_put cX4_put 6 (some .int), .fieldLink RX4 24 "FuzzyFinder$Pattern" "count" "I", .fieldLink RX4 9 "FuzzyFinder$Pattern" "kinds" "[I", .fieldLink RX4 15 "FuzzyFinder$Pattern" "lefts" "[I", .fieldLink RX4 18 "FuzzyFinder$Pattern" "rights" "[I", .fieldLink RX4 21 "FuzzyFinder$Pattern" "values" "[I"] ++ wsX20 ++ wsX40)
def wsX2_takeOpening : List Cond := .code yX2_takeOpening cX2_takeOpening 1 (some .boolean) :: ([.fieldLink RX2 22 "FuzzyFinder$ExpressionReader" "depth" "I", .methodLink RX2 48 yX2_beginBracket, .instanceMethod yX2_beginBracket, .selects RX2 yX2_beginBracket yX2_beginBracket, .initialized RX2, .code yX2_beginBracket cX2_beginBracket 1 none, .fieldLink RX2 25 "FuzzyFinder$ExpressionReader" "items" "[I", .fieldLink RX2 29 "FuzzyFinder$ExpressionReader" "rows" "[I", .fieldLink RX2 32 "FuzzyFinder$ExpressionReader" "choices" "[I", .fieldLink RX2 18 "FuzzyFinder$ExpressionReader" "state" "I"] ++ wsX20)
def wsX2_takeAtom_r1 : List Cond := [Cond.constant RX2 93 (67108863), Cond.fieldLink RX2 35 "FuzzyFinder$ExpressionReader" "setLetters" "I", Cond.fieldLink RX2 38 "FuzzyFinder$ExpressionReader" "setIsOfOthers" "Z", Cond.fieldLink RX2 18 "FuzzyFinder$ExpressionReader" "state" "I", Cond.static yX5_isLetter, Cond.initialized RX5, Cond.code yX5_isLetter cX5_isLetter 1 (some .boolean), Cond.methodLink RX2 85 yX2_bitOf, Cond.static yX2_bitOf, Cond.initialized RX2, Cond.code yX2_bitOf cX2_bitOf 1 (some .int), Cond.methodLink RX2 89 yX2_endAtom, Cond.instanceMethod yX2_endAtom, Cond.selects RX2 yX2_endAtom yX2_endAtom, Cond.code yX2_endAtom cX2_endAtom 2 none, Cond.fieldLink RX2 25 "FuzzyFinder$ExpressionReader" "items" "[I", Cond.fieldLink RX2 22 "FuzzyFinder$ExpressionReader" "depth" "I", Cond.fieldLink RX2 12 "FuzzyFinder$ExpressionReader" "draft" "LFuzzyFinder$Pattern;", Cond.instanceMethod yX4_put, Cond.initialized RX4, Cond.selects RX4 yX4_put yX4_put, Cond.code yX4_put cX4_put 6 (some .int), Cond.fieldLink RX4 24 "FuzzyFinder$Pattern" "count" "I", Cond.fieldLink RX4 9 "FuzzyFinder$Pattern" "kinds" "[I"]
def wsX2_takeAtom_r2 : List Cond := [Cond.fieldLink RX4 15 "FuzzyFinder$Pattern" "lefts" "[I", Cond.fieldLink RX4 18 "FuzzyFinder$Pattern" "rights" "[I", Cond.fieldLink RX4 21 "FuzzyFinder$Pattern" "values" "[I", Cond.methodLink RX2 94 yX2_takeOpening, Cond.instanceMethod yX2_takeOpening, Cond.selects RX2 yX2_takeOpening yX2_takeOpening, Cond.code yX2_takeOpening cX2_takeOpening 1 (some .boolean), Cond.methodLink RX2 48 yX2_beginBracket, Cond.instanceMethod yX2_beginBracket, Cond.selects RX2 yX2_beginBracket yX2_beginBracket, Cond.code yX2_beginBracket cX2_beginBracket 1 none, Cond.fieldLink RX2 29 "FuzzyFinder$ExpressionReader" "rows" "[I", Cond.fieldLink RX2 32 "FuzzyFinder$ExpressionReader" "choices" "[I"]
def wsX2_takeAtom : List Cond := .code yX2_takeAtom cX2_takeAtom 2 (some .boolean) :: ((wsX2_takeAtom_r1 ++ wsX2_takeAtom_r2) ++ wsX20 ++ wsX40)
def wsX5_isDigit : List Cond := .code yX5_isDigit cX5_isDigit 1 (some .boolean) :: ([])
def wsX2_endSuffix : List Cond := .code yX2_endSuffix cX2_endSuffix 3 none :: ([.fieldLink RX2 25 "FuzzyFinder$ExpressionReader" "items" "[I", .fieldLink RX2 22 "FuzzyFinder$ExpressionReader" "depth" "I", .fieldLink RX2 12 "FuzzyFinder$ExpressionReader" "draft" "LFuzzyFinder$Pattern;", .fieldLink RX2 18 "FuzzyFinder$ExpressionReader" "state" "I", .instanceMethod yX4_put, .initialized RX4, .selects RX4 yX4_put yX4_put, .code yX4_put cX4_put 6 (some .int), .fieldLink RX4 24 "FuzzyFinder$Pattern" "count" "I", .fieldLink RX4 9 "FuzzyFinder$Pattern" "kinds" "[I", .fieldLink RX4 15 "FuzzyFinder$Pattern" "lefts" "[I", .fieldLink RX4 18 "FuzzyFinder$Pattern" "rights" "[I", .fieldLink RX4 21 "FuzzyFinder$Pattern" "values" "[I"] ++ wsX20 ++ wsX40)
def wsX2_takeFirstDigit : List Cond := .code yX2_takeFirstDigit cX2_takeFirstDigit 2 (some .boolean) :: ([.fieldLink RX2 42 "FuzzyFinder$ExpressionReader" "limit" "I", .fieldLink RX2 18 "FuzzyFinder$ExpressionReader" "state" "I", .static yX5_isDigit, .initialized RX5, .code yX5_isDigit cX5_isDigit 1 (some .boolean), .methodLink RX2 101 yX2_endSuffix, .instanceMethod yX2_endSuffix, .selects RX2 yX2_endSuffix yX2_endSuffix, .initialized RX2, .code yX2_endSuffix cX2_endSuffix 3 none, .fieldLink RX2 25 "FuzzyFinder$ExpressionReader" "items" "[I", .fieldLink RX2 22 "FuzzyFinder$ExpressionReader" "depth" "I", .fieldLink RX2 12 "FuzzyFinder$ExpressionReader" "draft" "LFuzzyFinder$Pattern;", .instanceMethod yX4_put, .initialized RX4, .selects RX4 yX4_put yX4_put, .code yX4_put cX4_put 6 (some .int), .fieldLink RX4 24 "FuzzyFinder$Pattern" "count" "I", .fieldLink RX4 9 "FuzzyFinder$Pattern" "kinds" "[I", .fieldLink RX4 15 "FuzzyFinder$Pattern" "lefts" "[I", .fieldLink RX4 18 "FuzzyFinder$Pattern" "rights" "[I", .fieldLink RX4 21 "FuzzyFinder$Pattern" "values" "[I"] ++ wsX20 ++ wsX40)
def wsX4_changeValue : List Cond := .code yX4_changeValue cX4_changeValue 3 none :: ([.fieldLink RX4 21 "FuzzyFinder$Pattern" "values" "[I"] ++ wsX40)
def wsX2_takeSecondDigit : List Cond := .code yX2_takeSecondDigit cX2_takeSecondDigit 2 (some .boolean) :: ([.fieldLink RX2 12 "FuzzyFinder$ExpressionReader" "draft" "LFuzzyFinder$Pattern;", .fieldLink RX2 25 "FuzzyFinder$ExpressionReader" "items" "[I", .fieldLink RX2 22 "FuzzyFinder$ExpressionReader" "depth" "I", .fieldLink RX2 42 "FuzzyFinder$ExpressionReader" "limit" "I", .fieldLink RX2 18 "FuzzyFinder$ExpressionReader" "state" "I", .static yX5_isDigit, .initialized RX5, .code yX5_isDigit cX5_isDigit 1 (some .boolean), .instanceMethod yX4_changeValue, .initialized RX4, .selects RX4 yX4_changeValue yX4_changeValue, .code yX4_changeValue cX4_changeValue 3 none, .fieldLink RX4 21 "FuzzyFinder$Pattern" "values" "[I"] ++ wsX20 ++ wsX40)
def wsX2_takeSuffix : List Cond := .code yX2_takeSuffix cX2_takeSuffix 2 (some .boolean) :: ([.fieldLink RX2 18 "FuzzyFinder$ExpressionReader" "state" "I", .methodLink RX2 101 yX2_endSuffix, .instanceMethod yX2_endSuffix, .selects RX2 yX2_endSuffix yX2_endSuffix, .initialized RX2, .code yX2_endSuffix cX2_endSuffix 3 none, .fieldLink RX2 25 "FuzzyFinder$ExpressionReader" "items" "[I", .fieldLink RX2 22 "FuzzyFinder$ExpressionReader" "depth" "I", .fieldLink RX2 12 "FuzzyFinder$ExpressionReader" "draft" "LFuzzyFinder$Pattern;", .instanceMethod yX4_put, .initialized RX4, .selects RX4 yX4_put yX4_put, .code yX4_put cX4_put 6 (some .int), .fieldLink RX4 24 "FuzzyFinder$Pattern" "count" "I", .fieldLink RX4 9 "FuzzyFinder$Pattern" "kinds" "[I", .fieldLink RX4 15 "FuzzyFinder$Pattern" "lefts" "[I", .fieldLink RX4 18 "FuzzyFinder$Pattern" "rights" "[I", .fieldLink RX4 21 "FuzzyFinder$Pattern" "values" "[I"] ++ wsX20 ++ wsX40)
def wsX2_endItem : List Cond := .code yX2_endItem cX2_endItem 3 none :: ([.fieldLink RX2 29 "FuzzyFinder$ExpressionReader" "rows" "[I", .fieldLink RX2 22 "FuzzyFinder$ExpressionReader" "depth" "I", .fieldLink RX2 25 "FuzzyFinder$ExpressionReader" "items" "[I", .fieldLink RX2 12 "FuzzyFinder$ExpressionReader" "draft" "LFuzzyFinder$Pattern;", .instanceMethod yX4_put, .initialized RX4, .selects RX4 yX4_put yX4_put, .code yX4_put cX4_put 6 (some .int), .fieldLink RX4 24 "FuzzyFinder$Pattern" "count" "I", .fieldLink RX4 9 "FuzzyFinder$Pattern" "kinds" "[I", .fieldLink RX4 15 "FuzzyFinder$Pattern" "lefts" "[I", .fieldLink RX4 18 "FuzzyFinder$Pattern" "rights" "[I", .fieldLink RX4 21 "FuzzyFinder$Pattern" "values" "[I"] ++ wsX20 ++ wsX40)
def wsX2_endRow : List Cond := .code yX2_endRow cX2_endRow 3 none :: ([.fieldLink RX2 32 "FuzzyFinder$ExpressionReader" "choices" "[I", .fieldLink RX2 22 "FuzzyFinder$ExpressionReader" "depth" "I", .fieldLink RX2 29 "FuzzyFinder$ExpressionReader" "rows" "[I", .fieldLink RX2 12 "FuzzyFinder$ExpressionReader" "draft" "LFuzzyFinder$Pattern;", .instanceMethod yX4_put, .initialized RX4, .selects RX4 yX4_put yX4_put, .code yX4_put cX4_put 6 (some .int), .fieldLink RX4 24 "FuzzyFinder$Pattern" "count" "I", .fieldLink RX4 9 "FuzzyFinder$Pattern" "kinds" "[I", .fieldLink RX4 15 "FuzzyFinder$Pattern" "lefts" "[I", .fieldLink RX4 18 "FuzzyFinder$Pattern" "rights" "[I", .fieldLink RX4 21 "FuzzyFinder$Pattern" "values" "[I"] ++ wsX20 ++ wsX40)
def wsX2_takeClosing : List Cond := .code yX2_takeClosing cX2_takeClosing 2 (some .boolean) :: ([.fieldLink RX2 22 "FuzzyFinder$ExpressionReader" "depth" "I", .fieldLink RX2 32 "FuzzyFinder$ExpressionReader" "choices" "[I", .fieldLink RX2 25 "FuzzyFinder$ExpressionReader" "items" "[I", .fieldLink RX2 18 "FuzzyFinder$ExpressionReader" "state" "I", .methodLink RX2 58 yX2_endRow, .instanceMethod yX2_endRow, .selects RX2 yX2_endRow yX2_endRow, .initialized RX2, .code yX2_endRow cX2_endRow 3 none, .fieldLink RX2 29 "FuzzyFinder$ExpressionReader" "rows" "[I", .fieldLink RX2 12 "FuzzyFinder$ExpressionReader" "draft" "LFuzzyFinder$Pattern;", .instanceMethod yX4_put, .initialized RX4, .selects RX4 yX4_put yX4_put, .code yX4_put cX4_put 6 (some .int), .fieldLink RX4 24 "FuzzyFinder$Pattern" "count" "I", .fieldLink RX4 9 "FuzzyFinder$Pattern" "kinds" "[I", .fieldLink RX4 15 "FuzzyFinder$Pattern" "lefts" "[I", .fieldLink RX4 18 "FuzzyFinder$Pattern" "rights" "[I", .fieldLink RX4 21 "FuzzyFinder$Pattern" "values" "[I"] ++ wsX20 ++ wsX40)
def wsX2_takeAfterItem_r1 : List Cond := [Cond.fieldLink RX2 18 "FuzzyFinder$ExpressionReader" "state" "I", Cond.methodLink RX2 108 yX2_takeSuffix, Cond.instanceMethod yX2_takeSuffix, Cond.selects RX2 yX2_takeSuffix yX2_takeSuffix, Cond.initialized RX2, Cond.code yX2_takeSuffix cX2_takeSuffix 2 (some .boolean), Cond.methodLink RX2 101 yX2_endSuffix, Cond.instanceMethod yX2_endSuffix, Cond.selects RX2 yX2_endSuffix yX2_endSuffix, Cond.code yX2_endSuffix cX2_endSuffix 3 none, Cond.fieldLink RX2 25 "FuzzyFinder$ExpressionReader" "items" "[I", Cond.fieldLink RX2 22 "FuzzyFinder$ExpressionReader" "depth" "I", Cond.fieldLink RX2 12 "FuzzyFinder$ExpressionReader" "draft" "LFuzzyFinder$Pattern;", Cond.instanceMethod yX4_put, Cond.initialized RX4, Cond.selects RX4 yX4_put yX4_put, Cond.code yX4_put cX4_put 6 (some .int), Cond.fieldLink RX4 24 "FuzzyFinder$Pattern" "count" "I", Cond.fieldLink RX4 9 "FuzzyFinder$Pattern" "kinds" "[I", Cond.fieldLink RX4 15 "FuzzyFinder$Pattern" "lefts" "[I", Cond.fieldLink RX4 18 "FuzzyFinder$Pattern" "rights" "[I", Cond.fieldLink RX4 21 "FuzzyFinder$Pattern" "values" "[I", Cond.methodLink RX2 55 yX2_endItem, Cond.instanceMethod yX2_endItem]
def wsX2_takeAfterItem_r2 : List Cond := [Cond.selects RX2 yX2_endItem yX2_endItem, Cond.code yX2_endItem cX2_endItem 3 none, Cond.fieldLink RX2 29 "FuzzyFinder$ExpressionReader" "rows" "[I", Cond.methodLink RX2 58 yX2_endRow, Cond.instanceMethod yX2_endRow, Cond.selects RX2 yX2_endRow yX2_endRow, Cond.code yX2_endRow cX2_endRow 3 none, Cond.fieldLink RX2 32 "FuzzyFinder$ExpressionReader" "choices" "[I", Cond.methodLink RX2 111 yX2_takeClosing, Cond.instanceMethod yX2_takeClosing, Cond.selects RX2 yX2_takeClosing yX2_takeClosing, Cond.code yX2_takeClosing cX2_takeClosing 2 (some .boolean), Cond.methodLink RX2 61 yX2_takeAtom, Cond.instanceMethod yX2_takeAtom, Cond.selects RX2 yX2_takeAtom yX2_takeAtom, Cond.code yX2_takeAtom cX2_takeAtom 2 (some .boolean), Cond.constant RX2 93 (67108863), Cond.fieldLink RX2 35 "FuzzyFinder$ExpressionReader" "setLetters" "I", Cond.fieldLink RX2 38 "FuzzyFinder$ExpressionReader" "setIsOfOthers" "Z", Cond.static yX5_isLetter, Cond.initialized RX5, Cond.code yX5_isLetter cX5_isLetter 1 (some .boolean), Cond.methodLink RX2 85 yX2_bitOf, Cond.static yX2_bitOf]
def wsX2_takeAfterItem_r3 : List Cond := [Cond.code yX2_bitOf cX2_bitOf 1 (some .int), Cond.methodLink RX2 89 yX2_endAtom, Cond.instanceMethod yX2_endAtom, Cond.selects RX2 yX2_endAtom yX2_endAtom, Cond.code yX2_endAtom cX2_endAtom 2 none, Cond.methodLink RX2 94 yX2_takeOpening, Cond.instanceMethod yX2_takeOpening, Cond.selects RX2 yX2_takeOpening yX2_takeOpening, Cond.code yX2_takeOpening cX2_takeOpening 1 (some .boolean), Cond.methodLink RX2 48 yX2_beginBracket, Cond.instanceMethod yX2_beginBracket, Cond.selects RX2 yX2_beginBracket yX2_beginBracket, Cond.code yX2_beginBracket cX2_beginBracket 1 none]
def wsX2_takeAfterItem : List Cond := .code yX2_takeAfterItem cX2_takeAfterItem 2 (some .boolean) :: ((wsX2_takeAfterItem_r1 ++ (wsX2_takeAfterItem_r2 ++ wsX2_takeAfterItem_r3)) ++ wsX20 ++ wsX40)
def wsX2_takeOthersSign : List Cond := .code yX2_takeOthersSign cX2_takeOthersSign 2 (some .boolean) :: ([.fieldLink RX2 38 "FuzzyFinder$ExpressionReader" "setIsOfOthers" "Z", .fieldLink RX2 18 "FuzzyFinder$ExpressionReader" "state" "I"] ++ wsX20)
def wsX2_takeSetLetter : List Cond := .code yX2_takeSetLetter cX2_takeSetLetter 2 (some .boolean) :: ([.fieldLink RX2 35 "FuzzyFinder$ExpressionReader" "setLetters" "I", .fieldLink RX2 18 "FuzzyFinder$ExpressionReader" "state" "I", .static yX5_isLetter, .initialized RX5, .code yX5_isLetter cX5_isLetter 1 (some .boolean), .methodLink RX2 85 yX2_bitOf, .static yX2_bitOf, .initialized RX2, .code yX2_bitOf cX2_bitOf 1 (some .int)] ++ wsX20)
def wsX2_takeSetEnd : List Cond := .code yX2_takeSetEnd cX2_takeSetEnd 2 (some .boolean) :: ([.fieldLink RX2 38 "FuzzyFinder$ExpressionReader" "setIsOfOthers" "Z", .constant RX2 93 (67108863), .fieldLink RX2 35 "FuzzyFinder$ExpressionReader" "setLetters" "I", .methodLink RX2 89 yX2_endAtom, .instanceMethod yX2_endAtom, .selects RX2 yX2_endAtom yX2_endAtom, .initialized RX2, .code yX2_endAtom cX2_endAtom 2 none, .fieldLink RX2 25 "FuzzyFinder$ExpressionReader" "items" "[I", .fieldLink RX2 22 "FuzzyFinder$ExpressionReader" "depth" "I", .fieldLink RX2 12 "FuzzyFinder$ExpressionReader" "draft" "LFuzzyFinder$Pattern;", .fieldLink RX2 18 "FuzzyFinder$ExpressionReader" "state" "I", .instanceMethod yX4_put, .initialized RX4, .selects RX4 yX4_put yX4_put, .code yX4_put cX4_put 6 (some .int), .fieldLink RX4 24 "FuzzyFinder$Pattern" "count" "I", .fieldLink RX4 9 "FuzzyFinder$Pattern" "kinds" "[I", .fieldLink RX4 15 "FuzzyFinder$Pattern" "lefts" "[I", .fieldLink RX4 18 "FuzzyFinder$Pattern" "rights" "[I", .fieldLink RX4 21 "FuzzyFinder$Pattern" "values" "[I"] ++ wsX20 ++ wsX40)
def wsX2_take_r1 : List Cond := [Cond.fieldLink RX2 18 "FuzzyFinder$ExpressionReader" "state" "I", Cond.methodLink RX2 61 yX2_takeAtom, Cond.instanceMethod yX2_takeAtom, Cond.selects RX2 yX2_takeAtom yX2_takeAtom, Cond.initialized RX2, Cond.code yX2_takeAtom cX2_takeAtom 2 (some .boolean), Cond.constant RX2 93 (67108863), Cond.fieldLink RX2 35 "FuzzyFinder$ExpressionReader" "setLetters" "I", Cond.fieldLink RX2 38 "FuzzyFinder$ExpressionReader" "setIsOfOthers" "Z", Cond.static yX5_isLetter, Cond.initialized RX5, Cond.code yX5_isLetter cX5_isLetter 1 (some .boolean), Cond.methodLink RX2 85 yX2_bitOf, Cond.static yX2_bitOf, Cond.code yX2_bitOf cX2_bitOf 1 (some .int), Cond.methodLink RX2 89 yX2_endAtom, Cond.instanceMethod yX2_endAtom, Cond.selects RX2 yX2_endAtom yX2_endAtom, Cond.code yX2_endAtom cX2_endAtom 2 none, Cond.fieldLink RX2 25 "FuzzyFinder$ExpressionReader" "items" "[I", Cond.fieldLink RX2 22 "FuzzyFinder$ExpressionReader" "depth" "I", Cond.fieldLink RX2 12 "FuzzyFinder$ExpressionReader" "draft" "LFuzzyFinder$Pattern;", Cond.instanceMethod yX4_put, Cond.initialized RX4]
def wsX2_take_r2 : List Cond := [Cond.selects RX4 yX4_put yX4_put, Cond.code yX4_put cX4_put 6 (some .int), Cond.fieldLink RX4 24 "FuzzyFinder$Pattern" "count" "I", Cond.fieldLink RX4 9 "FuzzyFinder$Pattern" "kinds" "[I", Cond.fieldLink RX4 15 "FuzzyFinder$Pattern" "lefts" "[I", Cond.fieldLink RX4 18 "FuzzyFinder$Pattern" "rights" "[I", Cond.fieldLink RX4 21 "FuzzyFinder$Pattern" "values" "[I", Cond.methodLink RX2 94 yX2_takeOpening, Cond.instanceMethod yX2_takeOpening, Cond.selects RX2 yX2_takeOpening yX2_takeOpening, Cond.code yX2_takeOpening cX2_takeOpening 1 (some .boolean), Cond.methodLink RX2 48 yX2_beginBracket, Cond.instanceMethod yX2_beginBracket, Cond.selects RX2 yX2_beginBracket yX2_beginBracket, Cond.code yX2_beginBracket cX2_beginBracket 1 none, Cond.fieldLink RX2 29 "FuzzyFinder$ExpressionReader" "rows" "[I", Cond.fieldLink RX2 32 "FuzzyFinder$ExpressionReader" "choices" "[I", Cond.methodLink RX2 64 yX2_takeFirstDigit, Cond.instanceMethod yX2_takeFirstDigit, Cond.selects RX2 yX2_takeFirstDigit yX2_takeFirstDigit, Cond.code yX2_takeFirstDigit cX2_takeFirstDigit 2 (some .boolean), Cond.fieldLink RX2 42 "FuzzyFinder$ExpressionReader" "limit" "I", Cond.static yX5_isDigit, Cond.code yX5_isDigit cX5_isDigit 1 (some .boolean)]
def wsX2_take_r3 : List Cond := [Cond.methodLink RX2 101 yX2_endSuffix, Cond.instanceMethod yX2_endSuffix, Cond.selects RX2 yX2_endSuffix yX2_endSuffix, Cond.code yX2_endSuffix cX2_endSuffix 3 none, Cond.methodLink RX2 67 yX2_takeSecondDigit, Cond.instanceMethod yX2_takeSecondDigit, Cond.selects RX2 yX2_takeSecondDigit yX2_takeSecondDigit, Cond.code yX2_takeSecondDigit cX2_takeSecondDigit 2 (some .boolean), Cond.instanceMethod yX4_changeValue, Cond.selects RX4 yX4_changeValue yX4_changeValue, Cond.code yX4_changeValue cX4_changeValue 3 none, Cond.methodLink RX2 70 yX2_takeAfterItem, Cond.instanceMethod yX2_takeAfterItem, Cond.selects RX2 yX2_takeAfterItem yX2_takeAfterItem, Cond.code yX2_takeAfterItem cX2_takeAfterItem 2 (some .boolean), Cond.methodLink RX2 108 yX2_takeSuffix, Cond.instanceMethod yX2_takeSuffix, Cond.selects RX2 yX2_takeSuffix yX2_takeSuffix, Cond.code yX2_takeSuffix cX2_takeSuffix 2 (some .boolean), Cond.methodLink RX2 55 yX2_endItem, Cond.instanceMethod yX2_endItem, Cond.selects RX2 yX2_endItem yX2_endItem, Cond.code yX2_endItem cX2_endItem 3 none, Cond.methodLink RX2 58 yX2_endRow]
def wsX2_take_r4 : List Cond := [Cond.instanceMethod yX2_endRow, Cond.selects RX2 yX2_endRow yX2_endRow, Cond.code yX2_endRow cX2_endRow 3 none, Cond.methodLink RX2 111 yX2_takeClosing, Cond.instanceMethod yX2_takeClosing, Cond.selects RX2 yX2_takeClosing yX2_takeClosing, Cond.code yX2_takeClosing cX2_takeClosing 2 (some .boolean), Cond.methodLink RX2 73 yX2_takeOthersSign, Cond.instanceMethod yX2_takeOthersSign, Cond.selects RX2 yX2_takeOthersSign yX2_takeOthersSign, Cond.code yX2_takeOthersSign cX2_takeOthersSign 2 (some .boolean), Cond.methodLink RX2 76 yX2_takeSetLetter, Cond.instanceMethod yX2_takeSetLetter, Cond.selects RX2 yX2_takeSetLetter yX2_takeSetLetter, Cond.code yX2_takeSetLetter cX2_takeSetLetter 2 (some .boolean), Cond.methodLink RX2 79 yX2_takeSetEnd, Cond.instanceMethod yX2_takeSetEnd, Cond.selects RX2 yX2_takeSetEnd yX2_takeSetEnd, Cond.code yX2_takeSetEnd cX2_takeSetEnd 2 (some .boolean)]
def wsX2_take : List Cond := .code yX2_take cX2_take 2 (some .boolean) :: ((wsX2_take_r1 ++ (wsX2_take_r2 ++ (wsX2_take_r3 ++ wsX2_take_r4))) ++ wsX20 ++ wsX40)
def wsX2_read_r1 : List Cond := [Cond.fieldLink RX2 12 "FuzzyFinder$ExpressionReader" "draft" "LFuzzyFinder$Pattern;", Cond.fieldLink RX2 22 "FuzzyFinder$ExpressionReader" "depth" "I", Cond.fieldLink RX2 18 "FuzzyFinder$ExpressionReader" "state" "I", Cond.instanceMethod yX4_clear, Cond.initialized RX4, Cond.selects RX4 yX4_clear yX4_clear, Cond.code yX4_clear cX4_clear 1 none, Cond.fieldLink RX4 24 "FuzzyFinder$Pattern" "count" "I", Cond.methodLink RX2 48 yX2_beginBracket, Cond.instanceMethod yX2_beginBracket, Cond.selects RX2 yX2_beginBracket yX2_beginBracket, Cond.initialized RX2, Cond.code yX2_beginBracket cX2_beginBracket 1 none, Cond.fieldLink RX2 25 "FuzzyFinder$ExpressionReader" "items" "[I", Cond.fieldLink RX2 29 "FuzzyFinder$ExpressionReader" "rows" "[I", Cond.fieldLink RX2 32 "FuzzyFinder$ExpressionReader" "choices" "[I", Cond.methodLink RX2 51 yX2_take, Cond.instanceMethod yX2_take, Cond.selects RX2 yX2_take yX2_take, Cond.code yX2_take cX2_take 2 (some .boolean), Cond.methodLink RX2 61 yX2_takeAtom, Cond.instanceMethod yX2_takeAtom, Cond.selects RX2 yX2_takeAtom yX2_takeAtom, Cond.code yX2_takeAtom cX2_takeAtom 2 (some .boolean)]
def wsX2_read_r2 : List Cond := [Cond.constant RX2 93 (67108863), Cond.fieldLink RX2 35 "FuzzyFinder$ExpressionReader" "setLetters" "I", Cond.fieldLink RX2 38 "FuzzyFinder$ExpressionReader" "setIsOfOthers" "Z", Cond.static yX5_isLetter, Cond.initialized RX5, Cond.code yX5_isLetter cX5_isLetter 1 (some .boolean), Cond.methodLink RX2 85 yX2_bitOf, Cond.static yX2_bitOf, Cond.code yX2_bitOf cX2_bitOf 1 (some .int), Cond.methodLink RX2 89 yX2_endAtom, Cond.instanceMethod yX2_endAtom, Cond.selects RX2 yX2_endAtom yX2_endAtom, Cond.code yX2_endAtom cX2_endAtom 2 none, Cond.instanceMethod yX4_put, Cond.selects RX4 yX4_put yX4_put, Cond.code yX4_put cX4_put 6 (some .int), Cond.fieldLink RX4 9 "FuzzyFinder$Pattern" "kinds" "[I", Cond.fieldLink RX4 15 "FuzzyFinder$Pattern" "lefts" "[I", Cond.fieldLink RX4 18 "FuzzyFinder$Pattern" "rights" "[I", Cond.fieldLink RX4 21 "FuzzyFinder$Pattern" "values" "[I", Cond.methodLink RX2 94 yX2_takeOpening, Cond.instanceMethod yX2_takeOpening, Cond.selects RX2 yX2_takeOpening yX2_takeOpening, Cond.code yX2_takeOpening cX2_takeOpening 1 (some .boolean)]
def wsX2_read_r3 : List Cond := [Cond.methodLink RX2 64 yX2_takeFirstDigit, Cond.instanceMethod yX2_takeFirstDigit, Cond.selects RX2 yX2_takeFirstDigit yX2_takeFirstDigit, Cond.code yX2_takeFirstDigit cX2_takeFirstDigit 2 (some .boolean), Cond.fieldLink RX2 42 "FuzzyFinder$ExpressionReader" "limit" "I", Cond.static yX5_isDigit, Cond.code yX5_isDigit cX5_isDigit 1 (some .boolean), Cond.methodLink RX2 101 yX2_endSuffix, Cond.instanceMethod yX2_endSuffix, Cond.selects RX2 yX2_endSuffix yX2_endSuffix, Cond.code yX2_endSuffix cX2_endSuffix 3 none, Cond.methodLink RX2 67 yX2_takeSecondDigit, Cond.instanceMethod yX2_takeSecondDigit, Cond.selects RX2 yX2_takeSecondDigit yX2_takeSecondDigit, Cond.code yX2_takeSecondDigit cX2_takeSecondDigit 2 (some .boolean), Cond.instanceMethod yX4_changeValue, Cond.selects RX4 yX4_changeValue yX4_changeValue, Cond.code yX4_changeValue cX4_changeValue 3 none, Cond.methodLink RX2 70 yX2_takeAfterItem, Cond.instanceMethod yX2_takeAfterItem, Cond.selects RX2 yX2_takeAfterItem yX2_takeAfterItem, Cond.code yX2_takeAfterItem cX2_takeAfterItem 2 (some .boolean), Cond.methodLink RX2 108 yX2_takeSuffix, Cond.instanceMethod yX2_takeSuffix]
def wsX2_read_r4 : List Cond := [Cond.selects RX2 yX2_takeSuffix yX2_takeSuffix, Cond.code yX2_takeSuffix cX2_takeSuffix 2 (some .boolean), Cond.methodLink RX2 55 yX2_endItem, Cond.instanceMethod yX2_endItem, Cond.selects RX2 yX2_endItem yX2_endItem, Cond.code yX2_endItem cX2_endItem 3 none, Cond.methodLink RX2 58 yX2_endRow, Cond.instanceMethod yX2_endRow, Cond.selects RX2 yX2_endRow yX2_endRow, Cond.code yX2_endRow cX2_endRow 3 none, Cond.methodLink RX2 111 yX2_takeClosing, Cond.instanceMethod yX2_takeClosing, Cond.selects RX2 yX2_takeClosing yX2_takeClosing, Cond.code yX2_takeClosing cX2_takeClosing 2 (some .boolean), Cond.methodLink RX2 73 yX2_takeOthersSign, Cond.instanceMethod yX2_takeOthersSign, Cond.selects RX2 yX2_takeOthersSign yX2_takeOthersSign, Cond.code yX2_takeOthersSign cX2_takeOthersSign 2 (some .boolean), Cond.methodLink RX2 76 yX2_takeSetLetter, Cond.instanceMethod yX2_takeSetLetter, Cond.selects RX2 yX2_takeSetLetter yX2_takeSetLetter, Cond.code yX2_takeSetLetter cX2_takeSetLetter 2 (some .boolean), Cond.methodLink RX2 79 yX2_takeSetEnd, Cond.instanceMethod yX2_takeSetEnd]
def wsX2_read_r5 : List Cond := [Cond.selects RX2 yX2_takeSetEnd yX2_takeSetEnd, Cond.code yX2_takeSetEnd cX2_takeSetEnd 2 (some .boolean)]
def wsX2_read : List Cond := .code yX2_read cX2_read 4 (some .int) :: ((wsX2_read_r1 ++ (wsX2_read_r2 ++ (wsX2_read_r3 ++ (wsX2_read_r4 ++ wsX2_read_r5)))) ++ wsX20 ++ wsX40)
def wsX4_copyFrom : List Cond := .code yX4_copyFrom cX4_copyFrom 4 none :: ([.fieldLink RX4 24 "FuzzyFinder$Pattern" "count" "I", .methodLink RX4 31 Lib.Math.min.name, .static Lib.Math.min.name, .initialized "java/lang/Math", .code Lib.Math.min.name Lib.Math.min.code 2 (some .int), .fieldLink RX4 9 "FuzzyFinder$Pattern" "kinds" "[I", .fieldLink RX4 15 "FuzzyFinder$Pattern" "lefts" "[I", .fieldLink RX4 18 "FuzzyFinder$Pattern" "rights" "[I", .fieldLink RX4 21 "FuzzyFinder$Pattern" "values" "[I", .methodLink RX4 28 yX4_clear, .instanceMethod yX4_clear, .selects RX4 yX4_clear yX4_clear, .initialized RX4, .code yX4_clear cX4_clear 1 none, .methodLink RX4 37 yX4_put, .instanceMethod yX4_put, .selects RX4 yX4_put yX4_put, .code yX4_put cX4_put 6 (some .int)] ++ wsX40)
def wsX5_init_r1 : List Cond := [Cond.methodLink RX5 1 objectInit, Cond.instanceMethod objectInit, Cond.code objectInit ⟨#[0xb1]⟩ 1 none, Cond.arrayClass .char, Cond.fieldLink RX5 9 "FuzzyFinder" "typed" "[C", Cond.fieldLink RX5 13 "FuzzyFinder" "typedCount" "I", Cond.classLink RX5 17 RX2, Cond.instantiable RX2 9, Cond.initialized RX2, Cond.fieldLink RX5 20 "FuzzyFinder" "reader" "LFuzzyFinder$ExpressionReader;", Cond.classLink RX5 24 RX4, Cond.instantiable RX4 5, Cond.initialized RX4, Cond.fieldLink RX5 27 "FuzzyFinder" "pattern" "LFuzzyFinder$Pattern;", Cond.classLink RX5 31 RX3, Cond.instantiable RX3 2, Cond.initialized RX3, Cond.fieldLink RX5 34 "FuzzyFinder" "text" "LFuzzyFinder$Letters;", Cond.classLink RX5 38 RX0, Cond.instantiable RX0 6, Cond.initialized RX0, Cond.fieldLink RX5 41 "FuzzyFinder" "costs" "LFuzzyFinder$CostTable;", Cond.classLink RX5 45 RX1, Cond.instantiable RX1 4]
def wsX5_init_r2 : List Cond := [Cond.initialized RX1, Cond.fieldLink RX5 48 "FuzzyFinder" "dictionary" "LFuzzyFinder$Dictionary;", Cond.fieldLink RX5 52 "FuzzyFinder" "bound" "I", Cond.fieldLink RX5 55 "FuzzyFinder" "foundFrom" "I", Cond.fieldLink RX5 58 "FuzzyFinder" "foundTo" "I", Cond.instanceMethod yX2_init, Cond.code yX2_init cX2_init 1 none, Cond.methodLink RX2 3 objectInit, Cond.classLink RX2 9 RX4, Cond.fieldLink RX2 12 "FuzzyFinder$ExpressionReader" "draft" "LFuzzyFinder$Pattern;", Cond.fieldLink RX2 18 "FuzzyFinder$ExpressionReader" "state" "I", Cond.fieldLink RX2 22 "FuzzyFinder$ExpressionReader" "depth" "I", Cond.arrayClass .int, Cond.fieldLink RX2 25 "FuzzyFinder$ExpressionReader" "items" "[I", Cond.fieldLink RX2 29 "FuzzyFinder$ExpressionReader" "rows" "[I", Cond.fieldLink RX2 32 "FuzzyFinder$ExpressionReader" "choices" "[I", Cond.fieldLink RX2 35 "FuzzyFinder$ExpressionReader" "setLetters" "I", Cond.fieldLink RX2 38 "FuzzyFinder$ExpressionReader" "setIsOfOthers" "Z", Cond.fieldLink RX2 42 "FuzzyFinder$ExpressionReader" "limit" "I", Cond.instanceMethod yX4_init, Cond.code yX4_init cX4_init 1 none, Cond.methodLink RX4 3 objectInit, Cond.fieldLink RX4 9 "FuzzyFinder$Pattern" "kinds" "[I", Cond.fieldLink RX4 15 "FuzzyFinder$Pattern" "lefts" "[I"]
def wsX5_init_r3 : List Cond := [Cond.fieldLink RX4 18 "FuzzyFinder$Pattern" "rights" "[I", Cond.fieldLink RX4 21 "FuzzyFinder$Pattern" "values" "[I", Cond.fieldLink RX4 24 "FuzzyFinder$Pattern" "count" "I", Cond.instanceMethod yX3_init, Cond.code yX3_init cX3_init 1 none, Cond.methodLink RX3 3 objectInit, Cond.fieldLink RX3 9 "FuzzyFinder$Letters" "signs" "[C", Cond.fieldLink RX3 15 "FuzzyFinder$Letters" "count" "I", Cond.instanceMethod yX0_init, Cond.code yX0_init cX0_init 1 none, Cond.methodLink RX0 3 objectInit, Cond.classLink RX0 11 "[[I", Cond.fieldLink RX0 13 "FuzzyFinder$CostTable" "costsOfNodes" "[[I", Cond.fieldLink RX0 16 "FuzzyFinder$CostTable" "chains" "[I", Cond.fieldLink RX0 20 "FuzzyFinder$CostTable" "knownColumns" "I", Cond.fieldLink RX0 24 "FuzzyFinder$CostTable" "added" "I", Cond.fieldLink RX0 27 "FuzzyFinder$CostTable" "missing" "I", Cond.fieldLink RX0 30 "FuzzyFinder$CostTable" "wrong" "I", Cond.instanceMethod yX1_init, Cond.code yX1_init cX1_init 2 none, Cond.methodLink RX1 3 objectInit, Cond.classLink RX1 9 RX3, Cond.fieldLink RX1 11 "FuzzyFinder$Dictionary" "entries" "[LFuzzyFinder$Letters;", Cond.fieldLink RX1 17 "FuzzyFinder$Dictionary" "count" "I"]
def wsX5_init_r4 : List Cond := [Cond.fieldLink RX1 21 "FuzzyFinder$Dictionary" "distances" "[I", Cond.classLink RX1 25 "[[I", Cond.fieldLink RX1 27 "FuzzyFinder$Dictionary" "steps" "[[I"]
def wsX5_init : List Cond := .code yX5_init cX5_init 1 none :: ((wsX5_init_r1 ++ (wsX5_init_r2 ++ (wsX5_init_r3 ++ wsX5_init_r4))) ++ wsX50 ++ wsX20 ++ wsX40 ++ wsX30 ++ wsX00 ++ wsX10)
def wsX5_type : List Cond := .code yX5_type cX5_type 2 (some .boolean) :: ([.fieldLink RX5 13 "FuzzyFinder" "typedCount" "I", .fieldLink RX5 9 "FuzzyFinder" "typed" "[C"] ++ wsX50)
def wsX5_forgetMatch : List Cond := .code yX5_forgetMatch cX5_forgetMatch 1 none :: ([.fieldLink RX5 55 "FuzzyFinder" "foundFrom" "I", .fieldLink RX5 58 "FuzzyFinder" "foundTo" "I"] ++ wsX50)
def wsX5_compile_r1 : List Cond := [Cond.fieldLink RX5 20 "FuzzyFinder" "reader" "LFuzzyFinder$ExpressionReader;", Cond.fieldLink RX5 9 "FuzzyFinder" "typed" "[C", Cond.fieldLink RX5 13 "FuzzyFinder" "typedCount" "I", Cond.fieldLink RX5 27 "FuzzyFinder" "pattern" "LFuzzyFinder$Pattern;", Cond.fieldLink RX5 41 "FuzzyFinder" "costs" "LFuzzyFinder$CostTable;", Cond.instanceMethod yX2_read, Cond.initialized RX2, Cond.selects RX2 yX2_read yX2_read, Cond.code yX2_read cX2_read 4 (some .int), Cond.fieldLink RX2 12 "FuzzyFinder$ExpressionReader" "draft" "LFuzzyFinder$Pattern;", Cond.fieldLink RX2 22 "FuzzyFinder$ExpressionReader" "depth" "I", Cond.fieldLink RX2 18 "FuzzyFinder$ExpressionReader" "state" "I", Cond.instanceMethod yX4_clear, Cond.initialized RX4, Cond.selects RX4 yX4_clear yX4_clear, Cond.code yX4_clear cX4_clear 1 none, Cond.fieldLink RX4 24 "FuzzyFinder$Pattern" "count" "I", Cond.methodLink RX2 48 yX2_beginBracket, Cond.instanceMethod yX2_beginBracket, Cond.selects RX2 yX2_beginBracket yX2_beginBracket, Cond.code yX2_beginBracket cX2_beginBracket 1 none, Cond.fieldLink RX2 25 "FuzzyFinder$ExpressionReader" "items" "[I", Cond.fieldLink RX2 29 "FuzzyFinder$ExpressionReader" "rows" "[I", Cond.fieldLink RX2 32 "FuzzyFinder$ExpressionReader" "choices" "[I"]
def wsX5_compile_r2 : List Cond := [Cond.methodLink RX2 51 yX2_take, Cond.instanceMethod yX2_take, Cond.selects RX2 yX2_take yX2_take, Cond.code yX2_take cX2_take 2 (some .boolean), Cond.methodLink RX2 61 yX2_takeAtom, Cond.instanceMethod yX2_takeAtom, Cond.selects RX2 yX2_takeAtom yX2_takeAtom, Cond.code yX2_takeAtom cX2_takeAtom 2 (some .boolean), Cond.constant RX2 93 (67108863), Cond.fieldLink RX2 35 "FuzzyFinder$ExpressionReader" "setLetters" "I", Cond.fieldLink RX2 38 "FuzzyFinder$ExpressionReader" "setIsOfOthers" "Z", Cond.static yX5_isLetter, Cond.initialized RX5, Cond.code yX5_isLetter cX5_isLetter 1 (some .boolean), Cond.methodLink RX2 85 yX2_bitOf, Cond.static yX2_bitOf, Cond.code yX2_bitOf cX2_bitOf 1 (some .int), Cond.methodLink RX2 89 yX2_endAtom, Cond.instanceMethod yX2_endAtom, Cond.selects RX2 yX2_endAtom yX2_endAtom, Cond.code yX2_endAtom cX2_endAtom 2 none, Cond.instanceMethod yX4_put, Cond.selects RX4 yX4_put yX4_put, Cond.code yX4_put cX4_put 6 (some .int)]
def wsX5_compile_r3 : List Cond := [Cond.fieldLink RX4 9 "FuzzyFinder$Pattern" "kinds" "[I", Cond.fieldLink RX4 15 "FuzzyFinder$Pattern" "lefts" "[I", Cond.fieldLink RX4 18 "FuzzyFinder$Pattern" "rights" "[I", Cond.fieldLink RX4 21 "FuzzyFinder$Pattern" "values" "[I", Cond.methodLink RX2 94 yX2_takeOpening, Cond.instanceMethod yX2_takeOpening, Cond.selects RX2 yX2_takeOpening yX2_takeOpening, Cond.code yX2_takeOpening cX2_takeOpening 1 (some .boolean), Cond.methodLink RX2 64 yX2_takeFirstDigit, Cond.instanceMethod yX2_takeFirstDigit, Cond.selects RX2 yX2_takeFirstDigit yX2_takeFirstDigit, Cond.code yX2_takeFirstDigit cX2_takeFirstDigit 2 (some .boolean), Cond.fieldLink RX2 42 "FuzzyFinder$ExpressionReader" "limit" "I", Cond.static yX5_isDigit, Cond.code yX5_isDigit cX5_isDigit 1 (some .boolean), Cond.methodLink RX2 101 yX2_endSuffix, Cond.instanceMethod yX2_endSuffix, Cond.selects RX2 yX2_endSuffix yX2_endSuffix, Cond.code yX2_endSuffix cX2_endSuffix 3 none, Cond.methodLink RX2 67 yX2_takeSecondDigit, Cond.instanceMethod yX2_takeSecondDigit, Cond.selects RX2 yX2_takeSecondDigit yX2_takeSecondDigit, Cond.code yX2_takeSecondDigit cX2_takeSecondDigit 2 (some .boolean), Cond.instanceMethod yX4_changeValue]
def wsX5_compile_r4 : List Cond := [Cond.selects RX4 yX4_changeValue yX4_changeValue, Cond.code yX4_changeValue cX4_changeValue 3 none, Cond.methodLink RX2 70 yX2_takeAfterItem, Cond.instanceMethod yX2_takeAfterItem, Cond.selects RX2 yX2_takeAfterItem yX2_takeAfterItem, Cond.code yX2_takeAfterItem cX2_takeAfterItem 2 (some .boolean), Cond.methodLink RX2 108 yX2_takeSuffix, Cond.instanceMethod yX2_takeSuffix, Cond.selects RX2 yX2_takeSuffix yX2_takeSuffix, Cond.code yX2_takeSuffix cX2_takeSuffix 2 (some .boolean), Cond.methodLink RX2 55 yX2_endItem, Cond.instanceMethod yX2_endItem, Cond.selects RX2 yX2_endItem yX2_endItem, Cond.code yX2_endItem cX2_endItem 3 none, Cond.methodLink RX2 58 yX2_endRow, Cond.instanceMethod yX2_endRow, Cond.selects RX2 yX2_endRow yX2_endRow, Cond.code yX2_endRow cX2_endRow 3 none, Cond.methodLink RX2 111 yX2_takeClosing, Cond.instanceMethod yX2_takeClosing, Cond.selects RX2 yX2_takeClosing yX2_takeClosing, Cond.code yX2_takeClosing cX2_takeClosing 2 (some .boolean), Cond.methodLink RX2 73 yX2_takeOthersSign, Cond.instanceMethod yX2_takeOthersSign]
def wsX5_compile_r5 : List Cond := [Cond.selects RX2 yX2_takeOthersSign yX2_takeOthersSign, Cond.code yX2_takeOthersSign cX2_takeOthersSign 2 (some .boolean), Cond.methodLink RX2 76 yX2_takeSetLetter, Cond.instanceMethod yX2_takeSetLetter, Cond.selects RX2 yX2_takeSetLetter yX2_takeSetLetter, Cond.code yX2_takeSetLetter cX2_takeSetLetter 2 (some .boolean), Cond.methodLink RX2 79 yX2_takeSetEnd, Cond.instanceMethod yX2_takeSetEnd, Cond.selects RX2 yX2_takeSetEnd yX2_takeSetEnd, Cond.code yX2_takeSetEnd cX2_takeSetEnd 2 (some .boolean), Cond.instanceMethod yX4_copyFrom, Cond.selects RX4 yX4_copyFrom yX4_copyFrom, Cond.code yX4_copyFrom cX4_copyFrom 4 none, Cond.methodLink RX4 31 Lib.Math.min.name, Cond.static Lib.Math.min.name, Cond.initialized "java/lang/Math", Cond.code Lib.Math.min.name Lib.Math.min.code 2 (some .int), Cond.methodLink RX4 28 yX4_clear, Cond.methodLink RX4 37 yX4_put, Cond.instanceMethod yX0_forget, Cond.initialized RX0, Cond.selects RX0 yX0_forget yX0_forget, Cond.code yX0_forget cX0_forget 1 none, Cond.fieldLink RX0 20 "FuzzyFinder$CostTable" "knownColumns" "I"]
def wsX5_compile_r6 : List Cond := [Cond.methodLink RX5 78 yX5_forgetMatch, Cond.instanceMethod yX5_forgetMatch, Cond.selects RX5 yX5_forgetMatch yX5_forgetMatch, Cond.code yX5_forgetMatch cX5_forgetMatch 1 none, Cond.fieldLink RX5 55 "FuzzyFinder" "foundFrom" "I", Cond.fieldLink RX5 58 "FuzzyFinder" "foundTo" "I"]
def wsX5_compile : List Cond := .code yX5_compile cX5_compile 2 (some .int) :: ((wsX5_compile_r1 ++ (wsX5_compile_r2 ++ (wsX5_compile_r3 ++ (wsX5_compile_r4 ++ (wsX5_compile_r5 ++ wsX5_compile_r6))))) ++ wsX50 ++ wsX20 ++ wsX40 ++ wsX00)
def wsX5_nodes : List Cond := .code yX5_nodes cX5_nodes 1 (some .int) :: ([.fieldLink RX5 27 "FuzzyFinder" "pattern" "LFuzzyFinder$Pattern;"] ++ wsX50 ++ wsX40)
def wsX5_isWeight : List Cond := .code yX5_isWeight cX5_isWeight 1 (some .boolean) :: ([])
def wsX5_weights : List Cond := .code yX5_weights cX5_weights 4 (some .boolean) :: ([.fieldLink RX5 41 "FuzzyFinder" "costs" "LFuzzyFinder$CostTable;", .methodLink RX5 81 yX5_isWeight, .static yX5_isWeight, .initialized RX5, .code yX5_isWeight cX5_isWeight 1 (some .boolean), .instanceMethod yX0_weigh, .initialized RX0, .selects RX0 yX0_weigh yX0_weigh, .code yX0_weigh cX0_weigh 4 none, .fieldLink RX0 24 "FuzzyFinder$CostTable" "added" "I", .fieldLink RX0 27 "FuzzyFinder$CostTable" "missing" "I", .fieldLink RX0 30 "FuzzyFinder$CostTable" "wrong" "I", .methodLink RX0 33 yX0_forget, .instanceMethod yX0_forget, .selects RX0 yX0_forget yX0_forget, .code yX0_forget cX0_forget 1 none, .fieldLink RX0 20 "FuzzyFinder$CostTable" "knownColumns" "I", .methodLink RX5 78 yX5_forgetMatch, .instanceMethod yX5_forgetMatch, .selects RX5 yX5_forgetMatch yX5_forgetMatch, .code yX5_forgetMatch cX5_forgetMatch 1 none, .fieldLink RX5 55 "FuzzyFinder" "foundFrom" "I", .fieldLink RX5 58 "FuzzyFinder" "foundTo" "I"] ++ wsX50 ++ wsX00)
def wsX5_bound : List Cond := .code yX5_bound cX5_bound 2 (some .boolean) :: ([.fieldLink RX5 52 "FuzzyFinder" "bound" "I", .methodLink RX5 78 yX5_forgetMatch, .instanceMethod yX5_forgetMatch, .selects RX5 yX5_forgetMatch yX5_forgetMatch, .initialized RX5, .code yX5_forgetMatch cX5_forgetMatch 1 none, .fieldLink RX5 55 "FuzzyFinder" "foundFrom" "I", .fieldLink RX5 58 "FuzzyFinder" "foundTo" "I"] ++ wsX50)
def wsX5_write : List Cond := .code yX5_write cX5_write 2 (some .boolean) :: ([.fieldLink RX5 34 "FuzzyFinder" "text" "LFuzzyFinder$Letters;", .methodLink RX5 89 yX5_isLetter, .static yX5_isLetter, .initialized RX5, .code yX5_isLetter cX5_isLetter 1 (some .boolean), .instanceMethod yX3_append, .initialized RX3, .selects RX3 yX3_append yX3_append, .code yX3_append cX3_append 2 none, .fieldLink RX3 15 "FuzzyFinder$Letters" "count" "I", .fieldLink RX3 9 "FuzzyFinder$Letters" "signs" "[C", .methodLink RX5 78 yX5_forgetMatch, .instanceMethod yX5_forgetMatch, .selects RX5 yX5_forgetMatch yX5_forgetMatch, .code yX5_forgetMatch cX5_forgetMatch 1 none, .fieldLink RX5 55 "FuzzyFinder" "foundFrom" "I", .fieldLink RX5 58 "FuzzyFinder" "foundTo" "I"] ++ wsX50 ++ wsX30)
def wsX5_erase : List Cond := .code yX5_erase cX5_erase 1 none :: ([.fieldLink RX5 34 "FuzzyFinder" "text" "LFuzzyFinder$Letters;", .fieldLink RX5 41 "FuzzyFinder" "costs" "LFuzzyFinder$CostTable;", .instanceMethod yX3_clear, .initialized RX3, .selects RX3 yX3_clear yX3_clear, .code yX3_clear cX3_clear 1 none, .fieldLink RX3 15 "FuzzyFinder$Letters" "count" "I", .instanceMethod yX0_forget, .initialized RX0, .selects RX0 yX0_forget yX0_forget, .code yX0_forget cX0_forget 1 none, .fieldLink RX0 20 "FuzzyFinder$CostTable" "knownColumns" "I", .methodLink RX5 78 yX5_forgetMatch, .instanceMethod yX5_forgetMatch, .selects RX5 yX5_forgetMatch yX5_forgetMatch, .initialized RX5, .code yX5_forgetMatch cX5_forgetMatch 1 none, .fieldLink RX5 55 "FuzzyFinder" "foundFrom" "I", .fieldLink RX5 58 "FuzzyFinder" "foundTo" "I"] ++ wsX50 ++ wsX30 ++ wsX00)
def wsX5_cost_r1 : List Cond := [Cond.fieldLink RX5 27 "FuzzyFinder" "pattern" "LFuzzyFinder$Pattern;", Cond.fieldLink RX5 34 "FuzzyFinder" "text" "LFuzzyFinder$Letters;", Cond.fieldLink RX5 41 "FuzzyFinder" "costs" "LFuzzyFinder$CostTable;", Cond.constant RX5 109 (268435456), Cond.instanceMethod yX0_learn, Cond.initialized RX0, Cond.selects RX0 yX0_learn yX0_learn, Cond.code yX0_learn cX0_learn 5 none, Cond.fieldLink RX0 20 "FuzzyFinder$CostTable" "knownColumns" "I", Cond.methodLink RX0 44 yX0_fillColumn, Cond.instanceMethod yX0_fillColumn, Cond.selects RX0 yX0_fillColumn yX0_fillColumn, Cond.code yX0_fillColumn cX0_fillColumn 9 none, Cond.fieldLink RX0 13 "FuzzyFinder$CostTable" "costsOfNodes" "[[I", Cond.methodLink RX0 59 yX0_fillLetter, Cond.instanceMethod yX0_fillLetter, Cond.selects RX0 yX0_fillLetter yX0_fillLetter, Cond.code yX0_fillLetter cX0_fillLetter 9 none, Cond.fieldLink RX0 27 "FuzzyFinder$CostTable" "missing" "I", Cond.fieldLink RX0 24 "FuzzyFinder$CostTable" "added" "I", Cond.fieldLink RX0 30 "FuzzyFinder$CostTable" "wrong" "I", Cond.methodLink RX0 99 Lib.Math.min.name, Cond.static Lib.Math.min.name, Cond.initialized "java/lang/Math"]
def wsX5_cost_r2 : List Cond := [Cond.code Lib.Math.min.name Lib.Math.min.code 2 (some .int), Cond.methodLink RX0 49 yX0_pieceAt, Cond.static yX0_pieceAt, Cond.code yX0_pieceAt cX0_pieceAt 2 (some .int), Cond.instanceMethod yX3_letterAt, Cond.initialized RX3, Cond.selects RX3 yX3_letterAt yX3_letterAt, Cond.code yX3_letterAt cX3_letterAt 2 (some .char), Cond.fieldLink RX3 15 "FuzzyFinder$Letters" "count" "I", Cond.fieldLink RX3 9 "FuzzyFinder$Letters" "signs" "[C", Cond.methodLink RX0 66 yX0_operand, Cond.static yX0_operand, Cond.code yX0_operand cX0_operand 2 (some .int), Cond.methodLink RX0 72 yX0_fillRow, Cond.instanceMethod yX0_fillRow, Cond.selects RX0 yX0_fillRow yX0_fillRow, Cond.code yX0_fillRow cX0_fillRow 8 none, Cond.constant RX0 48 (268435456), Cond.methodLink RX0 76 yX0_fillEither, Cond.instanceMethod yX0_fillEither, Cond.selects RX0 yX0_fillEither yX0_fillEither, Cond.code yX0_fillEither cX0_fillEither 6 none, Cond.methodLink RX0 79 yX0_fillMaybe, Cond.instanceMethod yX0_fillMaybe]
def wsX5_cost_r3 : List Cond := [Cond.selects RX0 yX0_fillMaybe yX0_fillMaybe, Cond.code yX0_fillMaybe cX0_fillMaybe 5 none, Cond.methodLink RX0 83 yX0_fillLimit, Cond.instanceMethod yX0_fillLimit, Cond.selects RX0 yX0_fillLimit yX0_fillLimit, Cond.code yX0_fillLimit cX0_fillLimit 7 none, Cond.methodLink RX0 87 yX0_fillChains, Cond.instanceMethod yX0_fillChains, Cond.selects RX0 yX0_fillChains yX0_fillChains, Cond.code yX0_fillChains cX0_fillChains 6 none, Cond.fieldLink RX0 16 "FuzzyFinder$CostTable" "chains" "[I", Cond.methodLink RX0 91 yX0_fillRepeated, Cond.instanceMethod yX0_fillRepeated, Cond.selects RX0 yX0_fillRepeated yX0_fillRepeated, Cond.code yX0_fillRepeated cX0_fillRepeated 6 none, Cond.instanceMethod yX0_ofWhole, Cond.selects RX0 yX0_ofWhole yX0_ofWhole, Cond.code yX0_ofWhole cX0_ofWhole 4 (some .int)]
def wsX5_cost : List Cond := .code yX5_cost cX5_cost 4 (some .int) :: ((wsX5_cost_r1 ++ (wsX5_cost_r2 ++ wsX5_cost_r3)) ++ wsX50 ++ wsX40 ++ wsX30 ++ wsX00)
def wsX5_find_r1 : List Cond := [Cond.fieldLink RX5 27 "FuzzyFinder" "pattern" "LFuzzyFinder$Pattern;", Cond.fieldLink RX5 41 "FuzzyFinder" "costs" "LFuzzyFinder$CostTable;", Cond.fieldLink RX5 34 "FuzzyFinder" "text" "LFuzzyFinder$Letters;", Cond.fieldLink RX5 52 "FuzzyFinder" "bound" "I", Cond.fieldLink RX5 55 "FuzzyFinder" "foundFrom" "I", Cond.fieldLink RX5 58 "FuzzyFinder" "foundTo" "I", Cond.methodLink RX5 78 yX5_forgetMatch, Cond.instanceMethod yX5_forgetMatch, Cond.selects RX5 yX5_forgetMatch yX5_forgetMatch, Cond.initialized RX5, Cond.code yX5_forgetMatch cX5_forgetMatch 1 none, Cond.instanceMethod yX0_learn, Cond.initialized RX0, Cond.selects RX0 yX0_learn yX0_learn, Cond.code yX0_learn cX0_learn 5 none, Cond.fieldLink RX0 20 "FuzzyFinder$CostTable" "knownColumns" "I", Cond.methodLink RX0 44 yX0_fillColumn, Cond.instanceMethod yX0_fillColumn, Cond.selects RX0 yX0_fillColumn yX0_fillColumn, Cond.code yX0_fillColumn cX0_fillColumn 9 none, Cond.fieldLink RX0 13 "FuzzyFinder$CostTable" "costsOfNodes" "[[I", Cond.methodLink RX0 59 yX0_fillLetter, Cond.instanceMethod yX0_fillLetter, Cond.selects RX0 yX0_fillLetter yX0_fillLetter]
def wsX5_find_r2 : List Cond := [Cond.code yX0_fillLetter cX0_fillLetter 9 none, Cond.fieldLink RX0 27 "FuzzyFinder$CostTable" "missing" "I", Cond.fieldLink RX0 24 "FuzzyFinder$CostTable" "added" "I", Cond.fieldLink RX0 30 "FuzzyFinder$CostTable" "wrong" "I", Cond.methodLink RX0 99 Lib.Math.min.name, Cond.static Lib.Math.min.name, Cond.initialized "java/lang/Math", Cond.code Lib.Math.min.name Lib.Math.min.code 2 (some .int), Cond.methodLink RX0 49 yX0_pieceAt, Cond.static yX0_pieceAt, Cond.code yX0_pieceAt cX0_pieceAt 2 (some .int), Cond.instanceMethod yX3_letterAt, Cond.initialized RX3, Cond.selects RX3 yX3_letterAt yX3_letterAt, Cond.code yX3_letterAt cX3_letterAt 2 (some .char), Cond.fieldLink RX3 15 "FuzzyFinder$Letters" "count" "I", Cond.fieldLink RX3 9 "FuzzyFinder$Letters" "signs" "[C", Cond.methodLink RX0 66 yX0_operand, Cond.static yX0_operand, Cond.code yX0_operand cX0_operand 2 (some .int), Cond.methodLink RX0 72 yX0_fillRow, Cond.instanceMethod yX0_fillRow, Cond.selects RX0 yX0_fillRow yX0_fillRow, Cond.code yX0_fillRow cX0_fillRow 8 none]
def wsX5_find_r3 : List Cond := [Cond.constant RX0 48 (268435456), Cond.methodLink RX0 76 yX0_fillEither, Cond.instanceMethod yX0_fillEither, Cond.selects RX0 yX0_fillEither yX0_fillEither, Cond.code yX0_fillEither cX0_fillEither 6 none, Cond.methodLink RX0 79 yX0_fillMaybe, Cond.instanceMethod yX0_fillMaybe, Cond.selects RX0 yX0_fillMaybe yX0_fillMaybe, Cond.code yX0_fillMaybe cX0_fillMaybe 5 none, Cond.methodLink RX0 83 yX0_fillLimit, Cond.instanceMethod yX0_fillLimit, Cond.selects RX0 yX0_fillLimit yX0_fillLimit, Cond.code yX0_fillLimit cX0_fillLimit 7 none, Cond.methodLink RX0 87 yX0_fillChains, Cond.instanceMethod yX0_fillChains, Cond.selects RX0 yX0_fillChains yX0_fillChains, Cond.code yX0_fillChains cX0_fillChains 6 none, Cond.fieldLink RX0 16 "FuzzyFinder$CostTable" "chains" "[I", Cond.methodLink RX0 91 yX0_fillRepeated, Cond.instanceMethod yX0_fillRepeated, Cond.selects RX0 yX0_fillRepeated yX0_fillRepeated, Cond.code yX0_fillRepeated cX0_fillRepeated 6 none, Cond.instanceMethod yX0_ofWhole, Cond.selects RX0 yX0_ofWhole yX0_ofWhole]
def wsX5_find_r4 : List Cond := [Cond.code yX0_ofWhole cX0_ofWhole 4 (some .int)]
def wsX5_find : List Cond := .code yX5_find cX5_find 6 (some .int) :: ((wsX5_find_r1 ++ (wsX5_find_r2 ++ (wsX5_find_r3 ++ wsX5_find_r4))) ++ wsX50 ++ wsX40 ++ wsX30 ++ wsX00)
def wsX5_from : List Cond := .code yX5_from cX5_from 1 (some .int) :: ([.fieldLink RX5 55 "FuzzyFinder" "foundFrom" "I"] ++ wsX50)
def wsX5_to : List Cond := .code yX5_to cX5_to 1 (some .int) :: ([.fieldLink RX5 58 "FuzzyFinder" "foundTo" "I"] ++ wsX50)
def wsX5_ends_r1 : List Cond := [Cond.fieldLink RX5 27 "FuzzyFinder" "pattern" "LFuzzyFinder$Pattern;", Cond.fieldLink RX5 41 "FuzzyFinder" "costs" "LFuzzyFinder$CostTable;", Cond.fieldLink RX5 34 "FuzzyFinder" "text" "LFuzzyFinder$Letters;", Cond.fieldLink RX5 52 "FuzzyFinder" "bound" "I", Cond.instanceMethod yX0_learn, Cond.initialized RX0, Cond.selects RX0 yX0_learn yX0_learn, Cond.code yX0_learn cX0_learn 5 none, Cond.fieldLink RX0 20 "FuzzyFinder$CostTable" "knownColumns" "I", Cond.methodLink RX0 44 yX0_fillColumn, Cond.instanceMethod yX0_fillColumn, Cond.selects RX0 yX0_fillColumn yX0_fillColumn, Cond.code yX0_fillColumn cX0_fillColumn 9 none, Cond.fieldLink RX0 13 "FuzzyFinder$CostTable" "costsOfNodes" "[[I", Cond.methodLink RX0 59 yX0_fillLetter, Cond.instanceMethod yX0_fillLetter, Cond.selects RX0 yX0_fillLetter yX0_fillLetter, Cond.code yX0_fillLetter cX0_fillLetter 9 none, Cond.fieldLink RX0 27 "FuzzyFinder$CostTable" "missing" "I", Cond.fieldLink RX0 24 "FuzzyFinder$CostTable" "added" "I", Cond.fieldLink RX0 30 "FuzzyFinder$CostTable" "wrong" "I", Cond.methodLink RX0 99 Lib.Math.min.name, Cond.static Lib.Math.min.name, Cond.initialized "java/lang/Math"]
def wsX5_ends_r2 : List Cond := [Cond.code Lib.Math.min.name Lib.Math.min.code 2 (some .int), Cond.methodLink RX0 49 yX0_pieceAt, Cond.static yX0_pieceAt, Cond.code yX0_pieceAt cX0_pieceAt 2 (some .int), Cond.instanceMethod yX3_letterAt, Cond.initialized RX3, Cond.selects RX3 yX3_letterAt yX3_letterAt, Cond.code yX3_letterAt cX3_letterAt 2 (some .char), Cond.fieldLink RX3 15 "FuzzyFinder$Letters" "count" "I", Cond.fieldLink RX3 9 "FuzzyFinder$Letters" "signs" "[C", Cond.methodLink RX0 66 yX0_operand, Cond.static yX0_operand, Cond.code yX0_operand cX0_operand 2 (some .int), Cond.methodLink RX0 72 yX0_fillRow, Cond.instanceMethod yX0_fillRow, Cond.selects RX0 yX0_fillRow yX0_fillRow, Cond.code yX0_fillRow cX0_fillRow 8 none, Cond.constant RX0 48 (268435456), Cond.methodLink RX0 76 yX0_fillEither, Cond.instanceMethod yX0_fillEither, Cond.selects RX0 yX0_fillEither yX0_fillEither, Cond.code yX0_fillEither cX0_fillEither 6 none, Cond.methodLink RX0 79 yX0_fillMaybe, Cond.instanceMethod yX0_fillMaybe]
def wsX5_ends_r3 : List Cond := [Cond.selects RX0 yX0_fillMaybe yX0_fillMaybe, Cond.code yX0_fillMaybe cX0_fillMaybe 5 none, Cond.methodLink RX0 83 yX0_fillLimit, Cond.instanceMethod yX0_fillLimit, Cond.selects RX0 yX0_fillLimit yX0_fillLimit, Cond.code yX0_fillLimit cX0_fillLimit 7 none, Cond.methodLink RX0 87 yX0_fillChains, Cond.instanceMethod yX0_fillChains, Cond.selects RX0 yX0_fillChains yX0_fillChains, Cond.code yX0_fillChains cX0_fillChains 6 none, Cond.fieldLink RX0 16 "FuzzyFinder$CostTable" "chains" "[I", Cond.methodLink RX0 91 yX0_fillRepeated, Cond.instanceMethod yX0_fillRepeated, Cond.selects RX0 yX0_fillRepeated yX0_fillRepeated, Cond.code yX0_fillRepeated cX0_fillRepeated 6 none, Cond.instanceMethod yX0_ofWhole, Cond.selects RX0 yX0_ofWhole yX0_ofWhole, Cond.code yX0_ofWhole cX0_ofWhole 4 (some .int)]
def wsX5_ends : List Cond := .code yX5_ends cX5_ends 4 (some .int) :: ((wsX5_ends_r1 ++ (wsX5_ends_r2 ++ wsX5_ends_r3)) ++ wsX50 ++ wsX40 ++ wsX30 ++ wsX00)
def wsX5_add_r1 : List Cond := [Cond.fieldLink RX5 48 "FuzzyFinder" "dictionary" "LFuzzyFinder$Dictionary;", Cond.fieldLink RX5 34 "FuzzyFinder" "text" "LFuzzyFinder$Letters;", Cond.instanceMethod yX1_keep, Cond.initialized RX1, Cond.selects RX1 yX1_keep yX1_keep, Cond.code yX1_keep cX1_keep 3 (some .int), Cond.fieldLink RX1 17 "FuzzyFinder$Dictionary" "count" "I", Cond.fieldLink RX1 11 "FuzzyFinder$Dictionary" "entries" "[LFuzzyFinder$Letters;", Cond.methodLink RX1 32 yX1_holds, Cond.instanceMethod yX1_holds, Cond.selects RX1 yX1_holds yX1_holds, Cond.code yX1_holds cX1_holds 3 (some .boolean), Cond.instanceMethod yX3_compareWith, Cond.initialized RX3, Cond.selects RX3 yX3_compareWith yX3_compareWith, Cond.code yX3_compareWith cX3_compareWith 5 (some .int), Cond.fieldLink RX3 15 "FuzzyFinder$Letters" "count" "I", Cond.methodLink RX3 30 Lib.Math.min.name, Cond.static Lib.Math.min.name, Cond.initialized "java/lang/Math", Cond.code Lib.Math.min.name Lib.Math.min.code 2 (some .int), Cond.methodLink RX3 22 yX3_letterAt, Cond.instanceMethod yX3_letterAt, Cond.selects RX3 yX3_letterAt yX3_letterAt]
def wsX5_add_r2 : List Cond := [Cond.code yX3_letterAt cX3_letterAt 2 (some .char), Cond.fieldLink RX3 9 "FuzzyFinder$Letters" "signs" "[C", Cond.instanceMethod yX3_copyFrom, Cond.selects RX3 yX3_copyFrom yX3_copyFrom, Cond.code yX3_copyFrom cX3_copyFrom 3 none, Cond.methodLink RX3 19 yX3_clear, Cond.instanceMethod yX3_clear, Cond.selects RX3 yX3_clear yX3_clear, Cond.code yX3_clear cX3_clear 1 none, Cond.methodLink RX3 26 yX3_append, Cond.instanceMethod yX3_append, Cond.selects RX3 yX3_append yX3_append, Cond.code yX3_append cX3_append 2 none]
def wsX5_add : List Cond := .code yX5_add cX5_add 1 (some .int) :: ((wsX5_add_r1 ++ wsX5_add_r2) ++ wsX50 ++ wsX30 ++ wsX10)
def wsX5_words : List Cond := .code yX5_words cX5_words 1 (some .int) :: ([.fieldLink RX5 48 "FuzzyFinder" "dictionary" "LFuzzyFinder$Dictionary;"] ++ wsX50 ++ wsX10)
def wsX5_distance_r1 : List Cond := [Cond.fieldLink RX5 48 "FuzzyFinder" "dictionary" "LFuzzyFinder$Dictionary;", Cond.fieldLink RX5 34 "FuzzyFinder" "text" "LFuzzyFinder$Letters;", Cond.instanceMethod yX1_distanceOf, Cond.initialized RX1, Cond.selects RX1 yX1_distanceOf yX1_distanceOf, Cond.code yX1_distanceOf cX1_distanceOf 7 (some .int), Cond.fieldLink RX1 17 "FuzzyFinder$Dictionary" "count" "I", Cond.fieldLink RX1 11 "FuzzyFinder$Dictionary" "entries" "[LFuzzyFinder$Letters;", Cond.fieldLink RX1 27 "FuzzyFinder$Dictionary" "steps" "[[I", Cond.methodLink RX1 44 yX1_leastSteps, Cond.instanceMethod yX1_leastSteps, Cond.selects RX1 yX1_leastSteps yX1_leastSteps, Cond.code yX1_leastSteps cX1_leastSteps 8 (some .int), Cond.methodLink RX1 48 Lib.Math.max.name, Cond.static Lib.Math.max.name, Cond.initialized "java/lang/Math", Cond.code Lib.Math.max.name Lib.Math.max.code 2 (some .int), Cond.methodLink RX1 54 Lib.Math.min.name, Cond.static Lib.Math.min.name, Cond.code Lib.Math.min.name Lib.Math.min.code 2 (some .int), Cond.instanceMethod yX3_letterAt, Cond.initialized RX3, Cond.selects RX3 yX3_letterAt yX3_letterAt, Cond.code yX3_letterAt cX3_letterAt 2 (some .char)]
def wsX5_distance_r2 : List Cond := [Cond.fieldLink RX3 15 "FuzzyFinder$Letters" "count" "I", Cond.fieldLink RX3 9 "FuzzyFinder$Letters" "signs" "[C", Cond.methodLink RX1 61 yX1_areExchanged, Cond.static yX1_areExchanged, Cond.code yX1_areExchanged cX1_areExchanged 4 (some .boolean)]
def wsX5_distance : List Cond := .code yX5_distance cX5_distance 3 (some .int) :: ((wsX5_distance_r1 ++ wsX5_distance_r2) ++ wsX50 ++ wsX10 ++ wsX30)
def wsX5_near_r1 : List Cond := [Cond.fieldLink RX5 48 "FuzzyFinder" "dictionary" "LFuzzyFinder$Dictionary;", Cond.fieldLink RX5 34 "FuzzyFinder" "text" "LFuzzyFinder$Letters;", Cond.instanceMethod yX1_countWithin, Cond.initialized RX1, Cond.selects RX1 yX1_countWithin yX1_countWithin, Cond.code yX1_countWithin cX1_countWithin 6 (some .int), Cond.fieldLink RX1 17 "FuzzyFinder$Dictionary" "count" "I", Cond.methodLink RX1 65 yX1_distanceOf, Cond.instanceMethod yX1_distanceOf, Cond.selects RX1 yX1_distanceOf yX1_distanceOf, Cond.code yX1_distanceOf cX1_distanceOf 7 (some .int), Cond.fieldLink RX1 11 "FuzzyFinder$Dictionary" "entries" "[LFuzzyFinder$Letters;", Cond.fieldLink RX1 27 "FuzzyFinder$Dictionary" "steps" "[[I", Cond.methodLink RX1 44 yX1_leastSteps, Cond.instanceMethod yX1_leastSteps, Cond.selects RX1 yX1_leastSteps yX1_leastSteps, Cond.code yX1_leastSteps cX1_leastSteps 8 (some .int), Cond.methodLink RX1 48 Lib.Math.max.name, Cond.static Lib.Math.max.name, Cond.initialized "java/lang/Math", Cond.code Lib.Math.max.name Lib.Math.max.code 2 (some .int), Cond.methodLink RX1 54 Lib.Math.min.name, Cond.static Lib.Math.min.name, Cond.code Lib.Math.min.name Lib.Math.min.code 2 (some .int)]
def wsX5_near_r2 : List Cond := [Cond.instanceMethod yX3_letterAt, Cond.initialized RX3, Cond.selects RX3 yX3_letterAt yX3_letterAt, Cond.code yX3_letterAt cX3_letterAt 2 (some .char), Cond.fieldLink RX3 15 "FuzzyFinder$Letters" "count" "I", Cond.fieldLink RX3 9 "FuzzyFinder$Letters" "signs" "[C", Cond.methodLink RX1 61 yX1_areExchanged, Cond.static yX1_areExchanged, Cond.code yX1_areExchanged cX1_areExchanged 4 (some .boolean)]
def wsX5_near : List Cond := .code yX5_near cX5_near 3 (some .int) :: ((wsX5_near_r1 ++ wsX5_near_r2) ++ wsX50 ++ wsX10 ++ wsX30)
def wsX5_rank_r1 : List Cond := [Cond.fieldLink RX5 48 "FuzzyFinder" "dictionary" "LFuzzyFinder$Dictionary;", Cond.fieldLink RX5 34 "FuzzyFinder" "text" "LFuzzyFinder$Letters;", Cond.instanceMethod yX1_wordAtRank, Cond.initialized RX1, Cond.selects RX1 yX1_wordAtRank yX1_wordAtRank, Cond.code yX1_wordAtRank cX1_wordAtRank 5 (some .int), Cond.fieldLink RX1 17 "FuzzyFinder$Dictionary" "count" "I", Cond.fieldLink RX1 21 "FuzzyFinder$Dictionary" "distances" "[I", Cond.methodLink RX1 65 yX1_distanceOf, Cond.instanceMethod yX1_distanceOf, Cond.selects RX1 yX1_distanceOf yX1_distanceOf, Cond.code yX1_distanceOf cX1_distanceOf 7 (some .int), Cond.fieldLink RX1 11 "FuzzyFinder$Dictionary" "entries" "[LFuzzyFinder$Letters;", Cond.fieldLink RX1 27 "FuzzyFinder$Dictionary" "steps" "[[I", Cond.methodLink RX1 44 yX1_leastSteps, Cond.instanceMethod yX1_leastSteps, Cond.selects RX1 yX1_leastSteps yX1_leastSteps, Cond.code yX1_leastSteps cX1_leastSteps 8 (some .int), Cond.methodLink RX1 48 Lib.Math.max.name, Cond.static Lib.Math.max.name, Cond.initialized "java/lang/Math", Cond.code Lib.Math.max.name Lib.Math.max.code 2 (some .int), Cond.methodLink RX1 54 Lib.Math.min.name, Cond.static Lib.Math.min.name]
def wsX5_rank_r2 : List Cond := [Cond.code Lib.Math.min.name Lib.Math.min.code 2 (some .int), Cond.instanceMethod yX3_letterAt, Cond.initialized RX3, Cond.selects RX3 yX3_letterAt yX3_letterAt, Cond.code yX3_letterAt cX3_letterAt 2 (some .char), Cond.fieldLink RX3 15 "FuzzyFinder$Letters" "count" "I", Cond.fieldLink RX3 9 "FuzzyFinder$Letters" "signs" "[C", Cond.methodLink RX1 61 yX1_areExchanged, Cond.static yX1_areExchanged, Cond.code yX1_areExchanged cX1_areExchanged 4 (some .boolean), Cond.methodLink RX1 69 yX1_rankOf, Cond.instanceMethod yX1_rankOf, Cond.selects RX1 yX1_rankOf yX1_rankOf, Cond.code yX1_rankOf cX1_rankOf 4 (some .int), Cond.methodLink RX1 73 yX1_comesBefore, Cond.instanceMethod yX1_comesBefore, Cond.selects RX1 yX1_comesBefore yX1_comesBefore, Cond.code yX1_comesBefore cX1_comesBefore 3 (some .boolean), Cond.instanceMethod yX3_compareWith, Cond.selects RX3 yX3_compareWith yX3_compareWith, Cond.code yX3_compareWith cX3_compareWith 5 (some .int), Cond.methodLink RX3 30 Lib.Math.min.name, Cond.methodLink RX3 22 yX3_letterAt]
def wsX5_rank : List Cond := .code yX5_rank cX5_rank 3 (some .int) :: ((wsX5_rank_r1 ++ wsX5_rank_r2) ++ wsX50 ++ wsX10 ++ wsX30)
def wsX6_init : List Cond := .code yX6_init cX6_init 1 none :: ([.methodLink RX6 1 objectInit, .instanceMethod objectInit, .code objectInit ⟨#[0xb1]⟩ 1 none, .arrayClass .int, .fieldLink RX6 7 "FuzzyFinderModel" "chars" "[I", .fieldLink RX6 13 "FuzzyFinderModel" "kind" "[I", .fieldLink RX6 16 "FuzzyFinderModel" "left" "[I", .fieldLink RX6 19 "FuzzyFinderModel" "right" "[I", .fieldLink RX6 22 "FuzzyFinderModel" "freshKind" "[I", .fieldLink RX6 25 "FuzzyFinderModel" "freshLeft" "[I", .fieldLink RX6 28 "FuzzyFinderModel" "freshRight" "[I", .fieldLink RX6 31 "FuzzyFinderModel" "waiting" "[I", .fieldLink RX6 34 "FuzzyFinderModel" "whole" "[I", .fieldLink RX6 37 "FuzzyFinderModel" "added" "I", .fieldLink RX6 41 "FuzzyFinderModel" "missing" "I", .fieldLink RX6 44 "FuzzyFinderModel" "wrong" "I", .fieldLink RX6 47 "FuzzyFinderModel" "text" "[I", .fieldLink RX6 50 "FuzzyFinderModel" "costs" "[I", .fieldLink RX6 53 "FuzzyFinderModel" "foundFrom" "I", .fieldLink RX6 56 "FuzzyFinderModel" "foundTo" "I", .fieldLink RX6 59 "FuzzyFinderModel" "size" "[I", .fieldLink RX6 62 "FuzzyFinderModel" "letter" "[I", .fieldLink RX6 65 "FuzzyFinderModel" "steps" "[I"] ++ wsX60)
def wsX6_type : List Cond := .code yX6_type cX6_type 2 (some .boolean) :: ([.fieldLink RX6 68 "FuzzyFinderModel" "typed" "I", .fieldLink RX6 7 "FuzzyFinderModel" "chars" "[I"] ++ wsX60)
def wsX6_small : List Cond := .code yX6_small cX6_small 1 (some .boolean) :: ([])
def wsX6_next : List Cond := .code yX6_next cX6_next 4 (some .int) :: ([.methodLink RX6 71 yX6_small, .static yX6_small, .initialized RX6, .code yX6_small cX6_small 1 (some .boolean)])
def wsX6_fault : List Cond := .code yX6_fault cX6_fault 6 (some .int) :: ([.fieldLink RX6 68 "FuzzyFinderModel" "typed" "I", .fieldLink RX6 7 "FuzzyFinderModel" "chars" "[I", .methodLink RX6 75 yX6_next, .static yX6_next, .initialized RX6, .code yX6_next cX6_next 4 (some .int), .methodLink RX6 71 yX6_small, .static yX6_small, .code yX6_small cX6_small 1 (some .boolean)] ++ wsX60)
def wsX6_make : List Cond := .code yX6_make cX6_make 4 none :: ([.fieldLink RX6 22 "FuzzyFinderModel" "freshKind" "[I", .fieldLink RX6 79 "FuzzyFinderModel" "fresh" "I", .fieldLink RX6 25 "FuzzyFinderModel" "freshLeft" "[I", .fieldLink RX6 28 "FuzzyFinderModel" "freshRight" "[I", .fieldLink RX6 34 "FuzzyFinderModel" "whole" "[I", .fieldLink RX6 82 "FuzzyFinderModel" "wholes" "I"] ++ wsX60)
def wsX6_join : List Cond := .code yX6_join cX6_join 4 none :: ([.fieldLink RX6 85 "FuzzyFinderModel" "waits" "I", .fieldLink RX6 31 "FuzzyFinderModel" "waiting" "[I", .fieldLink RX6 82 "FuzzyFinderModel" "wholes" "I", .fieldLink RX6 34 "FuzzyFinderModel" "whole" "[I", .methodLink RX6 88 yX6_make, .instanceMethod yX6_make, .selects RX6 yX6_make yX6_make, .initialized RX6, .code yX6_make cX6_make 4 none, .fieldLink RX6 22 "FuzzyFinderModel" "freshKind" "[I", .fieldLink RX6 79 "FuzzyFinderModel" "fresh" "I", .fieldLink RX6 25 "FuzzyFinderModel" "freshLeft" "[I", .fieldLink RX6 28 "FuzzyFinderModel" "freshRight" "[I"] ++ wsX60)
def wsX6_hold : List Cond := .code yX6_hold cX6_hold 2 none :: ([.fieldLink RX6 31 "FuzzyFinderModel" "waiting" "[I", .fieldLink RX6 85 "FuzzyFinderModel" "waits" "I"] ++ wsX60)
def wsX6_suffix : List Cond := .code yX6_suffix cX6_suffix 3 none :: ([.fieldLink RX6 82 "FuzzyFinderModel" "wholes" "I", .fieldLink RX6 34 "FuzzyFinderModel" "whole" "[I", .methodLink RX6 88 yX6_make, .instanceMethod yX6_make, .selects RX6 yX6_make yX6_make, .initialized RX6, .code yX6_make cX6_make 4 none, .fieldLink RX6 22 "FuzzyFinderModel" "freshKind" "[I", .fieldLink RX6 79 "FuzzyFinderModel" "fresh" "I", .fieldLink RX6 25 "FuzzyFinderModel" "freshLeft" "[I", .fieldLink RX6 28 "FuzzyFinderModel" "freshRight" "[I"] ++ wsX60)
def wsX6_item : List Cond := .code yX6_item cX6_item 2 none :: ([.methodLink RX6 92 yX6_join, .instanceMethod yX6_join, .selects RX6 yX6_join yX6_join, .initialized RX6, .code yX6_join cX6_join 4 none, .fieldLink RX6 85 "FuzzyFinderModel" "waits" "I", .fieldLink RX6 31 "FuzzyFinderModel" "waiting" "[I", .fieldLink RX6 82 "FuzzyFinderModel" "wholes" "I", .fieldLink RX6 34 "FuzzyFinderModel" "whole" "[I", .methodLink RX6 88 yX6_make, .instanceMethod yX6_make, .selects RX6 yX6_make yX6_make, .code yX6_make cX6_make 4 none, .fieldLink RX6 22 "FuzzyFinderModel" "freshKind" "[I", .fieldLink RX6 79 "FuzzyFinderModel" "fresh" "I", .fieldLink RX6 25 "FuzzyFinderModel" "freshLeft" "[I", .fieldLink RX6 28 "FuzzyFinderModel" "freshRight" "[I", .methodLink RX6 96 yX6_hold, .instanceMethod yX6_hold, .selects RX6 yX6_hold yX6_hold, .code yX6_hold cX6_hold 2 none] ++ wsX60)
def wsX6_set : List Cond := .code yX6_set cX6_set 4 (some .int) :: ([.fieldLink RX6 7 "FuzzyFinderModel" "chars" "[I", .fieldLink RX6 99 "FuzzyFinderModel" "letters" "I", .constant RX6 102 (67108863)] ++ wsX60)
def wsX6_read_r1 : List Cond := [Cond.fieldLink RX6 79 "FuzzyFinderModel" "fresh" "I", Cond.fieldLink RX6 85 "FuzzyFinderModel" "waits" "I", Cond.fieldLink RX6 82 "FuzzyFinderModel" "wholes" "I", Cond.fieldLink RX6 68 "FuzzyFinderModel" "typed" "I", Cond.fieldLink RX6 7 "FuzzyFinderModel" "chars" "[I", Cond.constant RX6 102 (67108863), Cond.fieldLink RX6 99 "FuzzyFinderModel" "letters" "I", Cond.methodLink RX6 92 yX6_join, Cond.instanceMethod yX6_join, Cond.selects RX6 yX6_join yX6_join, Cond.initialized RX6, Cond.code yX6_join cX6_join 4 none, Cond.fieldLink RX6 31 "FuzzyFinderModel" "waiting" "[I", Cond.fieldLink RX6 34 "FuzzyFinderModel" "whole" "[I", Cond.methodLink RX6 88 yX6_make, Cond.instanceMethod yX6_make, Cond.selects RX6 yX6_make yX6_make, Cond.code yX6_make cX6_make 4 none, Cond.fieldLink RX6 22 "FuzzyFinderModel" "freshKind" "[I", Cond.fieldLink RX6 25 "FuzzyFinderModel" "freshLeft" "[I", Cond.fieldLink RX6 28 "FuzzyFinderModel" "freshRight" "[I", Cond.methodLink RX6 96 yX6_hold, Cond.instanceMethod yX6_hold, Cond.selects RX6 yX6_hold yX6_hold]
def wsX6_read_r2 : List Cond := [Cond.code yX6_hold cX6_hold 2 none, Cond.methodLink RX6 103 yX6_item, Cond.instanceMethod yX6_item, Cond.selects RX6 yX6_item yX6_item, Cond.code yX6_item cX6_item 2 none, Cond.methodLink RX6 107 yX6_suffix, Cond.instanceMethod yX6_suffix, Cond.selects RX6 yX6_suffix yX6_suffix, Cond.code yX6_suffix cX6_suffix 3 none, Cond.methodLink RX6 111 yX6_set, Cond.instanceMethod yX6_set, Cond.selects RX6 yX6_set yX6_set, Cond.code yX6_set cX6_set 4 (some .int)]
def wsX6_read : List Cond := .code yX6_read cX6_read 5 none :: ((wsX6_read_r1 ++ wsX6_read_r2) ++ wsX60)
def wsX6_changed : List Cond := .code yX6_changed cX6_changed 1 none :: ([.fieldLink RX6 128 "FuzzyFinderModel" "known" "Z", .fieldLink RX6 53 "FuzzyFinderModel" "foundFrom" "I", .fieldLink RX6 56 "FuzzyFinderModel" "foundTo" "I"] ++ wsX60)
def wsX6_compile_r1 : List Cond := [Cond.fieldLink RX6 68 "FuzzyFinderModel" "typed" "I", Cond.fieldLink RX6 79 "FuzzyFinderModel" "fresh" "I", Cond.fieldLink RX6 122 "FuzzyFinderModel" "nodes" "I", Cond.fieldLink RX6 13 "FuzzyFinderModel" "kind" "[I", Cond.fieldLink RX6 22 "FuzzyFinderModel" "freshKind" "[I", Cond.fieldLink RX6 16 "FuzzyFinderModel" "left" "[I", Cond.fieldLink RX6 25 "FuzzyFinderModel" "freshLeft" "[I", Cond.fieldLink RX6 19 "FuzzyFinderModel" "right" "[I", Cond.fieldLink RX6 28 "FuzzyFinderModel" "freshRight" "[I", Cond.methodLink RX6 115 yX6_fault, Cond.instanceMethod yX6_fault, Cond.selects RX6 yX6_fault yX6_fault, Cond.initialized RX6, Cond.code yX6_fault cX6_fault 6 (some .int), Cond.fieldLink RX6 7 "FuzzyFinderModel" "chars" "[I", Cond.methodLink RX6 75 yX6_next, Cond.static yX6_next, Cond.code yX6_next cX6_next 4 (some .int), Cond.methodLink RX6 71 yX6_small, Cond.static yX6_small, Cond.code yX6_small cX6_small 1 (some .boolean), Cond.methodLink RX6 119 yX6_read, Cond.instanceMethod yX6_read, Cond.selects RX6 yX6_read yX6_read]
def wsX6_compile_r2 : List Cond := [Cond.code yX6_read cX6_read 5 none, Cond.fieldLink RX6 85 "FuzzyFinderModel" "waits" "I", Cond.fieldLink RX6 82 "FuzzyFinderModel" "wholes" "I", Cond.constant RX6 102 (67108863), Cond.fieldLink RX6 99 "FuzzyFinderModel" "letters" "I", Cond.methodLink RX6 92 yX6_join, Cond.instanceMethod yX6_join, Cond.selects RX6 yX6_join yX6_join, Cond.code yX6_join cX6_join 4 none, Cond.fieldLink RX6 31 "FuzzyFinderModel" "waiting" "[I", Cond.fieldLink RX6 34 "FuzzyFinderModel" "whole" "[I", Cond.methodLink RX6 88 yX6_make, Cond.instanceMethod yX6_make, Cond.selects RX6 yX6_make yX6_make, Cond.code yX6_make cX6_make 4 none, Cond.methodLink RX6 96 yX6_hold, Cond.instanceMethod yX6_hold, Cond.selects RX6 yX6_hold yX6_hold, Cond.code yX6_hold cX6_hold 2 none, Cond.methodLink RX6 103 yX6_item, Cond.instanceMethod yX6_item, Cond.selects RX6 yX6_item yX6_item, Cond.code yX6_item cX6_item 2 none, Cond.methodLink RX6 107 yX6_suffix]
def wsX6_compile_r3 : List Cond := [Cond.instanceMethod yX6_suffix, Cond.selects RX6 yX6_suffix yX6_suffix, Cond.code yX6_suffix cX6_suffix 3 none, Cond.methodLink RX6 111 yX6_set, Cond.instanceMethod yX6_set, Cond.selects RX6 yX6_set yX6_set, Cond.code yX6_set cX6_set 4 (some .int), Cond.methodLink RX6 125 yX6_changed, Cond.instanceMethod yX6_changed, Cond.selects RX6 yX6_changed yX6_changed, Cond.code yX6_changed cX6_changed 1 none, Cond.fieldLink RX6 128 "FuzzyFinderModel" "known" "Z", Cond.fieldLink RX6 53 "FuzzyFinderModel" "foundFrom" "I", Cond.fieldLink RX6 56 "FuzzyFinderModel" "foundTo" "I"]
def wsX6_compile : List Cond := .code yX6_compile cX6_compile 3 (some .int) :: ((wsX6_compile_r1 ++ (wsX6_compile_r2 ++ wsX6_compile_r3)) ++ wsX60)
def wsX6_nodes : List Cond := .code yX6_nodes cX6_nodes 1 (some .int) :: ([.fieldLink RX6 122 "FuzzyFinderModel" "nodes" "I"] ++ wsX60)
def wsX6_weights : List Cond := .code yX6_weights cX6_weights 4 (some .boolean) :: ([.fieldLink RX6 37 "FuzzyFinderModel" "added" "I", .fieldLink RX6 41 "FuzzyFinderModel" "missing" "I", .fieldLink RX6 44 "FuzzyFinderModel" "wrong" "I", .methodLink RX6 125 yX6_changed, .instanceMethod yX6_changed, .selects RX6 yX6_changed yX6_changed, .initialized RX6, .code yX6_changed cX6_changed 1 none, .fieldLink RX6 128 "FuzzyFinderModel" "known" "Z", .fieldLink RX6 53 "FuzzyFinderModel" "foundFrom" "I", .fieldLink RX6 56 "FuzzyFinderModel" "foundTo" "I"] ++ wsX60)
def wsX6_bound : List Cond := .code yX6_bound cX6_bound 2 (some .boolean) :: ([.fieldLink RX6 132 "FuzzyFinderModel" "most" "I", .methodLink RX6 125 yX6_changed, .instanceMethod yX6_changed, .selects RX6 yX6_changed yX6_changed, .initialized RX6, .code yX6_changed cX6_changed 1 none, .fieldLink RX6 128 "FuzzyFinderModel" "known" "Z", .fieldLink RX6 53 "FuzzyFinderModel" "foundFrom" "I", .fieldLink RX6 56 "FuzzyFinderModel" "foundTo" "I"] ++ wsX60)
def wsX6_write : List Cond := .code yX6_write cX6_write 2 (some .boolean) :: ([.fieldLink RX6 135 "FuzzyFinderModel" "length" "I", .fieldLink RX6 47 "FuzzyFinderModel" "text" "[I", .methodLink RX6 71 yX6_small, .static yX6_small, .initialized RX6, .code yX6_small cX6_small 1 (some .boolean), .methodLink RX6 125 yX6_changed, .instanceMethod yX6_changed, .selects RX6 yX6_changed yX6_changed, .code yX6_changed cX6_changed 1 none, .fieldLink RX6 128 "FuzzyFinderModel" "known" "Z", .fieldLink RX6 53 "FuzzyFinderModel" "foundFrom" "I", .fieldLink RX6 56 "FuzzyFinderModel" "foundTo" "I"] ++ wsX60)
def wsX6_erase : List Cond := .code yX6_erase cX6_erase 1 none :: ([.fieldLink RX6 135 "FuzzyFinderModel" "length" "I", .methodLink RX6 125 yX6_changed, .instanceMethod yX6_changed, .selects RX6 yX6_changed yX6_changed, .initialized RX6, .code yX6_changed cX6_changed 1 none, .fieldLink RX6 128 "FuzzyFinderModel" "known" "Z", .fieldLink RX6 53 "FuzzyFinderModel" "foundFrom" "I", .fieldLink RX6 56 "FuzzyFinderModel" "foundTo" "I"] ++ wsX60)
def wsX6_costOf : List Cond := .code yX6_costOf cX6_costOf 4 (some .int) :: ([.fieldLink RX6 50 "FuzzyFinderModel" "costs" "[I"] ++ wsX60)
def wsX6_sum : List Cond := .code yX6_sum cX6_sum 2 (some .int) :: ([.constant RX6 138 (1000000)])
def wsX6_ofSet : List Cond := .code yX6_ofSet cX6_ofSet 8 (some .int) :: ([.fieldLink RX6 41 "FuzzyFinderModel" "missing" "I", .fieldLink RX6 37 "FuzzyFinderModel" "added" "I", .fieldLink RX6 47 "FuzzyFinderModel" "text" "[I", .fieldLink RX6 44 "FuzzyFinderModel" "wrong" "I"] ++ wsX60)
def wsX6_ofRow : List Cond := .code yX6_ofRow cX6_ofRow 8 (some .int) :: ([.constant RX6 138 (1000000), .methodLink RX6 139 yX6_costOf, .instanceMethod yX6_costOf, .selects RX6 yX6_costOf yX6_costOf, .initialized RX6, .code yX6_costOf cX6_costOf 4 (some .int), .fieldLink RX6 50 "FuzzyFinderModel" "costs" "[I", .methodLink RX6 142 yX6_sum, .static yX6_sum, .code yX6_sum cX6_sum 2 (some .int)] ++ wsX60)
def wsX6_ofPlus : List Cond := .code yX6_ofPlus cX6_ofPlus 8 (some .int) :: ([.methodLink RX6 139 yX6_costOf, .instanceMethod yX6_costOf, .selects RX6 yX6_costOf yX6_costOf, .initialized RX6, .code yX6_costOf cX6_costOf 4 (some .int), .fieldLink RX6 50 "FuzzyFinderModel" "costs" "[I", .methodLink RX6 142 yX6_sum, .static yX6_sum, .code yX6_sum cX6_sum 2 (some .int), .constant RX6 138 (1000000)] ++ wsX60)
def wsX6_ofNode_r1 : List Cond := [Cond.fieldLink RX6 16 "FuzzyFinderModel" "left" "[I", Cond.fieldLink RX6 19 "FuzzyFinderModel" "right" "[I", Cond.fieldLink RX6 13 "FuzzyFinderModel" "kind" "[I", Cond.fieldLink RX6 37 "FuzzyFinderModel" "added" "I", Cond.constant RX6 138 (1000000), Cond.methodLink RX6 146 yX6_ofSet, Cond.instanceMethod yX6_ofSet, Cond.selects RX6 yX6_ofSet yX6_ofSet, Cond.initialized RX6, Cond.code yX6_ofSet cX6_ofSet 8 (some .int), Cond.fieldLink RX6 41 "FuzzyFinderModel" "missing" "I", Cond.fieldLink RX6 47 "FuzzyFinderModel" "text" "[I", Cond.fieldLink RX6 44 "FuzzyFinderModel" "wrong" "I", Cond.methodLink RX6 149 yX6_ofRow, Cond.instanceMethod yX6_ofRow, Cond.selects RX6 yX6_ofRow yX6_ofRow, Cond.code yX6_ofRow cX6_ofRow 8 (some .int), Cond.methodLink RX6 139 yX6_costOf, Cond.instanceMethod yX6_costOf, Cond.selects RX6 yX6_costOf yX6_costOf, Cond.code yX6_costOf cX6_costOf 4 (some .int), Cond.fieldLink RX6 50 "FuzzyFinderModel" "costs" "[I", Cond.methodLink RX6 142 yX6_sum, Cond.static yX6_sum]
def wsX6_ofNode_r2 : List Cond := [Cond.code yX6_sum cX6_sum 2 (some .int), Cond.methodLink RX6 153 yX6_ofPlus, Cond.instanceMethod yX6_ofPlus, Cond.selects RX6 yX6_ofPlus yX6_ofPlus, Cond.code yX6_ofPlus cX6_ofPlus 8 (some .int)]
def wsX6_ofNode : List Cond := .code yX6_ofNode cX6_ofNode 6 (some .int) :: ((wsX6_ofNode_r1 ++ wsX6_ofNode_r2) ++ wsX60)
def wsX6_work_r1 : List Cond := [Cond.fieldLink RX6 128 "FuzzyFinderModel" "known" "Z", Cond.fieldLink RX6 122 "FuzzyFinderModel" "nodes" "I", Cond.fieldLink RX6 135 "FuzzyFinderModel" "length" "I", Cond.fieldLink RX6 50 "FuzzyFinderModel" "costs" "[I", Cond.fieldLink RX6 13 "FuzzyFinderModel" "kind" "[I", Cond.fieldLink RX6 37 "FuzzyFinderModel" "added" "I", Cond.methodLink RX6 156 yX6_ofNode, Cond.instanceMethod yX6_ofNode, Cond.selects RX6 yX6_ofNode yX6_ofNode, Cond.initialized RX6, Cond.code yX6_ofNode cX6_ofNode 6 (some .int), Cond.fieldLink RX6 16 "FuzzyFinderModel" "left" "[I", Cond.fieldLink RX6 19 "FuzzyFinderModel" "right" "[I", Cond.constant RX6 138 (1000000), Cond.methodLink RX6 146 yX6_ofSet, Cond.instanceMethod yX6_ofSet, Cond.selects RX6 yX6_ofSet yX6_ofSet, Cond.code yX6_ofSet cX6_ofSet 8 (some .int), Cond.fieldLink RX6 41 "FuzzyFinderModel" "missing" "I", Cond.fieldLink RX6 47 "FuzzyFinderModel" "text" "[I", Cond.fieldLink RX6 44 "FuzzyFinderModel" "wrong" "I", Cond.methodLink RX6 149 yX6_ofRow, Cond.instanceMethod yX6_ofRow, Cond.selects RX6 yX6_ofRow yX6_ofRow]
def wsX6_work_r2 : List Cond := [Cond.code yX6_ofRow cX6_ofRow 8 (some .int), Cond.methodLink RX6 139 yX6_costOf, Cond.instanceMethod yX6_costOf, Cond.selects RX6 yX6_costOf yX6_costOf, Cond.code yX6_costOf cX6_costOf 4 (some .int), Cond.methodLink RX6 142 yX6_sum, Cond.static yX6_sum, Cond.code yX6_sum cX6_sum 2 (some .int), Cond.methodLink RX6 153 yX6_ofPlus, Cond.instanceMethod yX6_ofPlus, Cond.selects RX6 yX6_ofPlus yX6_ofPlus, Cond.code yX6_ofPlus cX6_ofPlus 8 (some .int)]
def wsX6_work : List Cond := .code yX6_work cX6_work 5 none :: ((wsX6_work_r1 ++ wsX6_work_r2) ++ wsX60)
def wsX6_cost_r1 : List Cond := [Cond.fieldLink RX6 122 "FuzzyFinderModel" "nodes" "I", Cond.fieldLink RX6 135 "FuzzyFinderModel" "length" "I", Cond.constant RX6 138 (1000000), Cond.methodLink RX6 159 yX6_work, Cond.instanceMethod yX6_work, Cond.selects RX6 yX6_work yX6_work, Cond.initialized RX6, Cond.code yX6_work cX6_work 5 none, Cond.fieldLink RX6 128 "FuzzyFinderModel" "known" "Z", Cond.fieldLink RX6 50 "FuzzyFinderModel" "costs" "[I", Cond.fieldLink RX6 13 "FuzzyFinderModel" "kind" "[I", Cond.fieldLink RX6 37 "FuzzyFinderModel" "added" "I", Cond.methodLink RX6 156 yX6_ofNode, Cond.instanceMethod yX6_ofNode, Cond.selects RX6 yX6_ofNode yX6_ofNode, Cond.code yX6_ofNode cX6_ofNode 6 (some .int), Cond.fieldLink RX6 16 "FuzzyFinderModel" "left" "[I", Cond.fieldLink RX6 19 "FuzzyFinderModel" "right" "[I", Cond.methodLink RX6 146 yX6_ofSet, Cond.instanceMethod yX6_ofSet, Cond.selects RX6 yX6_ofSet yX6_ofSet, Cond.code yX6_ofSet cX6_ofSet 8 (some .int), Cond.fieldLink RX6 41 "FuzzyFinderModel" "missing" "I", Cond.fieldLink RX6 47 "FuzzyFinderModel" "text" "[I"]
def wsX6_cost_r2 : List Cond := [Cond.fieldLink RX6 44 "FuzzyFinderModel" "wrong" "I", Cond.methodLink RX6 149 yX6_ofRow, Cond.instanceMethod yX6_ofRow, Cond.selects RX6 yX6_ofRow yX6_ofRow, Cond.code yX6_ofRow cX6_ofRow 8 (some .int), Cond.methodLink RX6 139 yX6_costOf, Cond.instanceMethod yX6_costOf, Cond.selects RX6 yX6_costOf yX6_costOf, Cond.code yX6_costOf cX6_costOf 4 (some .int), Cond.methodLink RX6 142 yX6_sum, Cond.static yX6_sum, Cond.code yX6_sum cX6_sum 2 (some .int), Cond.methodLink RX6 153 yX6_ofPlus, Cond.instanceMethod yX6_ofPlus, Cond.selects RX6 yX6_ofPlus yX6_ofPlus, Cond.code yX6_ofPlus cX6_ofPlus 8 (some .int)]
def wsX6_cost : List Cond := .code yX6_cost cX6_cost 4 (some .int) :: ((wsX6_cost_r1 ++ wsX6_cost_r2) ++ wsX60)
def wsX6_matches_r1 : List Cond := [Cond.fieldLink RX6 132 "FuzzyFinderModel" "most" "I", Cond.methodLink RX6 162 yX6_cost, Cond.instanceMethod yX6_cost, Cond.selects RX6 yX6_cost yX6_cost, Cond.initialized RX6, Cond.code yX6_cost cX6_cost 4 (some .int), Cond.fieldLink RX6 122 "FuzzyFinderModel" "nodes" "I", Cond.fieldLink RX6 135 "FuzzyFinderModel" "length" "I", Cond.constant RX6 138 (1000000), Cond.methodLink RX6 159 yX6_work, Cond.instanceMethod yX6_work, Cond.selects RX6 yX6_work yX6_work, Cond.code yX6_work cX6_work 5 none, Cond.fieldLink RX6 128 "FuzzyFinderModel" "known" "Z", Cond.fieldLink RX6 50 "FuzzyFinderModel" "costs" "[I", Cond.fieldLink RX6 13 "FuzzyFinderModel" "kind" "[I", Cond.fieldLink RX6 37 "FuzzyFinderModel" "added" "I", Cond.methodLink RX6 156 yX6_ofNode, Cond.instanceMethod yX6_ofNode, Cond.selects RX6 yX6_ofNode yX6_ofNode, Cond.code yX6_ofNode cX6_ofNode 6 (some .int), Cond.fieldLink RX6 16 "FuzzyFinderModel" "left" "[I", Cond.fieldLink RX6 19 "FuzzyFinderModel" "right" "[I", Cond.methodLink RX6 146 yX6_ofSet]
def wsX6_matches_r2 : List Cond := [Cond.instanceMethod yX6_ofSet, Cond.selects RX6 yX6_ofSet yX6_ofSet, Cond.code yX6_ofSet cX6_ofSet 8 (some .int), Cond.fieldLink RX6 41 "FuzzyFinderModel" "missing" "I", Cond.fieldLink RX6 47 "FuzzyFinderModel" "text" "[I", Cond.fieldLink RX6 44 "FuzzyFinderModel" "wrong" "I", Cond.methodLink RX6 149 yX6_ofRow, Cond.instanceMethod yX6_ofRow, Cond.selects RX6 yX6_ofRow yX6_ofRow, Cond.code yX6_ofRow cX6_ofRow 8 (some .int), Cond.methodLink RX6 139 yX6_costOf, Cond.instanceMethod yX6_costOf, Cond.selects RX6 yX6_costOf yX6_costOf, Cond.code yX6_costOf cX6_costOf 4 (some .int), Cond.methodLink RX6 142 yX6_sum, Cond.static yX6_sum, Cond.code yX6_sum cX6_sum 2 (some .int), Cond.methodLink RX6 153 yX6_ofPlus, Cond.instanceMethod yX6_ofPlus, Cond.selects RX6 yX6_ofPlus yX6_ofPlus, Cond.code yX6_ofPlus cX6_ofPlus 8 (some .int)]
def wsX6_matches : List Cond := .code yX6_matches cX6_matches 4 (some .boolean) :: ((wsX6_matches_r1 ++ wsX6_matches_r2) ++ wsX60)
def wsX6_before_r1 : List Cond := [Cond.methodLink RX6 162 yX6_cost, Cond.instanceMethod yX6_cost, Cond.selects RX6 yX6_cost yX6_cost, Cond.initialized RX6, Cond.code yX6_cost cX6_cost 4 (some .int), Cond.fieldLink RX6 122 "FuzzyFinderModel" "nodes" "I", Cond.fieldLink RX6 135 "FuzzyFinderModel" "length" "I", Cond.constant RX6 138 (1000000), Cond.methodLink RX6 159 yX6_work, Cond.instanceMethod yX6_work, Cond.selects RX6 yX6_work yX6_work, Cond.code yX6_work cX6_work 5 none, Cond.fieldLink RX6 128 "FuzzyFinderModel" "known" "Z", Cond.fieldLink RX6 50 "FuzzyFinderModel" "costs" "[I", Cond.fieldLink RX6 13 "FuzzyFinderModel" "kind" "[I", Cond.fieldLink RX6 37 "FuzzyFinderModel" "added" "I", Cond.methodLink RX6 156 yX6_ofNode, Cond.instanceMethod yX6_ofNode, Cond.selects RX6 yX6_ofNode yX6_ofNode, Cond.code yX6_ofNode cX6_ofNode 6 (some .int), Cond.fieldLink RX6 16 "FuzzyFinderModel" "left" "[I", Cond.fieldLink RX6 19 "FuzzyFinderModel" "right" "[I", Cond.methodLink RX6 146 yX6_ofSet, Cond.instanceMethod yX6_ofSet]
def wsX6_before_r2 : List Cond := [Cond.selects RX6 yX6_ofSet yX6_ofSet, Cond.code yX6_ofSet cX6_ofSet 8 (some .int), Cond.fieldLink RX6 41 "FuzzyFinderModel" "missing" "I", Cond.fieldLink RX6 47 "FuzzyFinderModel" "text" "[I", Cond.fieldLink RX6 44 "FuzzyFinderModel" "wrong" "I", Cond.methodLink RX6 149 yX6_ofRow, Cond.instanceMethod yX6_ofRow, Cond.selects RX6 yX6_ofRow yX6_ofRow, Cond.code yX6_ofRow cX6_ofRow 8 (some .int), Cond.methodLink RX6 139 yX6_costOf, Cond.instanceMethod yX6_costOf, Cond.selects RX6 yX6_costOf yX6_costOf, Cond.code yX6_costOf cX6_costOf 4 (some .int), Cond.methodLink RX6 142 yX6_sum, Cond.static yX6_sum, Cond.code yX6_sum cX6_sum 2 (some .int), Cond.methodLink RX6 153 yX6_ofPlus, Cond.instanceMethod yX6_ofPlus, Cond.selects RX6 yX6_ofPlus yX6_ofPlus, Cond.code yX6_ofPlus cX6_ofPlus 8 (some .int)]
def wsX6_before : List Cond := .code yX6_before cX6_before 8 (some .boolean) :: ((wsX6_before_r1 ++ wsX6_before_r2) ++ wsX60)
def wsX6_find_r1 : List Cond := [Cond.fieldLink RX6 53 "FuzzyFinderModel" "foundFrom" "I", Cond.fieldLink RX6 56 "FuzzyFinderModel" "foundTo" "I", Cond.fieldLink RX6 135 "FuzzyFinderModel" "length" "I", Cond.methodLink RX6 165 yX6_matches, Cond.instanceMethod yX6_matches, Cond.selects RX6 yX6_matches yX6_matches, Cond.initialized RX6, Cond.code yX6_matches cX6_matches 4 (some .boolean), Cond.fieldLink RX6 132 "FuzzyFinderModel" "most" "I", Cond.methodLink RX6 162 yX6_cost, Cond.instanceMethod yX6_cost, Cond.selects RX6 yX6_cost yX6_cost, Cond.code yX6_cost cX6_cost 4 (some .int), Cond.fieldLink RX6 122 "FuzzyFinderModel" "nodes" "I", Cond.constant RX6 138 (1000000), Cond.methodLink RX6 159 yX6_work, Cond.instanceMethod yX6_work, Cond.selects RX6 yX6_work yX6_work, Cond.code yX6_work cX6_work 5 none, Cond.fieldLink RX6 128 "FuzzyFinderModel" "known" "Z", Cond.fieldLink RX6 50 "FuzzyFinderModel" "costs" "[I", Cond.fieldLink RX6 13 "FuzzyFinderModel" "kind" "[I", Cond.fieldLink RX6 37 "FuzzyFinderModel" "added" "I", Cond.methodLink RX6 156 yX6_ofNode]
def wsX6_find_r2 : List Cond := [Cond.instanceMethod yX6_ofNode, Cond.selects RX6 yX6_ofNode yX6_ofNode, Cond.code yX6_ofNode cX6_ofNode 6 (some .int), Cond.fieldLink RX6 16 "FuzzyFinderModel" "left" "[I", Cond.fieldLink RX6 19 "FuzzyFinderModel" "right" "[I", Cond.methodLink RX6 146 yX6_ofSet, Cond.instanceMethod yX6_ofSet, Cond.selects RX6 yX6_ofSet yX6_ofSet, Cond.code yX6_ofSet cX6_ofSet 8 (some .int), Cond.fieldLink RX6 41 "FuzzyFinderModel" "missing" "I", Cond.fieldLink RX6 47 "FuzzyFinderModel" "text" "[I", Cond.fieldLink RX6 44 "FuzzyFinderModel" "wrong" "I", Cond.methodLink RX6 149 yX6_ofRow, Cond.instanceMethod yX6_ofRow, Cond.selects RX6 yX6_ofRow yX6_ofRow, Cond.code yX6_ofRow cX6_ofRow 8 (some .int), Cond.methodLink RX6 139 yX6_costOf, Cond.instanceMethod yX6_costOf, Cond.selects RX6 yX6_costOf yX6_costOf, Cond.code yX6_costOf cX6_costOf 4 (some .int), Cond.methodLink RX6 142 yX6_sum, Cond.static yX6_sum, Cond.code yX6_sum cX6_sum 2 (some .int), Cond.methodLink RX6 153 yX6_ofPlus]
def wsX6_find_r3 : List Cond := [Cond.instanceMethod yX6_ofPlus, Cond.selects RX6 yX6_ofPlus yX6_ofPlus, Cond.code yX6_ofPlus cX6_ofPlus 8 (some .int), Cond.methodLink RX6 169 yX6_before, Cond.instanceMethod yX6_before, Cond.selects RX6 yX6_before yX6_before, Cond.code yX6_before cX6_before 8 (some .boolean)]
def wsX6_find : List Cond := .code yX6_find cX6_find 4 (some .int) :: ((wsX6_find_r1 ++ (wsX6_find_r2 ++ wsX6_find_r3)) ++ wsX60)
def wsX6_from : List Cond := .code yX6_from cX6_from 1 (some .int) :: ([.fieldLink RX6 53 "FuzzyFinderModel" "foundFrom" "I"] ++ wsX60)
def wsX6_to : List Cond := .code yX6_to cX6_to 1 (some .int) :: ([.fieldLink RX6 56 "FuzzyFinderModel" "foundTo" "I"] ++ wsX60)
def wsX6_ends_r1 : List Cond := [Cond.fieldLink RX6 135 "FuzzyFinderModel" "length" "I", Cond.methodLink RX6 165 yX6_matches, Cond.instanceMethod yX6_matches, Cond.selects RX6 yX6_matches yX6_matches, Cond.initialized RX6, Cond.code yX6_matches cX6_matches 4 (some .boolean), Cond.fieldLink RX6 132 "FuzzyFinderModel" "most" "I", Cond.methodLink RX6 162 yX6_cost, Cond.instanceMethod yX6_cost, Cond.selects RX6 yX6_cost yX6_cost, Cond.code yX6_cost cX6_cost 4 (some .int), Cond.fieldLink RX6 122 "FuzzyFinderModel" "nodes" "I", Cond.constant RX6 138 (1000000), Cond.methodLink RX6 159 yX6_work, Cond.instanceMethod yX6_work, Cond.selects RX6 yX6_work yX6_work, Cond.code yX6_work cX6_work 5 none, Cond.fieldLink RX6 128 "FuzzyFinderModel" "known" "Z", Cond.fieldLink RX6 50 "FuzzyFinderModel" "costs" "[I", Cond.fieldLink RX6 13 "FuzzyFinderModel" "kind" "[I", Cond.fieldLink RX6 37 "FuzzyFinderModel" "added" "I", Cond.methodLink RX6 156 yX6_ofNode, Cond.instanceMethod yX6_ofNode, Cond.selects RX6 yX6_ofNode yX6_ofNode]
def wsX6_ends_r2 : List Cond := [Cond.code yX6_ofNode cX6_ofNode 6 (some .int), Cond.fieldLink RX6 16 "FuzzyFinderModel" "left" "[I", Cond.fieldLink RX6 19 "FuzzyFinderModel" "right" "[I", Cond.methodLink RX6 146 yX6_ofSet, Cond.instanceMethod yX6_ofSet, Cond.selects RX6 yX6_ofSet yX6_ofSet, Cond.code yX6_ofSet cX6_ofSet 8 (some .int), Cond.fieldLink RX6 41 "FuzzyFinderModel" "missing" "I", Cond.fieldLink RX6 47 "FuzzyFinderModel" "text" "[I", Cond.fieldLink RX6 44 "FuzzyFinderModel" "wrong" "I", Cond.methodLink RX6 149 yX6_ofRow, Cond.instanceMethod yX6_ofRow, Cond.selects RX6 yX6_ofRow yX6_ofRow, Cond.code yX6_ofRow cX6_ofRow 8 (some .int), Cond.methodLink RX6 139 yX6_costOf, Cond.instanceMethod yX6_costOf, Cond.selects RX6 yX6_costOf yX6_costOf, Cond.code yX6_costOf cX6_costOf 4 (some .int), Cond.methodLink RX6 142 yX6_sum, Cond.static yX6_sum, Cond.code yX6_sum cX6_sum 2 (some .int), Cond.methodLink RX6 153 yX6_ofPlus, Cond.instanceMethod yX6_ofPlus, Cond.selects RX6 yX6_ofPlus yX6_ofPlus]
def wsX6_ends_r3 : List Cond := [Cond.code yX6_ofPlus cX6_ofPlus 8 (some .int)]
def wsX6_ends : List Cond := .code yX6_ends cX6_ends 4 (some .int) :: ((wsX6_ends_r1 ++ (wsX6_ends_r2 ++ wsX6_ends_r3)) ++ wsX60)
def wsX6_step : List Cond := .code yX6_step cX6_step 8 (some .int) :: ([.fieldLink RX6 65 "FuzzyFinderModel" "steps" "[I", .fieldLink RX6 62 "FuzzyFinderModel" "letter" "[I", .fieldLink RX6 47 "FuzzyFinderModel" "text" "[I"] ++ wsX60)
def wsX6_distance : List Cond := .code yX6_distance cX6_distance 5 (some .int) :: ([.fieldLink RX6 173 "FuzzyFinderModel" "words" "I", .fieldLink RX6 59 "FuzzyFinderModel" "size" "[I", .fieldLink RX6 135 "FuzzyFinderModel" "length" "I", .fieldLink RX6 65 "FuzzyFinderModel" "steps" "[I", .methodLink RX6 180 yX6_step, .instanceMethod yX6_step, .selects RX6 yX6_step yX6_step, .initialized RX6, .code yX6_step cX6_step 8 (some .int), .fieldLink RX6 62 "FuzzyFinderModel" "letter" "[I", .fieldLink RX6 47 "FuzzyFinderModel" "text" "[I"] ++ wsX60)
def wsX6_add : List Cond := .code yX6_add cX6_add 2 (some .int) :: ([.fieldLink RX6 135 "FuzzyFinderModel" "length" "I", .fieldLink RX6 173 "FuzzyFinderModel" "words" "I", .fieldLink RX6 59 "FuzzyFinderModel" "size" "[I", .fieldLink RX6 62 "FuzzyFinderModel" "letter" "[I", .fieldLink RX6 47 "FuzzyFinderModel" "text" "[I", .methodLink RX6 176 yX6_distance, .instanceMethod yX6_distance, .selects RX6 yX6_distance yX6_distance, .initialized RX6, .code yX6_distance cX6_distance 5 (some .int), .fieldLink RX6 65 "FuzzyFinderModel" "steps" "[I", .methodLink RX6 180 yX6_step, .instanceMethod yX6_step, .selects RX6 yX6_step yX6_step, .code yX6_step cX6_step 8 (some .int)] ++ wsX60)
def wsX6_words : List Cond := .code yX6_words cX6_words 1 (some .int) :: ([.fieldLink RX6 173 "FuzzyFinderModel" "words" "I"] ++ wsX60)
def wsX6_near : List Cond := .code yX6_near cX6_near 5 (some .int) :: ([.fieldLink RX6 173 "FuzzyFinderModel" "words" "I", .methodLink RX6 176 yX6_distance, .instanceMethod yX6_distance, .selects RX6 yX6_distance yX6_distance, .initialized RX6, .code yX6_distance cX6_distance 5 (some .int), .fieldLink RX6 59 "FuzzyFinderModel" "size" "[I", .fieldLink RX6 135 "FuzzyFinderModel" "length" "I", .fieldLink RX6 65 "FuzzyFinderModel" "steps" "[I", .methodLink RX6 180 yX6_step, .instanceMethod yX6_step, .selects RX6 yX6_step yX6_step, .code yX6_step cX6_step 8 (some .int), .fieldLink RX6 62 "FuzzyFinderModel" "letter" "[I", .fieldLink RX6 47 "FuzzyFinderModel" "text" "[I"] ++ wsX60)
def wsX6_earlier : List Cond := .code yX6_earlier cX6_earlier 4 (some .boolean) :: ([.fieldLink RX6 59 "FuzzyFinderModel" "size" "[I", .fieldLink RX6 62 "FuzzyFinderModel" "letter" "[I"] ++ wsX60)
def wsX6_rank : List Cond := .code yX6_rank cX6_rank 8 (some .int) :: ([.fieldLink RX6 173 "FuzzyFinderModel" "words" "I", .methodLink RX6 176 yX6_distance, .instanceMethod yX6_distance, .selects RX6 yX6_distance yX6_distance, .initialized RX6, .code yX6_distance cX6_distance 5 (some .int), .fieldLink RX6 59 "FuzzyFinderModel" "size" "[I", .fieldLink RX6 135 "FuzzyFinderModel" "length" "I", .fieldLink RX6 65 "FuzzyFinderModel" "steps" "[I", .methodLink RX6 180 yX6_step, .instanceMethod yX6_step, .selects RX6 yX6_step yX6_step, .code yX6_step cX6_step 8 (some .int), .fieldLink RX6 62 "FuzzyFinderModel" "letter" "[I", .fieldLink RX6 47 "FuzzyFinderModel" "text" "[I", .methodLink RX6 184 yX6_earlier, .instanceMethod yX6_earlier, .selects RX6 yX6_earlier yX6_earlier, .code yX6_earlier cX6_earlier 4 (some .boolean)] ++ wsX60)
def wsJ9_max_7cf53 : List Cond := .code yJ9_max_7cf53 cJ9_max_7cf53 2 (some .int) :: ([])
def wsJ9_min_7cf53 : List Cond := .code yJ9_min_7cf53 cJ9_min_7cf53 2 (some .int) :: ([])
def wsL_law_r1 : List Cond := [Cond.classLink RL 7 RX5, Cond.instantiable RX5 10, Cond.initialized RX5, Cond.classLink RL 10 RX6, Cond.instantiable RX6 29, Cond.initialized RX6, Cond.methodLink RL 9 yX5_init, Cond.instanceMethod yX5_init, Cond.code yX5_init cX5_init 1 none, Cond.methodLink RX5 1 objectInit, Cond.instanceMethod objectInit, Cond.code objectInit ⟨#[0xb1]⟩ 1 none, Cond.arrayClass .char, Cond.fieldLink RX5 9 "FuzzyFinder" "typed" "[C", Cond.fieldLink RX5 13 "FuzzyFinder" "typedCount" "I", Cond.classLink RX5 17 RX2, Cond.instantiable RX2 9, Cond.initialized RX2, Cond.fieldLink RX5 20 "FuzzyFinder" "reader" "LFuzzyFinder$ExpressionReader;", Cond.classLink RX5 24 RX4, Cond.instantiable RX4 5, Cond.initialized RX4, Cond.fieldLink RX5 27 "FuzzyFinder" "pattern" "LFuzzyFinder$Pattern;", Cond.classLink RX5 31 RX3]
def wsL_law_r2 : List Cond := [Cond.instantiable RX3 2, Cond.initialized RX3, Cond.fieldLink RX5 34 "FuzzyFinder" "text" "LFuzzyFinder$Letters;", Cond.classLink RX5 38 RX0, Cond.instantiable RX0 6, Cond.initialized RX0, Cond.fieldLink RX5 41 "FuzzyFinder" "costs" "LFuzzyFinder$CostTable;", Cond.classLink RX5 45 RX1, Cond.instantiable RX1 4, Cond.initialized RX1, Cond.fieldLink RX5 48 "FuzzyFinder" "dictionary" "LFuzzyFinder$Dictionary;", Cond.fieldLink RX5 52 "FuzzyFinder" "bound" "I", Cond.fieldLink RX5 55 "FuzzyFinder" "foundFrom" "I", Cond.fieldLink RX5 58 "FuzzyFinder" "foundTo" "I", Cond.instanceMethod yX2_init, Cond.code yX2_init cX2_init 1 none, Cond.methodLink RX2 3 objectInit, Cond.classLink RX2 9 RX4, Cond.fieldLink RX2 12 "FuzzyFinder$ExpressionReader" "draft" "LFuzzyFinder$Pattern;", Cond.fieldLink RX2 18 "FuzzyFinder$ExpressionReader" "state" "I", Cond.fieldLink RX2 22 "FuzzyFinder$ExpressionReader" "depth" "I", Cond.arrayClass .int, Cond.fieldLink RX2 25 "FuzzyFinder$ExpressionReader" "items" "[I", Cond.fieldLink RX2 29 "FuzzyFinder$ExpressionReader" "rows" "[I"]
def wsL_law_r3 : List Cond := [Cond.fieldLink RX2 32 "FuzzyFinder$ExpressionReader" "choices" "[I", Cond.fieldLink RX2 35 "FuzzyFinder$ExpressionReader" "setLetters" "I", Cond.fieldLink RX2 38 "FuzzyFinder$ExpressionReader" "setIsOfOthers" "Z", Cond.fieldLink RX2 42 "FuzzyFinder$ExpressionReader" "limit" "I", Cond.instanceMethod yX4_init, Cond.code yX4_init cX4_init 1 none, Cond.methodLink RX4 3 objectInit, Cond.fieldLink RX4 9 "FuzzyFinder$Pattern" "kinds" "[I", Cond.fieldLink RX4 15 "FuzzyFinder$Pattern" "lefts" "[I", Cond.fieldLink RX4 18 "FuzzyFinder$Pattern" "rights" "[I", Cond.fieldLink RX4 21 "FuzzyFinder$Pattern" "values" "[I", Cond.fieldLink RX4 24 "FuzzyFinder$Pattern" "count" "I", Cond.instanceMethod yX3_init, Cond.code yX3_init cX3_init 1 none, Cond.methodLink RX3 3 objectInit, Cond.fieldLink RX3 9 "FuzzyFinder$Letters" "signs" "[C", Cond.fieldLink RX3 15 "FuzzyFinder$Letters" "count" "I", Cond.instanceMethod yX0_init, Cond.code yX0_init cX0_init 1 none, Cond.methodLink RX0 3 objectInit, Cond.classLink RX0 11 "[[I", Cond.fieldLink RX0 13 "FuzzyFinder$CostTable" "costsOfNodes" "[[I", Cond.fieldLink RX0 16 "FuzzyFinder$CostTable" "chains" "[I", Cond.fieldLink RX0 20 "FuzzyFinder$CostTable" "knownColumns" "I"]
def wsL_law_r4 : List Cond := [Cond.fieldLink RX0 24 "FuzzyFinder$CostTable" "added" "I", Cond.fieldLink RX0 27 "FuzzyFinder$CostTable" "missing" "I", Cond.fieldLink RX0 30 "FuzzyFinder$CostTable" "wrong" "I", Cond.instanceMethod yX1_init, Cond.code yX1_init cX1_init 2 none, Cond.methodLink RX1 3 objectInit, Cond.classLink RX1 9 RX3, Cond.fieldLink RX1 11 "FuzzyFinder$Dictionary" "entries" "[LFuzzyFinder$Letters;", Cond.fieldLink RX1 17 "FuzzyFinder$Dictionary" "count" "I", Cond.fieldLink RX1 21 "FuzzyFinder$Dictionary" "distances" "[I", Cond.classLink RX1 25 "[[I", Cond.fieldLink RX1 27 "FuzzyFinder$Dictionary" "steps" "[[I", Cond.methodLink RL 12 yX6_init, Cond.instanceMethod yX6_init, Cond.code yX6_init cX6_init 1 none, Cond.methodLink RX6 1 objectInit, Cond.fieldLink RX6 7 "FuzzyFinderModel" "chars" "[I", Cond.fieldLink RX6 13 "FuzzyFinderModel" "kind" "[I", Cond.fieldLink RX6 16 "FuzzyFinderModel" "left" "[I", Cond.fieldLink RX6 19 "FuzzyFinderModel" "right" "[I", Cond.fieldLink RX6 22 "FuzzyFinderModel" "freshKind" "[I", Cond.fieldLink RX6 25 "FuzzyFinderModel" "freshLeft" "[I", Cond.fieldLink RX6 28 "FuzzyFinderModel" "freshRight" "[I", Cond.fieldLink RX6 31 "FuzzyFinderModel" "waiting" "[I"]
def wsL_law_r5 : List Cond := [Cond.fieldLink RX6 34 "FuzzyFinderModel" "whole" "[I", Cond.fieldLink RX6 37 "FuzzyFinderModel" "added" "I", Cond.fieldLink RX6 41 "FuzzyFinderModel" "missing" "I", Cond.fieldLink RX6 44 "FuzzyFinderModel" "wrong" "I", Cond.fieldLink RX6 47 "FuzzyFinderModel" "text" "[I", Cond.fieldLink RX6 50 "FuzzyFinderModel" "costs" "[I", Cond.fieldLink RX6 53 "FuzzyFinderModel" "foundFrom" "I", Cond.fieldLink RX6 56 "FuzzyFinderModel" "foundTo" "I", Cond.fieldLink RX6 59 "FuzzyFinderModel" "size" "[I", Cond.fieldLink RX6 62 "FuzzyFinderModel" "letter" "[I", Cond.fieldLink RX6 65 "FuzzyFinderModel" "steps" "[I", Cond.methodLink RL 13 yX5_type, Cond.instanceMethod yX5_type, Cond.selects RX5 yX5_type yX5_type, Cond.code yX5_type cX5_type 2 (some .boolean), Cond.methodLink RL 17 yX6_type, Cond.instanceMethod yX6_type, Cond.selects RX6 yX6_type yX6_type, Cond.code yX6_type cX6_type 2 (some .boolean), Cond.fieldLink RX6 68 "FuzzyFinderModel" "typed" "I", Cond.methodLink RL 18 yX5_compile, Cond.instanceMethod yX5_compile, Cond.selects RX5 yX5_compile yX5_compile, Cond.code yX5_compile cX5_compile 2 (some .int)]
def wsL_law_r6 : List Cond := [Cond.instanceMethod yX2_read, Cond.selects RX2 yX2_read yX2_read, Cond.code yX2_read cX2_read 4 (some .int), Cond.instanceMethod yX4_clear, Cond.selects RX4 yX4_clear yX4_clear, Cond.code yX4_clear cX4_clear 1 none, Cond.methodLink RX2 48 yX2_beginBracket, Cond.instanceMethod yX2_beginBracket, Cond.selects RX2 yX2_beginBracket yX2_beginBracket, Cond.code yX2_beginBracket cX2_beginBracket 1 none, Cond.methodLink RX2 51 yX2_take, Cond.instanceMethod yX2_take, Cond.selects RX2 yX2_take yX2_take, Cond.code yX2_take cX2_take 2 (some .boolean), Cond.methodLink RX2 61 yX2_takeAtom, Cond.instanceMethod yX2_takeAtom, Cond.selects RX2 yX2_takeAtom yX2_takeAtom, Cond.code yX2_takeAtom cX2_takeAtom 2 (some .boolean), Cond.constant RX2 93 (67108863), Cond.static yX5_isLetter, Cond.code yX5_isLetter cX5_isLetter 1 (some .boolean), Cond.methodLink RX2 85 yX2_bitOf, Cond.static yX2_bitOf, Cond.code yX2_bitOf cX2_bitOf 1 (some .int)]
def wsL_law_r7 : List Cond := [Cond.methodLink RX2 89 yX2_endAtom, Cond.instanceMethod yX2_endAtom, Cond.selects RX2 yX2_endAtom yX2_endAtom, Cond.code yX2_endAtom cX2_endAtom 2 none, Cond.instanceMethod yX4_put, Cond.selects RX4 yX4_put yX4_put, Cond.code yX4_put cX4_put 6 (some .int), Cond.methodLink RX2 94 yX2_takeOpening, Cond.instanceMethod yX2_takeOpening, Cond.selects RX2 yX2_takeOpening yX2_takeOpening, Cond.code yX2_takeOpening cX2_takeOpening 1 (some .boolean), Cond.methodLink RX2 64 yX2_takeFirstDigit, Cond.instanceMethod yX2_takeFirstDigit, Cond.selects RX2 yX2_takeFirstDigit yX2_takeFirstDigit, Cond.code yX2_takeFirstDigit cX2_takeFirstDigit 2 (some .boolean), Cond.static yX5_isDigit, Cond.code yX5_isDigit cX5_isDigit 1 (some .boolean), Cond.methodLink RX2 101 yX2_endSuffix, Cond.instanceMethod yX2_endSuffix, Cond.selects RX2 yX2_endSuffix yX2_endSuffix, Cond.code yX2_endSuffix cX2_endSuffix 3 none, Cond.methodLink RX2 67 yX2_takeSecondDigit, Cond.instanceMethod yX2_takeSecondDigit, Cond.selects RX2 yX2_takeSecondDigit yX2_takeSecondDigit]
def wsL_law_r8 : List Cond := [Cond.code yX2_takeSecondDigit cX2_takeSecondDigit 2 (some .boolean), Cond.instanceMethod yX4_changeValue, Cond.selects RX4 yX4_changeValue yX4_changeValue, Cond.code yX4_changeValue cX4_changeValue 3 none, Cond.methodLink RX2 70 yX2_takeAfterItem, Cond.instanceMethod yX2_takeAfterItem, Cond.selects RX2 yX2_takeAfterItem yX2_takeAfterItem, Cond.code yX2_takeAfterItem cX2_takeAfterItem 2 (some .boolean), Cond.methodLink RX2 108 yX2_takeSuffix, Cond.instanceMethod yX2_takeSuffix, Cond.selects RX2 yX2_takeSuffix yX2_takeSuffix, Cond.code yX2_takeSuffix cX2_takeSuffix 2 (some .boolean), Cond.methodLink RX2 55 yX2_endItem, Cond.instanceMethod yX2_endItem, Cond.selects RX2 yX2_endItem yX2_endItem, Cond.code yX2_endItem cX2_endItem 3 none, Cond.methodLink RX2 58 yX2_endRow, Cond.instanceMethod yX2_endRow, Cond.selects RX2 yX2_endRow yX2_endRow, Cond.code yX2_endRow cX2_endRow 3 none, Cond.methodLink RX2 111 yX2_takeClosing, Cond.instanceMethod yX2_takeClosing, Cond.selects RX2 yX2_takeClosing yX2_takeClosing, Cond.code yX2_takeClosing cX2_takeClosing 2 (some .boolean)]
def wsL_law_r9 : List Cond := [Cond.methodLink RX2 73 yX2_takeOthersSign, Cond.instanceMethod yX2_takeOthersSign, Cond.selects RX2 yX2_takeOthersSign yX2_takeOthersSign, Cond.code yX2_takeOthersSign cX2_takeOthersSign 2 (some .boolean), Cond.methodLink RX2 76 yX2_takeSetLetter, Cond.instanceMethod yX2_takeSetLetter, Cond.selects RX2 yX2_takeSetLetter yX2_takeSetLetter, Cond.code yX2_takeSetLetter cX2_takeSetLetter 2 (some .boolean), Cond.methodLink RX2 79 yX2_takeSetEnd, Cond.instanceMethod yX2_takeSetEnd, Cond.selects RX2 yX2_takeSetEnd yX2_takeSetEnd, Cond.code yX2_takeSetEnd cX2_takeSetEnd 2 (some .boolean), Cond.instanceMethod yX4_copyFrom, Cond.selects RX4 yX4_copyFrom yX4_copyFrom, Cond.code yX4_copyFrom cX4_copyFrom 4 none, Cond.methodLink RX4 31 Lib.Math.min.name, Cond.static Lib.Math.min.name, Cond.initialized "java/lang/Math", Cond.code Lib.Math.min.name Lib.Math.min.code 2 (some .int), Cond.methodLink RX4 28 yX4_clear, Cond.methodLink RX4 37 yX4_put, Cond.instanceMethod yX0_forget, Cond.selects RX0 yX0_forget yX0_forget, Cond.code yX0_forget cX0_forget 1 none]
def wsL_law_r10 : List Cond := [Cond.methodLink RX5 78 yX5_forgetMatch, Cond.instanceMethod yX5_forgetMatch, Cond.selects RX5 yX5_forgetMatch yX5_forgetMatch, Cond.code yX5_forgetMatch cX5_forgetMatch 1 none, Cond.methodLink RL 22 yX6_compile, Cond.instanceMethod yX6_compile, Cond.selects RX6 yX6_compile yX6_compile, Cond.code yX6_compile cX6_compile 3 (some .int), Cond.fieldLink RX6 79 "FuzzyFinderModel" "fresh" "I", Cond.fieldLink RX6 122 "FuzzyFinderModel" "nodes" "I", Cond.methodLink RX6 115 yX6_fault, Cond.instanceMethod yX6_fault, Cond.selects RX6 yX6_fault yX6_fault, Cond.code yX6_fault cX6_fault 6 (some .int), Cond.methodLink RX6 75 yX6_next, Cond.static yX6_next, Cond.code yX6_next cX6_next 4 (some .int), Cond.methodLink RX6 71 yX6_small, Cond.static yX6_small, Cond.code yX6_small cX6_small 1 (some .boolean), Cond.methodLink RX6 119 yX6_read, Cond.instanceMethod yX6_read, Cond.selects RX6 yX6_read yX6_read, Cond.code yX6_read cX6_read 5 none]
def wsL_law_r11 : List Cond := [Cond.fieldLink RX6 85 "FuzzyFinderModel" "waits" "I", Cond.fieldLink RX6 82 "FuzzyFinderModel" "wholes" "I", Cond.constant RX6 102 (67108863), Cond.fieldLink RX6 99 "FuzzyFinderModel" "letters" "I", Cond.methodLink RX6 92 yX6_join, Cond.instanceMethod yX6_join, Cond.selects RX6 yX6_join yX6_join, Cond.code yX6_join cX6_join 4 none, Cond.methodLink RX6 88 yX6_make, Cond.instanceMethod yX6_make, Cond.selects RX6 yX6_make yX6_make, Cond.code yX6_make cX6_make 4 none, Cond.methodLink RX6 96 yX6_hold, Cond.instanceMethod yX6_hold, Cond.selects RX6 yX6_hold yX6_hold, Cond.code yX6_hold cX6_hold 2 none, Cond.methodLink RX6 103 yX6_item, Cond.instanceMethod yX6_item, Cond.selects RX6 yX6_item yX6_item, Cond.code yX6_item cX6_item 2 none, Cond.methodLink RX6 107 yX6_suffix, Cond.instanceMethod yX6_suffix, Cond.selects RX6 yX6_suffix yX6_suffix, Cond.code yX6_suffix cX6_suffix 3 none]
def wsL_law_r12 : List Cond := [Cond.methodLink RX6 111 yX6_set, Cond.instanceMethod yX6_set, Cond.selects RX6 yX6_set yX6_set, Cond.code yX6_set cX6_set 4 (some .int), Cond.methodLink RX6 125 yX6_changed, Cond.instanceMethod yX6_changed, Cond.selects RX6 yX6_changed yX6_changed, Cond.code yX6_changed cX6_changed 1 none, Cond.fieldLink RX6 128 "FuzzyFinderModel" "known" "Z", Cond.methodLink RL 23 yX5_nodes, Cond.instanceMethod yX5_nodes, Cond.selects RX5 yX5_nodes yX5_nodes, Cond.code yX5_nodes cX5_nodes 1 (some .int), Cond.methodLink RL 26 yX6_nodes, Cond.instanceMethod yX6_nodes, Cond.selects RX6 yX6_nodes yX6_nodes, Cond.code yX6_nodes cX6_nodes 1 (some .int), Cond.methodLink RL 27 yX5_weights, Cond.instanceMethod yX5_weights, Cond.selects RX5 yX5_weights yX5_weights, Cond.code yX5_weights cX5_weights 4 (some .boolean), Cond.methodLink RX5 81 yX5_isWeight, Cond.static yX5_isWeight, Cond.code yX5_isWeight cX5_isWeight 1 (some .boolean)]
def wsL_law_r13 : List Cond := [Cond.instanceMethod yX0_weigh, Cond.selects RX0 yX0_weigh yX0_weigh, Cond.code yX0_weigh cX0_weigh 4 none, Cond.methodLink RX0 33 yX0_forget, Cond.methodLink RL 31 yX6_weights, Cond.instanceMethod yX6_weights, Cond.selects RX6 yX6_weights yX6_weights, Cond.code yX6_weights cX6_weights 4 (some .boolean), Cond.methodLink RL 32 yX5_bound, Cond.instanceMethod yX5_bound, Cond.selects RX5 yX5_bound yX5_bound, Cond.code yX5_bound cX5_bound 2 (some .boolean), Cond.methodLink RL 36 yX6_bound, Cond.instanceMethod yX6_bound, Cond.selects RX6 yX6_bound yX6_bound, Cond.code yX6_bound cX6_bound 2 (some .boolean), Cond.fieldLink RX6 132 "FuzzyFinderModel" "most" "I", Cond.methodLink RL 37 yX5_write, Cond.instanceMethod yX5_write, Cond.selects RX5 yX5_write yX5_write, Cond.code yX5_write cX5_write 2 (some .boolean), Cond.methodLink RX5 89 yX5_isLetter, Cond.instanceMethod yX3_append, Cond.selects RX3 yX3_append yX3_append]
def wsL_law_r14 : List Cond := [Cond.code yX3_append cX3_append 2 none, Cond.methodLink RL 40 yX6_write, Cond.instanceMethod yX6_write, Cond.selects RX6 yX6_write yX6_write, Cond.code yX6_write cX6_write 2 (some .boolean), Cond.fieldLink RX6 135 "FuzzyFinderModel" "length" "I", Cond.methodLink RL 41 yX5_erase, Cond.instanceMethod yX5_erase, Cond.selects RX5 yX5_erase yX5_erase, Cond.code yX5_erase cX5_erase 1 none, Cond.instanceMethod yX3_clear, Cond.selects RX3 yX3_clear yX3_clear, Cond.code yX3_clear cX3_clear 1 none, Cond.methodLink RL 44 yX6_erase, Cond.instanceMethod yX6_erase, Cond.selects RX6 yX6_erase yX6_erase, Cond.code yX6_erase cX6_erase 1 none, Cond.methodLink RL 45 yX5_cost, Cond.instanceMethod yX5_cost, Cond.selects RX5 yX5_cost yX5_cost, Cond.code yX5_cost cX5_cost 4 (some .int), Cond.constant RX5 109 (268435456), Cond.instanceMethod yX0_learn, Cond.selects RX0 yX0_learn yX0_learn]
def wsL_law_r15 : List Cond := [Cond.code yX0_learn cX0_learn 5 none, Cond.methodLink RX0 44 yX0_fillColumn, Cond.instanceMethod yX0_fillColumn, Cond.selects RX0 yX0_fillColumn yX0_fillColumn, Cond.code yX0_fillColumn cX0_fillColumn 9 none, Cond.methodLink RX0 59 yX0_fillLetter, Cond.instanceMethod yX0_fillLetter, Cond.selects RX0 yX0_fillLetter yX0_fillLetter, Cond.code yX0_fillLetter cX0_fillLetter 9 none, Cond.methodLink RX0 99 Lib.Math.min.name, Cond.methodLink RX0 49 yX0_pieceAt, Cond.static yX0_pieceAt, Cond.code yX0_pieceAt cX0_pieceAt 2 (some .int), Cond.instanceMethod yX3_letterAt, Cond.selects RX3 yX3_letterAt yX3_letterAt, Cond.code yX3_letterAt cX3_letterAt 2 (some .char), Cond.methodLink RX0 66 yX0_operand, Cond.static yX0_operand, Cond.code yX0_operand cX0_operand 2 (some .int), Cond.methodLink RX0 72 yX0_fillRow, Cond.instanceMethod yX0_fillRow, Cond.selects RX0 yX0_fillRow yX0_fillRow, Cond.code yX0_fillRow cX0_fillRow 8 none, Cond.constant RX0 48 (268435456)]
def wsL_law_r16 : List Cond := [Cond.methodLink RX0 76 yX0_fillEither, Cond.instanceMethod yX0_fillEither, Cond.selects RX0 yX0_fillEither yX0_fillEither, Cond.code yX0_fillEither cX0_fillEither 6 none, Cond.methodLink RX0 79 yX0_fillMaybe, Cond.instanceMethod yX0_fillMaybe, Cond.selects RX0 yX0_fillMaybe yX0_fillMaybe, Cond.code yX0_fillMaybe cX0_fillMaybe 5 none, Cond.methodLink RX0 83 yX0_fillLimit, Cond.instanceMethod yX0_fillLimit, Cond.selects RX0 yX0_fillLimit yX0_fillLimit, Cond.code yX0_fillLimit cX0_fillLimit 7 none, Cond.methodLink RX0 87 yX0_fillChains, Cond.instanceMethod yX0_fillChains, Cond.selects RX0 yX0_fillChains yX0_fillChains, Cond.code yX0_fillChains cX0_fillChains 6 none, Cond.methodLink RX0 91 yX0_fillRepeated, Cond.instanceMethod yX0_fillRepeated, Cond.selects RX0 yX0_fillRepeated yX0_fillRepeated, Cond.code yX0_fillRepeated cX0_fillRepeated 6 none, Cond.instanceMethod yX0_ofWhole, Cond.selects RX0 yX0_ofWhole yX0_ofWhole, Cond.code yX0_ofWhole cX0_ofWhole 4 (some .int), Cond.methodLink RL 49 yX6_cost]
def wsL_law_r17 : List Cond := [Cond.instanceMethod yX6_cost, Cond.selects RX6 yX6_cost yX6_cost, Cond.code yX6_cost cX6_cost 4 (some .int), Cond.constant RX6 138 (1000000), Cond.methodLink RX6 159 yX6_work, Cond.instanceMethod yX6_work, Cond.selects RX6 yX6_work yX6_work, Cond.code yX6_work cX6_work 5 none, Cond.methodLink RX6 156 yX6_ofNode, Cond.instanceMethod yX6_ofNode, Cond.selects RX6 yX6_ofNode yX6_ofNode, Cond.code yX6_ofNode cX6_ofNode 6 (some .int), Cond.methodLink RX6 146 yX6_ofSet, Cond.instanceMethod yX6_ofSet, Cond.selects RX6 yX6_ofSet yX6_ofSet, Cond.code yX6_ofSet cX6_ofSet 8 (some .int), Cond.methodLink RX6 149 yX6_ofRow, Cond.instanceMethod yX6_ofRow, Cond.selects RX6 yX6_ofRow yX6_ofRow, Cond.code yX6_ofRow cX6_ofRow 8 (some .int), Cond.methodLink RX6 139 yX6_costOf, Cond.instanceMethod yX6_costOf, Cond.selects RX6 yX6_costOf yX6_costOf, Cond.code yX6_costOf cX6_costOf 4 (some .int)]
def wsL_law_r18 : List Cond := [Cond.methodLink RX6 142 yX6_sum, Cond.static yX6_sum, Cond.code yX6_sum cX6_sum 2 (some .int), Cond.methodLink RX6 153 yX6_ofPlus, Cond.instanceMethod yX6_ofPlus, Cond.selects RX6 yX6_ofPlus yX6_ofPlus, Cond.code yX6_ofPlus cX6_ofPlus 8 (some .int), Cond.methodLink RL 50 yX5_find, Cond.instanceMethod yX5_find, Cond.selects RX5 yX5_find yX5_find, Cond.code yX5_find cX5_find 6 (some .int), Cond.methodLink RL 54 yX6_find, Cond.instanceMethod yX6_find, Cond.selects RX6 yX6_find yX6_find, Cond.code yX6_find cX6_find 4 (some .int), Cond.methodLink RX6 165 yX6_matches, Cond.instanceMethod yX6_matches, Cond.selects RX6 yX6_matches yX6_matches, Cond.code yX6_matches cX6_matches 4 (some .boolean), Cond.methodLink RX6 162 yX6_cost, Cond.methodLink RX6 169 yX6_before, Cond.instanceMethod yX6_before, Cond.selects RX6 yX6_before yX6_before, Cond.code yX6_before cX6_before 8 (some .boolean)]
def wsL_law_r19 : List Cond := [Cond.methodLink RL 55 yX5_from, Cond.instanceMethod yX5_from, Cond.selects RX5 yX5_from yX5_from, Cond.code yX5_from cX5_from 1 (some .int), Cond.methodLink RL 58 yX6_from, Cond.instanceMethod yX6_from, Cond.selects RX6 yX6_from yX6_from, Cond.code yX6_from cX6_from 1 (some .int), Cond.methodLink RL 59 yX5_to, Cond.instanceMethod yX5_to, Cond.selects RX5 yX5_to yX5_to, Cond.code yX5_to cX5_to 1 (some .int), Cond.methodLink RL 62 yX6_to, Cond.instanceMethod yX6_to, Cond.selects RX6 yX6_to yX6_to, Cond.code yX6_to cX6_to 1 (some .int), Cond.methodLink RL 63 yX5_ends, Cond.instanceMethod yX5_ends, Cond.selects RX5 yX5_ends yX5_ends, Cond.code yX5_ends cX5_ends 4 (some .int), Cond.methodLink RL 66 yX6_ends, Cond.instanceMethod yX6_ends, Cond.selects RX6 yX6_ends yX6_ends, Cond.code yX6_ends cX6_ends 4 (some .int)]
def wsL_law_r20 : List Cond := [Cond.methodLink RL 67 yX5_add, Cond.instanceMethod yX5_add, Cond.selects RX5 yX5_add yX5_add, Cond.code yX5_add cX5_add 1 (some .int), Cond.instanceMethod yX1_keep, Cond.selects RX1 yX1_keep yX1_keep, Cond.code yX1_keep cX1_keep 3 (some .int), Cond.methodLink RX1 32 yX1_holds, Cond.instanceMethod yX1_holds, Cond.selects RX1 yX1_holds yX1_holds, Cond.code yX1_holds cX1_holds 3 (some .boolean), Cond.instanceMethod yX3_compareWith, Cond.selects RX3 yX3_compareWith yX3_compareWith, Cond.code yX3_compareWith cX3_compareWith 5 (some .int), Cond.methodLink RX3 30 Lib.Math.min.name, Cond.methodLink RX3 22 yX3_letterAt, Cond.instanceMethod yX3_copyFrom, Cond.selects RX3 yX3_copyFrom yX3_copyFrom, Cond.code yX3_copyFrom cX3_copyFrom 3 none, Cond.methodLink RX3 19 yX3_clear, Cond.methodLink RX3 26 yX3_append, Cond.methodLink RL 70 yX6_add, Cond.instanceMethod yX6_add, Cond.selects RX6 yX6_add yX6_add]
def wsL_law_r21 : List Cond := [Cond.code yX6_add cX6_add 2 (some .int), Cond.fieldLink RX6 173 "FuzzyFinderModel" "words" "I", Cond.methodLink RX6 176 yX6_distance, Cond.instanceMethod yX6_distance, Cond.selects RX6 yX6_distance yX6_distance, Cond.code yX6_distance cX6_distance 5 (some .int), Cond.methodLink RX6 180 yX6_step, Cond.instanceMethod yX6_step, Cond.selects RX6 yX6_step yX6_step, Cond.code yX6_step cX6_step 8 (some .int), Cond.methodLink RL 71 yX5_words, Cond.instanceMethod yX5_words, Cond.selects RX5 yX5_words yX5_words, Cond.code yX5_words cX5_words 1 (some .int), Cond.methodLink RL 74 yX6_words, Cond.instanceMethod yX6_words, Cond.selects RX6 yX6_words yX6_words, Cond.code yX6_words cX6_words 1 (some .int), Cond.methodLink RL 75 yX5_distance, Cond.instanceMethod yX5_distance, Cond.selects RX5 yX5_distance yX5_distance, Cond.code yX5_distance cX5_distance 3 (some .int), Cond.instanceMethod yX1_distanceOf, Cond.selects RX1 yX1_distanceOf yX1_distanceOf]
def wsL_law_r22 : List Cond := [Cond.code yX1_distanceOf cX1_distanceOf 7 (some .int), Cond.methodLink RX1 44 yX1_leastSteps, Cond.instanceMethod yX1_leastSteps, Cond.selects RX1 yX1_leastSteps yX1_leastSteps, Cond.code yX1_leastSteps cX1_leastSteps 8 (some .int), Cond.methodLink RX1 48 Lib.Math.max.name, Cond.static Lib.Math.max.name, Cond.code Lib.Math.max.name Lib.Math.max.code 2 (some .int), Cond.methodLink RX1 54 Lib.Math.min.name, Cond.methodLink RX1 61 yX1_areExchanged, Cond.static yX1_areExchanged, Cond.code yX1_areExchanged cX1_areExchanged 4 (some .boolean), Cond.methodLink RL 79 yX6_distance, Cond.methodLink RL 80 yX5_near, Cond.instanceMethod yX5_near, Cond.selects RX5 yX5_near yX5_near, Cond.code yX5_near cX5_near 3 (some .int), Cond.instanceMethod yX1_countWithin, Cond.selects RX1 yX1_countWithin yX1_countWithin, Cond.code yX1_countWithin cX1_countWithin 6 (some .int), Cond.methodLink RX1 65 yX1_distanceOf, Cond.methodLink RL 83 yX6_near, Cond.instanceMethod yX6_near, Cond.selects RX6 yX6_near yX6_near]
def wsL_law_r23 : List Cond := [Cond.code yX6_near cX6_near 5 (some .int), Cond.methodLink RL 84 yX5_rank, Cond.instanceMethod yX5_rank, Cond.selects RX5 yX5_rank yX5_rank, Cond.code yX5_rank cX5_rank 3 (some .int), Cond.instanceMethod yX1_wordAtRank, Cond.selects RX1 yX1_wordAtRank yX1_wordAtRank, Cond.code yX1_wordAtRank cX1_wordAtRank 5 (some .int), Cond.methodLink RX1 69 yX1_rankOf, Cond.instanceMethod yX1_rankOf, Cond.selects RX1 yX1_rankOf yX1_rankOf, Cond.code yX1_rankOf cX1_rankOf 4 (some .int), Cond.methodLink RX1 73 yX1_comesBefore, Cond.instanceMethod yX1_comesBefore, Cond.selects RX1 yX1_comesBefore yX1_comesBefore, Cond.code yX1_comesBefore cX1_comesBefore 3 (some .boolean), Cond.methodLink RL 87 yX6_rank, Cond.instanceMethod yX6_rank, Cond.selects RX6 yX6_rank yX6_rank, Cond.code yX6_rank cX6_rank 8 (some .int), Cond.methodLink RX6 184 yX6_earlier, Cond.instanceMethod yX6_earlier, Cond.selects RX6 yX6_earlier yX6_earlier, Cond.code yX6_earlier cX6_earlier 4 (some .boolean)]
def wsL_law : List Cond := (wsL_law_r1 ++ (wsL_law_r2 ++ (wsL_law_r3 ++ (wsL_law_r4 ++ (wsL_law_r5 ++ (wsL_law_r6 ++ (wsL_law_r7 ++ (wsL_law_r8 ++ (wsL_law_r9 ++ (wsL_law_r10 ++ (wsL_law_r11 ++ (wsL_law_r12 ++ (wsL_law_r13 ++ (wsL_law_r14 ++ (wsL_law_r15 ++ (wsL_law_r16 ++ (wsL_law_r17 ++ (wsL_law_r18 ++ (wsL_law_r19 ++ (wsL_law_r20 ++ (wsL_law_r21 ++ (wsL_law_r22 ++ wsL_law_r23)))))))))))))))))))))) ++ wsX50 ++ wsX60 ++ wsX20 ++ wsX40 ++ wsX30 ++ wsX00 ++ wsX10 ++ ([] : List Cond)
set_option maxRecDepth 20000 in
theorem inlX0 : ∀ w ∈ wsX00, w ∈ wsL_law := fun _ h => List.mem_append_left _ (List.mem_append_left _ (List.mem_append_right _ h))
theorem inlX1 : ∀ w ∈ wsX10, w ∈ wsL_law := fun _ h => List.mem_append_left _ (List.mem_append_right _ h)
theorem inlX2 : ∀ w ∈ wsX20, w ∈ wsL_law := fun _ h => List.mem_append_left _ (List.mem_append_left _ (List.mem_append_left _ (List.mem_append_left _ (List.mem_append_left _ (List.mem_append_right _ h)))))
theorem inlX3 : ∀ w ∈ wsX30, w ∈ wsL_law := fun _ h => List.mem_append_left _ (List.mem_append_left _ (List.mem_append_left _ (List.mem_append_right _ h)))
theorem inlX4 : ∀ w ∈ wsX40, w ∈ wsL_law := fun _ h => List.mem_append_left _ (List.mem_append_left _ (List.mem_append_left _ (List.mem_append_left _ (List.mem_append_right _ h))))
theorem inlX5 : ∀ w ∈ wsX50, w ∈ wsL_law := fun _ h => List.mem_append_left _ (List.mem_append_left _ (List.mem_append_left _ (List.mem_append_left _ (List.mem_append_left _ (List.mem_append_left _ (List.mem_append_left _ (List.mem_append_right _ h)))))))
theorem inlX6 : ∀ w ∈ wsX60, w ∈ wsL_law := fun _ h => List.mem_append_left _ (List.mem_append_left _ (List.mem_append_left _ (List.mem_append_left _ (List.mem_append_left _ (List.mem_append_left _ (List.mem_append_right _ h))))))
abbrev vwCl : List vw_C := [(RX0, TX0, 6), (RX1, TX1, 4), (RX2, TX2, 9), (RX3, TX3, 2), (RX4, TX4, 5), (RX5, TX5, 10), (RX6, TX6, 29)]
end
section
/-! ===== the world: one list of places; a place's kind, its cell, the state of all ints ===== -/
/-- class ids: objects' (by vwCl), then the arrays' of int, char, Letters, int[] -/
abbrev zG : Type := va_G × (ClassId × (ClassId × (ClassId × ClassId)))
/-- all ints of all places -/
abbrev zY : Type := Nat → Nat → Int32
def zU (Y : zY) (p j : Nat) (v : Int32) : zY := fun a b => if a = p then (if b = j then v else Y a b) else Y a b
theorem zU_eq {Y : zY} {p j : Nat} {v : Int32} : zU Y p j v p j = v := by simp [zU]
theorem zU_np {Y : zY} {p j a b : Nat} {v : Int32} (h : a ≠ p) : zU Y p j v a b = Y a b := by simp [zU, h]
theorem zU_nj {Y : zY} {p j a b : Nat} {v : Int32} (h : b ≠ j) : zU Y p j v a b = Y a b := by
  unfold zU; split <;> simp [h]
theorem zU_row {Y : zY} {p j a : Nat} {v : Int32} (h : a ≠ p) : zU Y p j v a = Y a := by funext b; exact zU_np h
theorem zU_upd {Y : zY} {p j : Nat} {v : Int32} : zU Y p j v p = upd (Y p) j v := by
  funext b; simp [zU, upd]
/-- kinds: 0 FuzzyFinder, 1 reader, 2 Pattern, 3 Letters, 4 costs, 5 dictionary, 6 model, 7 char row, 8 int row, 9 the costs' rows, 10 the entries, 11 the steps' rows -/
def zKs : List Nat := [0, 7, 1, 2, 8, 8, 8, 8, 8, 8, 8, 2, 8, 8, 8, 8, 3, 7, 4, 9] ++ List.replicate 24 8 ++ [8, 5, 10, 8, 11] ++ List.replicate 13 8 ++ (List.range 20).flatMap (fun _ => [3, 7]) ++ [6] ++ List.replicate 14 8
def zLs : List Nat := [0, 40, 0, 0, 24, 24, 24, 24, 7, 7, 7, 0, 24, 24, 24, 24, 0, 24, 0, 24] ++ List.replicate 24 325 ++ [25, 0, 20, 20, 13] ++ List.replicate 13 25 ++ (List.range 20).flatMap (fun _ => [0, 24]) ++ [0, 40, 24, 24, 24, 80, 80, 80, 80, 80, 24, 15000, 20, 240, 325]
def zk (p : Nat) : Nat := zKs.getD p 8
def zl (p : Nat) : Nat := zLs.getD p 0
def zc (G : zG) (A : Nat → Nat) (Y : zY) (p : Nat) : va_E := match zk p with
  | 0 => .inr (5, [.ref (A 1), .int (Y p 1), .ref (A 2), .ref (A 11), .ref (A 16), .ref (A 18), .ref (A 45), .int (Y p 7), .int (Y p 8), .int (Y p 9)])
  | 1 => .inr (2, [.ref (A 3), .int (Y p 1), .int (Y p 2), .ref (A 8), .ref (A 9), .ref (A 10), .int (Y p 6), .int (Y p 7), .int (Y p 8)])
  | 2 => .inr (4, [.ref (A (p + 1)), .ref (A (p + 2)), .ref (A (p + 3)), .ref (A (p + 4)), .int (Y p 4)])
  | 3 => .inr (3, [.ref (A (p + 1)), .int (Y p 1)])
  | 4 => .inr (0, [.ref (A 19), .ref (A 44), .int (Y p 2), .int (Y p 3), .int (Y p 4), .int (Y p 5)])
  | 5 => .inr (1, [.ref (A 46), .int (Y p 1), .ref (A 47), .ref (A 48)])
  | 6 => .inr (6, [.int (Y p 0), .ref (A 103), .int (Y p 2), .ref (A 104), .ref (A 105), .ref (A 106), .int (Y p 6), .ref (A 107), .ref (A 108), .ref (A 109), .int (Y p 10), .ref (A 110), .int (Y p 12), .ref (A 111), .int (Y p 14), .int (Y p 15), .int (Y p 16), .int (Y p 17), .int (Y p 18), .int (Y p 19), .ref (A 112), .int (Y p 21), .ref (A 113), .int (Y p 23), .int (Y p 24), .int (Y p 25), .ref (A 114), .ref (A 115), .ref (A 116)])
  | 7 => .inl (G.2.2.1, zl p, .inl (Y p))
  | 9 => .inl (G.2.2.2.2, 24, .inr (.inr (.inr (.inr (fun i => if i < 24 then some (A (20 + i)) else none)))))
  | 10 => .inl (G.2.2.2.1, 20, .inr (.inr (.inr (.inr (fun i => if i < 20 then some (A (62 + 2 * i)) else none)))))
  | 11 => .inl (G.2.2.2.2, 13, .inr (.inr (.inr (.inr (fun i => if i < 13 then some (A (49 + i)) else none)))))
  | _ => .inl (G.2.1, zl p, .inl (Y p))
theorem zc_congr {G : zG} {A : Nat → Nat} {Y Z : zY} {p : Nat} (h : Y p = Z p) : zc G A Y p = zc G A Z p := by
  unfold zc; rw [h]
def zW (G : zG) (A : Nat → Nat) (Y : zY) : va_W := (List.range 117).map (fun p => (A p, zc G A Y p))
theorem zW_get {G : zG} {A : Nat → Nat} {Y : zY} {p : Nat} (h : p < 117) : (zW G A Y)[p]? = some (A p, zc G A Y p) := by
  simp [zW, List.getElem?_map, List.getElem?_range h]
theorem zW_inv {G : zG} {A : Nat → Nat} {Y : zY} {p : Nat} {q : Nat × va_E} (h : (zW G A Y)[p]? = some q) : p < 117 ∧ q = (A p, zc G A Y p) := by
  have hp : p < 117 := by
    have := (List.getElem?_eq_some_iff.mp h).1
    simpa [zW] using this
  rw [zW_get hp] at h
  exact ⟨hp, (Option.some.inj h).symm⟩
theorem zW_set {G : zG} {A : Nat → Nat} {Y Z : zY} {p : Nat} {e : va_E} (h : p < 117) (he : zc G A Z p = e) (ho : ∀ q, q ≠ p → Z q = Y q) : (zW G A Y).set p (A p, e) = zW G A Z := by
  apply List.ext_getElem?
  intro q
  rw [List.getElem?_set]
  by_cases hq : p = q
  · subst hq
    have hl : p < (zW G A Y).length := by simpa [zW] using h
    rw [if_pos rfl, if_pos hl, zW_get h, he]
  · rw [if_neg hq]
    by_cases h1 : q < 117
    · rw [zW_get h1, zW_get h1, zc_congr (ho q (fun z => hq z.symm))]
    · have e1 : (zW G A Y)[q]? = none := List.getElem?_eq_none (by simp [zW]; omega)
      have e2 : (zW G A Z)[q]? = none := List.getElem?_eq_none (by simp [zW]; omega)
      rw [e1, e2]
/-- the addresses of the world -/
def zAd (A : Nat → Nat) : Nat → Prop := fun q => ∃ p, p < 117 ∧ q = A p
def zInj (A : Nat → Nat) : Prop := ∀ p q, p < 117 → q < 117 → A p = A q → p = q
theorem zW_D {G : zG} {A : Nat → Nat} {Y : zY} (h : zInj A) : va_D (zAd A) (zW G A Y) := by
  refine ⟨fun i j p q hp hq e => ?_, fun k q hk => ?_⟩
  · obtain ⟨h1, rfl⟩ := zW_inv hp
    obtain ⟨h2, rfl⟩ := zW_inv hq
    exact h i j h1 h2 e
  · obtain ⟨h1, rfl⟩ := zW_inv hk
    exact ⟨k, h1, rfl⟩
def zTy (G : zG) : List (ClassId × FieldType) := [(G.2.1, .int), (G.2.2.1, .char), (G.2.2.2.1, .object "FuzzyFinder$Letters"), (G.2.2.2.2, .array .int)]
/-- links between nest mates -/
def zNF : List (String × Nat × String × String × String) := [("FuzzyFinder$CostTable", 56, "FuzzyFinder$Pattern", "kinds", "[I"), ("FuzzyFinder$CostTable", 63, "FuzzyFinder$Pattern", "lefts", "[I"), ("FuzzyFinder$CostTable", 69, "FuzzyFinder$Pattern", "rights", "[I"), ("FuzzyFinder$CostTable", 53, "FuzzyFinder$Pattern", "values", "[I"), ("FuzzyFinder", 68, "FuzzyFinder$Pattern", "count", "I"), ("FuzzyFinder$CostTable", 41, "FuzzyFinder$Pattern", "count", "I"), ("FuzzyFinder", 65, "FuzzyFinder$ExpressionReader", "draft", "LFuzzyFinder$Pattern;"), ("FuzzyFinder$Dictionary", 31, "FuzzyFinder$Letters", "count", "I"), ("FuzzyFinder$CostTable", 36, "FuzzyFinder$Letters", "count", "I"), ("FuzzyFinder", 93, "FuzzyFinder$Letters", "count", "I"), ("FuzzyFinder", 114, "FuzzyFinder$Dictionary", "count", "I")]
def zNM : List (String × Nat × MethodName) := [("FuzzyFinder", 19, ⟨"FuzzyFinder$ExpressionReader", "<init>", "()V"⟩), ("FuzzyFinder$ExpressionReader", 11, ⟨"FuzzyFinder$Pattern", "<init>", "()V"⟩), ("FuzzyFinder", 26, ⟨"FuzzyFinder$Pattern", "<init>", "()V"⟩), ("FuzzyFinder", 33, ⟨"FuzzyFinder$Letters", "<init>", "()V"⟩), ("FuzzyFinder", 40, ⟨"FuzzyFinder$CostTable", "<init>", "()V"⟩), ("FuzzyFinder", 47, ⟨"FuzzyFinder$Dictionary", "<init>", "()V"⟩), ("FuzzyFinder$Dictionary", 30, ⟨"FuzzyFinder$Letters", "<init>", "()V"⟩), ("FuzzyFinder", 61, ⟨"FuzzyFinder$ExpressionReader", "read", "([CI)I"⟩), ("FuzzyFinder$ExpressionReader", 45, ⟨"FuzzyFinder$Pattern", "clear", "()V"⟩), ("FuzzyFinder$ExpressionReader", 82, ⟨"FuzzyFinder", "isLetter", "(C)Z"⟩), ("FuzzyFinder$ExpressionReader", 114, ⟨"FuzzyFinder$Pattern", "put", "(IIII)I"⟩), ("FuzzyFinder$ExpressionReader", 98, ⟨"FuzzyFinder", "isDigit", "(C)Z"⟩), ("FuzzyFinder$ExpressionReader", 105, ⟨"FuzzyFinder$Pattern", "changeValue", "(II)V"⟩), ("FuzzyFinder", 71, ⟨"FuzzyFinder$Pattern", "copyFrom", "(LFuzzyFinder$Pattern;)V"⟩), ("FuzzyFinder", 75, ⟨"FuzzyFinder$CostTable", "forget", "()V"⟩), ("FuzzyFinder", 85, ⟨"FuzzyFinder$CostTable", "weigh", "(III)V"⟩), ("FuzzyFinder", 94, ⟨"FuzzyFinder$Letters", "append", "(C)V"⟩), ("FuzzyFinder", 98, ⟨"FuzzyFinder$Letters", "clear", "()V"⟩), ("FuzzyFinder", 101, ⟨"FuzzyFinder$CostTable", "learn", "(LFuzzyFinder$Pattern;LFuzzyFinder$Letters;)V"⟩), ("FuzzyFinder$CostTable", 95, ⟨"FuzzyFinder$Letters", "letterAt", "(I)C"⟩), ("FuzzyFinder", 105, ⟨"FuzzyFinder$CostTable", "ofWhole", "(LFuzzyFinder$Pattern;II)I"⟩), ("FuzzyFinder", 110, ⟨"FuzzyFinder$Dictionary", "keep", "(LFuzzyFinder$Letters;)I"⟩), ("FuzzyFinder$Dictionary", 40, ⟨"FuzzyFinder$Letters", "compareWith", "(LFuzzyFinder$Letters;)I"⟩), ("FuzzyFinder$Dictionary", 36, ⟨"FuzzyFinder$Letters", "copyFrom", "(LFuzzyFinder$Letters;)V"⟩), ("FuzzyFinder", 115, ⟨"FuzzyFinder$Dictionary", "distanceOf", "(ILFuzzyFinder$Letters;Z)I"⟩), ("FuzzyFinder$Dictionary", 57, ⟨"FuzzyFinder$Letters", "letterAt", "(I)C"⟩), ("FuzzyFinder", 119, ⟨"FuzzyFinder$Dictionary", "countWithin", "(ILFuzzyFinder$Letters;Z)I"⟩), ("FuzzyFinder", 122, ⟨"FuzzyFinder$Dictionary", "wordAtRank", "(ILFuzzyFinder$Letters;Z)I"⟩)]
def zN (U : State) : Prop := (∀ q ∈ zNF, va_Nw (.fieldLinkNest q.1 q.2.1 q.2.2.1 q.2.2.2.1 q.2.2.2.2 "FuzzyFinder") U) ∧ ∀ q ∈ zNM, va_Nw (.methodLinkNest q.1 q.2.1 q.2.2 "FuzzyFinder") U
theorem zN.warm {s U : State} (hW : s.WarmedH U.vm) (h : zN s) : zN U := ⟨fun q hq => va_Nw.warmF hW (h.1 q hq), fun q hq => va_Nw.warmM hW (h.2 q hq)⟩
theorem zN.same {u U : State} (hv : u.vm = U.vm) (h : zN u) : zN U := ⟨fun q hq => va_Nw.same rfl hv (h.1 q hq), fun q hq => va_Nw.same rfl hv (h.2 q hq)⟩
/-- what of the machine every method may take as given -/
def zK (G : zG) (A : Nat → Nat) (U : State) : Prop := va_K G.1 vwCl (zTy G) U ∧ zN U ∧ zInj A
theorem zK.warm {G : zG} {A : Nat → Nat} {s U : State} (hW : s.WarmedH U.vm) (h : zK G A s) : zK G A U := ⟨va_K.moved hW.alike h.1, zN.warm hW h.2.1, h.2.2⟩
def zPre (G : zG) (A : Nat → Nat) (Y : zY) (U : State) : Prop := va_P G.1 vwCl (zW G A Y) U.heap ∧ zK G A U
def zB (G : zG) (A : Nat → Nat) (Y : zY) (t : State) : Prop := va_P G.1 vwCl (zW G A Y) t.heap
theorem zBlind {G : zG} {A : Nat → Nat} {Y : zY} {as : List Value} : FrameBlind (va_Pc as (zPre G A Y)) := fun a U g mk h => ⟨h.1, h.2.1, va_K.moved (u := U) (U := U.calling g mk a) (Vm.Alike.refl U.vm) h.2.2.1, zN.same rfl h.2.2.2.1, h.2.2.2.2⟩
abbrev zWs (y : MethodName) (b : ByteArray) (n : Nat) (rt : Option FieldType) : List Cond := .code y b n rt :: wsL_law
/-- a method that answers a number: its contract -/
def ZI (l : Launch) (y : MethodName) (b : ByteArray) (n : Nat) (rt : FieldType) (fr lo : Nat) (G : zG) (A : Nat → Nat) (Y : zY) (as : List Value) (post : Int32 → zY → Prop) : Prop :=
  Met l y (zWs y b n (some rt)) { frames := fr, cells := 0, slots := 0, locals := lo } (va_Pc as (zPre G A Y)) (va_Qi post (zB G A) (zAd A)) 0 0 (zAd A)
/-- a method that answers nothing -/
def ZV (l : Launch) (y : MethodName) (b : ByteArray) (n : Nat) (fr lo : Nat) (G : zG) (A : Nat → Nat) (Y : zY) (as : List Value) (post : zY → Prop) : Prop :=
  Met l y (zWs y b n none) { frames := fr, cells := 0, slots := 0, locals := lo } (va_Pc as (zPre G A Y)) (va_Qv post (zB G A) (zAd A)) 0 0 (zAd A)
theorem zWs_in {y : MethodName} {b : ByteArray} {n : Nat} {rt : Option FieldType} {args : Array Value} {s : State} (h : ∀ w ∈ zWs y b n rt, w.before args s = true) : ∀ w ∈ wsL_law, w.before args s = true := fun w hw => h w (List.mem_cons_of_mem _ hw)
set_option maxRecDepth 100000 in
theorem zGoodL : wsL_law.all goodWord = true := by decide +kernel
theorem zGood {y : MethodName} {b : ByteArray} {n : Nat} {rt : Option FieldType} (h : Cond.code y b n rt ∈ wsL_law) : GoodIn wsL_law (zWs y b n rt) := goodIn_sub (fun w hw => (List.mem_cons.mp hw).elim (fun e => e ▸ h) id) (by
  rw [List.all_eq_true]
  intro w hw
  exact List.all_eq_true.mp zGoodL w ((List.mem_cons.mp hw).elim (fun e => e ▸ h) id))
theorem ZI.enter {l : Launch} {y : MethodName} {b : ByteArray} {n : Nat} {rt : FieldType} {fr lo : Nat} {G : zG} {A : Nat → Nat} {Y : zY} {as : List Value} {post : Int32 → zY → Prop} (hy : plainName y.cls = true) (hn : (lg_sl as).length ≤ n)
    (body : ∀ (p : Program) (e : Env) (s : State) (m : MethodId) (args : Array Value) (below : List Frame) (meth : Method) (c : Code) (R : Room) (Q : State → Prop), p.tables.exec = Jvm.exec → c.code = b → CallFix p m c b n s args wsL_law y.cls → zK G A s → fr ≤ R.frames → lo ≤ R.locals → 
      (∀ (v : Int32) (Y' : zY) (H : Heap) (locs : List Loc) (pc : Nat) (ls : Array Slot), decode b pc = .ok (.ireturn, 1) → narrow rt (.int v) = .int v → va_P G.1 vwCl (zW G A Y') H → va_S (zAd A) s.heap H locs → post v Y' → W p l e R s m args below meth c H locs 0 0 Q (F0 m pc ls [.int v])) →
      ∀ (H : Heap) (ls : Array Slot), va_P G.1 vwCl (zW G A Y) H → va_S (zAd A) s.heap H [] → lv_has ls n (lv_args 0 as) → W p l e R s m args below meth c H [] 0 0 Q (F0 m 0 ls [])) : ZI l y b n rt fr lo G A Y as post := by
  refine Met.ofW (cc := b) (maxL := n) (ret := some rt) hy rfl ?_
  intro p e s m args below meth c s₁ B hml hv
  obtain ⟨rfl, hP, hK⟩ := hv
  have hts := atoms_spec (ws := zWs y b n (some rt)) B.pre
  have hown : s.vm.findClass y.cls = some m.cls := findClass_of_methodNamed B.named
  have hl := lv_entry as (n := n) hn
  rw [lg_entry_eq]
  refine body p e s m as.toArray below meth c _ _ B.exec B.bytes ⟨B.exec, B.bytes, hml, hown, zWs_in hts⟩ hK (Nat.le_refl _) (Nat.le_refl _) ?_ s.heap _ hP va_S.rf hl
  intro v Y' H locs pc ls hdg hnar hP' hS hpost
  exact W.zret (v := v) B.exec B.bytes B.returns hnar (fun t ht hW => ⟨⟨v, Y', rfl, hpost, by show va_P _ _ _ t.heap; rw [ht]; exact hP'⟩, hS.F ht⟩) hS.2.2 hdg B.notSynchronized
theorem ZV.enter {l : Launch} {y : MethodName} {b : ByteArray} {n : Nat} {fr lo : Nat} {G : zG} {A : Nat → Nat} {Y : zY} {as : List Value} {post : zY → Prop} (hy : plainName y.cls = true) (hn : (lg_sl as).length ≤ n)
    (body : ∀ (p : Program) (e : Env) (s : State) (m : MethodId) (args : Array Value) (below : List Frame) (meth : Method) (c : Code) (R : Room) (Q : State → Prop), p.tables.exec = Jvm.exec → c.code = b → CallFix p m c b n s args wsL_law y.cls → zK G A s → fr ≤ R.frames → lo ≤ R.locals → 
      (∀ (Y' : zY) (H : Heap) (locs : List Loc) (pc : Nat) (ls : Array Slot), decode b pc = .ok (.return_, 1) → va_P G.1 vwCl (zW G A Y') H → va_S (zAd A) s.heap H locs → post Y' → W p l e R s m args below meth c H locs 0 0 Q (F0 m pc ls [])) →
      ∀ (H : Heap) (ls : Array Slot), va_P G.1 vwCl (zW G A Y) H → va_S (zAd A) s.heap H [] → lv_has ls n (lv_args 0 as) → W p l e R s m args below meth c H [] 0 0 Q (F0 m 0 ls [])) : ZV l y b n fr lo G A Y as post := by
  refine Met.ofW (cc := b) (maxL := n) (ret := none) hy rfl ?_
  intro p e s m args below meth c s₁ B hml hv
  obtain ⟨rfl, hP, hK⟩ := hv
  have hts := atoms_spec (ws := zWs y b n none) B.pre
  have hown : s.vm.findClass y.cls = some m.cls := findClass_of_methodNamed B.named
  have hl := lv_entry as (n := n) hn
  rw [lg_entry_eq]
  refine body p e s m as.toArray below meth c _ _ B.exec B.bytes ⟨B.exec, B.bytes, hml, hown, zWs_in hts⟩ hK (Nat.le_refl _) (Nat.le_refl _) ?_ s.heap _ hP va_S.rf hl
  intro Y' H locs pc ls hdg hP' hS hpost
  exact W.vret B.exec B.bytes B.returns (fun t ht hW => ⟨⟨Y', rfl, hpost, by show va_P _ _ _ t.heap; rw [ht]; exact hP'⟩, hS.F ht⟩) hS.2.2 hdg B.notSynchronized
section ZR
variable {p : Program} {l : Launch} {e : Env} {R : Room} {s : State} {m : MethodId} {args : Array Value} {below : List Frame} {meth : Method} {c : Code} {H : Heap} {locs : List Loc} {cells slots : Nat} {Q : State → Prop}
variable {cc : ByteArray} {pc nL : Nat} {ls : Array Slot} {rest : List Value} {G : zG} {A : Nat → Nat} {Y : zY} {B0 : Nat → Prop} {H0 : Heap} {own : String}
/-- a call of a method with a number as its answer: invokevirtual -/
theorem ZI.callV (S : CallFix p m c cc nL s args wsL_law own) (hK : zK G A s) (hP : va_P G.1 vwCl (zW G A Y) H) (hS : va_S B0 H0 H locs) (hB : ∀ q, zAd A q → B0 q) {y : MethodName} {b : ByteArray} {n : Nat} {rt : FieldType} {fr lo : Nat} {as : List Value} {post : Int32 → zY → Prop} {p0 ci : Nat} {fs : List Value}
    (hM : ZI l y b n rt fr lo G A Y (.ref (A p0) :: as) post) {index : Nat} (hw : ∀ w ∈ ([.methodLink own index y, .instanceMethod y, .selects y.cls y y, .initialized y.cls, .code y b n (some rt)] : List Cond), w ∈ wsL_law)
    {k9 : Nat} (hd : y.cls ≠ "java/lang/invoke/MethodHandle" ∧ y.cls ≠ "java/lang/invoke/VarHandle" ∧ (parseMethodDescriptor y.desc).map (fun d => d.parameters.length) = some k9) (hk9 : as.length = k9) (hR : fr + 1 ≤ R.frames ∧ 8 + (n + 11) + lo ≤ R.locals)
    (h0 : p0 < 117) (he : zc G A Y p0 = .inr (ci, fs)) {T : u_T} {N : Nat} (hc : vwCl[ci]? = some (y.cls, T, N)) {st : List Value} (hst : st = as.reverse ++ .ref (A p0) :: rest) (hr8 : (rest.map fun v => v.category).sum ≤ 8) (hl : ls.size = nL) (hdg : decode cc pc = .ok (.invokevirtual index, 3)) (hf : cells + 0 ≤ R.cells ∧ slots + 0 ≤ R.slots)
    (kk : ∀ (r : Int32) (Y' : zY) (H1 : Heap) (locs1 : List Loc), post r Y' → va_P G.1 vwCl (zW G A Y') H1 → va_S B0 H0 H1 locs1 → W p l e R s m args below meth c H1 locs1 cells slots Q (F0 m (pc + 3) ls (.int r :: rest))) : W p l e R s m args below meth c H locs cells slots Q (F0 m pc ls st) := by
  subst hst
  subst hk9
  have hG : GoodIn wsL_law (wsV own index y.cls y (zWs y b n (some rt))) := goodIn_app (goodIn_sub (fun w h => hw w (by simp at h ⊢; rcases h with h | h | h | h <;> simp [h])) (by
    rw [List.all_eq_true]
    intro w h
    exact List.all_eq_true.mp zGoodL w (hw w (by simp at h ⊢; rcases h with h | h | h | h <;> simp [h])))) (zGood (hw _ (by simp)))
  have hrec := va_recv hK.1 hP hc (by rw [zW_get h0, he])
  refine va_calli (va_runV (As := as) (rest := rest) S hM (cwV as.length S.2.2.2.2 hG rfl rfl rfl ⟨rfl, hd⟩ hR) ⟨zBlind, hrec, fun U hU hW => ⟨rfl, by rw [hU]; exact hP, hK.warm hW⟩⟩ rfl rfl hl rfl (lv_room hr8) hdg hf) hS (fun q _ h => hB q h) hB (fun r u t H1 locs1 ht hvm hw hb hz hk1 hS1 => ?_)
  have hb : va_P _ _ _ t.heap := hb
  rw [ht] at hb
  exact kk r u H1 locs1 hw hb hS1
theorem ZV.callV (S : CallFix p m c cc nL s args wsL_law own) (hK : zK G A s) (hP : va_P G.1 vwCl (zW G A Y) H) (hS : va_S B0 H0 H locs) (hB : ∀ q, zAd A q → B0 q) {y : MethodName} {b : ByteArray} {n : Nat} {fr lo : Nat} {as : List Value} {post : zY → Prop} {p0 ci : Nat} {fs : List Value}
    (hM : ZV l y b n fr lo G A Y (.ref (A p0) :: as) post) {index : Nat} (hw : ∀ w ∈ ([.methodLink own index y, .instanceMethod y, .selects y.cls y y, .initialized y.cls, .code y b n none] : List Cond), w ∈ wsL_law)
    {k9 : Nat} (hd : y.cls ≠ "java/lang/invoke/MethodHandle" ∧ y.cls ≠ "java/lang/invoke/VarHandle" ∧ (parseMethodDescriptor y.desc).map (fun d => d.parameters.length) = some k9) (hk9 : as.length = k9) (hR : fr + 1 ≤ R.frames ∧ 8 + (n + 11) + lo ≤ R.locals)
    (h0 : p0 < 117) (he : zc G A Y p0 = .inr (ci, fs)) {T : u_T} {N : Nat} (hc : vwCl[ci]? = some (y.cls, T, N)) {st : List Value} (hst : st = as.reverse ++ .ref (A p0) :: rest) (hr8 : (rest.map fun v => v.category).sum ≤ 8) (hl : ls.size = nL) (hdg : decode cc pc = .ok (.invokevirtual index, 3)) (hf : cells + 0 ≤ R.cells ∧ slots + 0 ≤ R.slots)
    (kk : ∀ (Y' : zY) (H1 : Heap) (locs1 : List Loc), post Y' → va_P G.1 vwCl (zW G A Y') H1 → va_S B0 H0 H1 locs1 → W p l e R s m args below meth c H1 locs1 cells slots Q (F0 m (pc + 3) ls rest)) : W p l e R s m args below meth c H locs cells slots Q (F0 m pc ls st) := by
  subst hst
  subst hk9
  have hG : GoodIn wsL_law (wsV own index y.cls y (zWs y b n none)) := goodIn_app (goodIn_sub (fun w h => hw w (by simp at h ⊢; rcases h with h | h | h | h <;> simp [h])) (by
    rw [List.all_eq_true]
    intro w h
    exact List.all_eq_true.mp zGoodL w (hw w (by simp at h ⊢; rcases h with h | h | h | h <;> simp [h])))) (zGood (hw _ (by simp)))
  have hrec := va_recv hK.1 hP hc (by rw [zW_get h0, he])
  refine va_callv (va_runV (As := as) (rest := rest) S hM (cwV as.length S.2.2.2.2 hG rfl rfl rfl ⟨rfl, hd⟩ hR) ⟨zBlind, hrec, fun U hU hW => ⟨rfl, by rw [hU]; exact hP, hK.warm hW⟩⟩ rfl rfl hl rfl (lv_room hr8) hdg hf) hS (fun q _ h => hB q h) hB (fun u t H1 locs1 ht hvm hw hb hz hk1 hS1 => ?_)
  have hb : va_P _ _ _ t.heap := hb
  rw [ht] at hb
  exact kk u H1 locs1 hw hb hS1
/-- a static method of its own class -/
theorem ZI.callS (S : CallFix p m c cc nL s args wsL_law own) (hK : zK G A s) (hP : va_P G.1 vwCl (zW G A Y) H) (hS : va_S B0 H0 H locs) (hB : ∀ q, zAd A q → B0 q) {y : MethodName} {b : ByteArray} {n : Nat} {rt : FieldType} {fr lo : Nat} {as : List Value} {post : Int32 → zY → Prop}
    (hM : ZI l y b n rt fr lo G A Y as post) {index : Nat} (hw : ∀ w ∈ ([.methodLink own index y, .static y, .initialized y.cls, .code y b n (some rt)] : List Cond), w ∈ wsL_law)
    {k9 : Nat} (hd : y.cls ≠ "java/lang/invoke/MethodHandle" ∧ y.cls ≠ "java/lang/invoke/VarHandle" ∧ (parseMethodDescriptor y.desc).map (fun d => d.parameters.length) = some k9) (hk9 : as.length = k9) (hR : fr + 1 ≤ R.frames ∧ 8 + (n + 11) + lo ≤ R.locals)
    {st : List Value} (hst : st = as.reverse ++ rest) (hr8 : (rest.map fun v => v.category).sum ≤ 8) (hl : ls.size = nL) (hdg : decode cc pc = .ok (.invokestatic index, 3)) (hf : cells + 0 ≤ R.cells ∧ slots + 0 ≤ R.slots)
    (kk : ∀ (r : Int32) (Y' : zY) (H1 : Heap) (locs1 : List Loc), post r Y' → va_P G.1 vwCl (zW G A Y') H1 → va_S B0 H0 H1 locs1 → W p l e R s m args below meth c H1 locs1 cells slots Q (F0 m (pc + 3) ls (.int r :: rest))) : W p l e R s m args below meth c H locs cells slots Q (F0 m pc ls st) := by
  subst hst
  subst hk9
  have hG : GoodIn wsL_law (va_wsS own index y (zWs y b n (some rt))) := goodIn_app (goodIn_sub (fun w h => hw w (by simp at h ⊢; rcases h with h | h | h <;> simp [h])) (by
    rw [List.all_eq_true]
    intro w h
    exact List.all_eq_true.mp zGoodL w (hw w (by simp at h ⊢; rcases h with h | h | h <;> simp [h])))) (zGood (hw _ (by simp)))
  refine va_calli (va_runS (As := as) (rest := rest) S hM (va_cwS as.length S.2.2.2.2 hG rfl rfl rfl hd hR) ⟨zBlind, fun U hU hW => ⟨rfl, by rw [hU]; exact hP, hK.warm hW⟩⟩ rfl rfl hl rfl (lv_room hr8) hdg hf) hS (fun q _ h => hB q h) hB (fun r u t H1 locs1 ht hvm hw hb hz hk1 hS1 => ?_)
  have hb : va_P _ _ _ t.heap := hb
  rw [ht] at hb
  exact kk r u H1 locs1 hw hb hS1
/-- a nest mate's private method -/
theorem ZI.callVN (S : CallFix p m c cc nL s args wsL_law own) (hK : zK G A s) (hP : va_P G.1 vwCl (zW G A Y) H) (hS : va_S B0 H0 H locs) (hB : ∀ q, zAd A q → B0 q) {y : MethodName} {b : ByteArray} {n : Nat} {rt : FieldType} {fr lo : Nat} {as : List Value} {post : Int32 → zY → Prop} {p0 ci : Nat} {fs : List Value}
    (hM : ZI l y b n rt fr lo G A Y (.ref (A p0) :: as) post) {index : Nat} (hn : (own, index, y) ∈ zNM) (hw : ∀ w ∈ ([.instanceMethod y, .selects y.cls y y, .initialized y.cls, .code y b n (some rt)] : List Cond), w ∈ wsL_law)
    {k9 : Nat} (hd : y.cls ≠ "java/lang/invoke/MethodHandle" ∧ y.cls ≠ "java/lang/invoke/VarHandle" ∧ (parseMethodDescriptor y.desc).map (fun d => d.parameters.length) = some k9) (hk9 : as.length = k9) (hR : fr + 1 ≤ R.frames ∧ 8 + (n + 11) + lo ≤ R.locals)
    (h0 : p0 < 117) (he : zc G A Y p0 = .inr (ci, fs)) {T : u_T} {N : Nat} (hc : vwCl[ci]? = some (y.cls, T, N)) {st : List Value} (hst : st = as.reverse ++ .ref (A p0) :: rest) (hr8 : (rest.map fun v => v.category).sum ≤ 8) (hl : ls.size = nL) (hdg : decode cc pc = .ok (.invokevirtual index, 3)) (hf : cells + 0 ≤ R.cells ∧ slots + 0 ≤ R.slots)
    (kk : ∀ (r : Int32) (Y' : zY) (H1 : Heap) (locs1 : List Loc), post r Y' → va_P G.1 vwCl (zW G A Y') H1 → va_S B0 H0 H1 locs1 → W p l e R s m args below meth c H1 locs1 cells slots Q (F0 m (pc + 3) ls (.int r :: rest))) : W p l e R s m args below meth c H locs cells slots Q (F0 m pc ls st) := by
  subst hst
  subst hk9
  have hrec := va_recv hK.1 hP hc (by rw [zW_get h0, he])
  have hT := S.2.2.2.2
  refine va_calli (va_runVN (As := as) (rest := rest) (host := "FuzzyFinder") S hM ⟨va_cnB as.length hT (zGood (hw _ (by simp))) rfl rfl rfl (hK.2.1.2 _ hn) (hT _ (hw _ (by simp))) hd hR, hT _ (hw _ (by simp)), hT _ (hw _ (by simp))⟩ ⟨zBlind, hrec, fun U hU hW => ⟨rfl, by rw [hU]; exact hP, hK.warm hW⟩⟩ rfl rfl hl rfl (lv_room hr8) hdg hf) hS (fun q _ h => hB q h) hB (fun r u t H1 locs1 ht hvm hw hb hz hk1 hS1 => ?_)
  have hb : va_P _ _ _ t.heap := hb
  rw [ht] at hb
  exact kk r u H1 locs1 hw hb hS1
theorem ZV.callVN (S : CallFix p m c cc nL s args wsL_law own) (hK : zK G A s) (hP : va_P G.1 vwCl (zW G A Y) H) (hS : va_S B0 H0 H locs) (hB : ∀ q, zAd A q → B0 q) {y : MethodName} {b : ByteArray} {n : Nat} {fr lo : Nat} {as : List Value} {post : zY → Prop} {p0 ci : Nat} {fs : List Value}
    (hM : ZV l y b n fr lo G A Y (.ref (A p0) :: as) post) {index : Nat} (hn : (own, index, y) ∈ zNM) (hw : ∀ w ∈ ([.instanceMethod y, .selects y.cls y y, .initialized y.cls, .code y b n none] : List Cond), w ∈ wsL_law)
    {k9 : Nat} (hd : y.cls ≠ "java/lang/invoke/MethodHandle" ∧ y.cls ≠ "java/lang/invoke/VarHandle" ∧ (parseMethodDescriptor y.desc).map (fun d => d.parameters.length) = some k9) (hk9 : as.length = k9) (hR : fr + 1 ≤ R.frames ∧ 8 + (n + 11) + lo ≤ R.locals)
    (h0 : p0 < 117) (he : zc G A Y p0 = .inr (ci, fs)) {T : u_T} {N : Nat} (hc : vwCl[ci]? = some (y.cls, T, N)) {st : List Value} (hst : st = as.reverse ++ .ref (A p0) :: rest) (hr8 : (rest.map fun v => v.category).sum ≤ 8) (hl : ls.size = nL) (hdg : decode cc pc = .ok (.invokevirtual index, 3)) (hf : cells + 0 ≤ R.cells ∧ slots + 0 ≤ R.slots)
    (kk : ∀ (Y' : zY) (H1 : Heap) (locs1 : List Loc), post Y' → va_P G.1 vwCl (zW G A Y') H1 → va_S B0 H0 H1 locs1 → W p l e R s m args below meth c H1 locs1 cells slots Q (F0 m (pc + 3) ls rest)) : W p l e R s m args below meth c H locs cells slots Q (F0 m pc ls st) := by
  subst hst
  subst hk9
  have hrec := va_recv hK.1 hP hc (by rw [zW_get h0, he])
  have hT := S.2.2.2.2
  refine va_callv (va_runVN (As := as) (rest := rest) (host := "FuzzyFinder") S hM ⟨va_cnB as.length hT (zGood (hw _ (by simp))) rfl rfl rfl (hK.2.1.2 _ hn) (hT _ (hw _ (by simp))) hd hR, hT _ (hw _ (by simp)), hT _ (hw _ (by simp))⟩ ⟨zBlind, hrec, fun U hU hW => ⟨rfl, by rw [hU]; exact hP, hK.warm hW⟩⟩ rfl rfl hl rfl (lv_room hr8) hdg hf) hS (fun q _ h => hB q h) hB (fun u t H1 locs1 ht hvm hw hb hz hk1 hS1 => ?_)
  have hb : va_P _ _ _ t.heap := hb
  rw [ht] at hb
  exact kk u H1 locs1 hw hb hS1
/-- a nest mate's private static method -/
theorem ZI.callSN (S : CallFix p m c cc nL s args wsL_law own) (hK : zK G A s) (hP : va_P G.1 vwCl (zW G A Y) H) (hS : va_S B0 H0 H locs) (hB : ∀ q, zAd A q → B0 q) {y : MethodName} {b : ByteArray} {n : Nat} {rt : FieldType} {fr lo : Nat} {as : List Value} {post : Int32 → zY → Prop}
    (hM : ZI l y b n rt fr lo G A Y as post) {index : Nat} (hn : (own, index, y) ∈ zNM) (hw : ∀ w ∈ ([.static y, .initialized y.cls, .code y b n (some rt)] : List Cond), w ∈ wsL_law)
    {k9 : Nat} (hd : y.cls ≠ "java/lang/invoke/MethodHandle" ∧ y.cls ≠ "java/lang/invoke/VarHandle" ∧ (parseMethodDescriptor y.desc).map (fun d => d.parameters.length) = some k9) (hk9 : as.length = k9) (hR : fr + 1 ≤ R.frames ∧ 8 + (n + 11) + lo ≤ R.locals)
    {st : List Value} (hst : st = as.reverse ++ rest) (hr8 : (rest.map fun v => v.category).sum ≤ 8) (hl : ls.size = nL) (hdg : decode cc pc = .ok (.invokestatic index, 3)) (hf : cells + 0 ≤ R.cells ∧ slots + 0 ≤ R.slots)
    (kk : ∀ (r : Int32) (Y' : zY) (H1 : Heap) (locs1 : List Loc), post r Y' → va_P G.1 vwCl (zW G A Y') H1 → va_S B0 H0 H1 locs1 → W p l e R s m args below meth c H1 locs1 cells slots Q (F0 m (pc + 3) ls (.int r :: rest))) : W p l e R s m args below meth c H locs cells slots Q (F0 m pc ls st) := by
  subst hst
  subst hk9
  have hT := S.2.2.2.2
  refine va_calli (va_runSN (As := as) (rest := rest) (host := "FuzzyFinder") S hM ⟨va_cnB as.length hT (zGood (hw _ (by simp))) rfl rfl rfl (hK.2.1.2 _ hn) (hT _ (hw _ (by simp))) hd hR, hT _ (hw _ (by simp)), trivial⟩ ⟨zBlind, fun U hU hW => ⟨rfl, by rw [hU]; exact hP, hK.warm hW⟩⟩ rfl rfl hl rfl (lv_room hr8) hdg hf) hS (fun q _ h => hB q h) hB (fun r u t H1 locs1 ht hvm hw hb hz hk1 hS1 => ?_)
  have hb : va_P _ _ _ t.heap := hb
  rw [ht] at hb
  exact kk r u H1 locs1 hw hb hS1
/-- a field of its own class -/
theorem zget (S : CallFix p m c cc nL s args wsL_law own) (hK : zK G A s) (hP : va_P G.1 vwCl (zW G A Y) H) (p0 : Nat) (hp : p0 < 117) {ci : Nat} {fs : List Value} (he : zc G A Y p0 = .inr (ci, fs)) {C : String} {T : u_T} {N : Nat} (hc : vwCl[ci]? = some (C, T, N)) (hin : ∀ w ∈ u_ws C T N, w ∈ wsL_law) (k : Nat) (hk : k < N) {index : Nat} (hl : Cond.fieldLink own index (T k).1 (T k).2.1 (T k).2.2.1 ∈ wsL_law) {v : Value} (hv : fs[k]? = some v) (hdg : decode cc pc = .ok (.getfield index, 3))
    (kk : W p l e R s m args below meth c H locs cells slots Q (F0 m (pc + 3) ls (v :: rest))) : W p l e R s m args below meth c H locs cells slots Q (F0 m pc ls (.ref (A p0) :: rest)) :=
  va_get (D := G.1) S.1 S.2.1 S.2.2.2.2 hin S.2.2.2.1 hK.1 hP p0 (by rw [zW_get hp, he]) hc k hk (S.2.2.2.2 _ hl) (fun _ h => h) hv hdg kk
/-- a field of a nest mate -/
theorem zgetN (S : CallFix p m c cc nL s args wsL_law own) (hK : zK G A s) (hP : va_P G.1 vwCl (zW G A Y) H) (p0 : Nat) (hp : p0 < 117) {ci : Nat} {fs : List Value} (he : zc G A Y p0 = .inr (ci, fs)) {C : String} {T : u_T} {N : Nat} (hc : vwCl[ci]? = some (C, T, N)) (hin : ∀ w ∈ u_ws C T N, w ∈ wsL_law) (k : Nat) (hk : k < N) {index : Nat} (hl : (own, index, (T k).1, (T k).2.1, (T k).2.2.1) ∈ zNF) {v : Value} (hv : fs[k]? = some v) (hdg : decode cc pc = .ok (.getfield index, 3))
    (kk : W p l e R s m args below meth c H locs cells slots Q (F0 m (pc + 3) ls (v :: rest))) : W p l e R s m args below meth c H locs cells slots Q (F0 m pc ls (.ref (A p0) :: rest)) :=
  va_getN (D := G.1) (host := "FuzzyFinder") S.1 S.2.1 S.2.2.2.2 hin S.2.2.2.1 hK.1 hP p0 (by rw [zW_get hp, he]) hc k hk (va_Nw.use rfl (hK.2.1.1 _ hl)) (fun _ h => h) hv hdg kk
theorem zput (S : CallFix p m c cc nL s args wsL_law own) (hK : zK G A s) (hP : va_P G.1 vwCl (zW G A Y) H) (hS : va_S B0 H0 H locs) (hB : ∀ q, zAd A q → B0 q) (p0 : Nat) (hp : p0 < 117) {ci : Nat} {fs : List Value} (he : zc G A Y p0 = .inr (ci, fs)) {C : String} {T : u_T} {N : Nat} (hc : vwCl[ci]? = some (C, T, N)) (hin : ∀ w ∈ u_ws C T N, w ∈ wsL_law) (ty0 : Nat → FieldType) (hty : ∀ k, k < N → parseFieldDescriptor (T k).2.2.1 = some (ty0 k)) (hnm : ∀ a, a < N → ∀ b, b < N → a ≠ b → (T a).2.1 ≠ (T b).2.1) (k : Nat) (hk : k < N) {index : Nat} (hl : Cond.fieldLink own index (T k).1 (T k).2.1 (T k).2.2.1 ∈ wsL_law) (hfin : (T k).2.2.2 = false) {ty : FieldType} {v : Int32} (hd : parseFieldDescriptor (T k).2.2.1 = some ty) (hn : narrow ty (.int v) = .int v) (hfit : fits ty (.int v) = true) (hlen : k < fs.length)
    (hset : zc G A (zU Y p0 k v) p0 = .inr (ci, fs.set k (.int v))) (hdg : decode cc pc = .ok (.putfield index, 3))
    (kk : ∀ (H1 : Heap) (locs1 : List Loc), va_P G.1 vwCl (zW G A (zU Y p0 k v)) H1 → va_S B0 H0 H1 locs1 → W p l e R s m args below meth c H1 locs1 cells slots Q (F0 m (pc + 3) ls rest)) : W p l e R s m args below meth c H locs cells slots Q (F0 m pc ls (.int v :: .ref (A p0) :: rest)) := by
  refine va_put (D := G.1) S.1 S.2.1 S.2.2.2.2 hin ty0 hty hnm S.2.2.2.1 hK.1 hP ((zW_D hK.2.2).weaken (fun _ _ _ h => hB _ h)) hS p0 (by rw [zW_get hp, he]) hc k hk (S.2.2.2.2 _ hl) (fun _ h => h) hfin hd hn hfit hlen hdg (fun H1 locs1 hP1 _ hS1 => ?_)
  rw [zW_set hp hset (fun q hq => zU_row hq)] at hP1
  exact kk H1 locs1 hP1 hS1
/-- rows of ints and of chars -/
theorem zald (S : CallFix p m c cc nL s args wsL_law own) (hK : zK G A s) (hP : va_P G.1 vwCl (zW G A Y) H) (p0 n : Nat) (hp : p0 < 117) (hz : zk p0 = 8) (hn : zl p0 = n) {i : Int32} (hin : vp_in i n) {v : Int32} (hv : Y p0 i.toNatClampNeg = v) (hdg : decode cc pc = .ok (.iaload, 1))
    (kk : W p l e R s m args below meth c H locs cells slots Q (F0 m (pc + 1) ls (.int v :: rest))) : W p l e R s m args below meth c H locs cells slots Q (F0 m pc ls (.int i :: .ref (A p0) :: rest)) := by
  subst hn; subst hv
  exact va_iald (D := G.1) S.1 S.2.1 hK.1 hP p0 0 (cA := G.2.1) (n := zl p0) (f := Y p0) (by rw [zW_get hp]; simp [zc, hz]) rfl hin hdg kk
theorem zcald (S : CallFix p m c cc nL s args wsL_law own) (hK : zK G A s) (hP : va_P G.1 vwCl (zW G A Y) H) (p0 n : Nat) (hp : p0 < 117) (hz : zk p0 = 7) (hn : zl p0 = n) {i : Int32} (hin : vp_in i n) {v : Int32} (hv : Y p0 i.toNatClampNeg = v) (hdg : decode cc pc = .ok (.caload, 1))
    (kk : W p l e R s m args below meth c H locs cells slots Q (F0 m (pc + 1) ls (.int v :: rest))) : W p l e R s m args below meth c H locs cells slots Q (F0 m pc ls (.int i :: .ref (A p0) :: rest)) := by
  subst hn; subst hv
  exact va_cald (D := G.1) S.1 S.2.1 hK.1 hP p0 1 (cA := G.2.2.1) (n := zl p0) (f := Y p0) (by rw [zW_get hp]; simp [zc, hz]) rfl hin hdg kk
theorem zast (S : CallFix p m c cc nL s args wsL_law own) (hK : zK G A s) (hP : va_P G.1 vwCl (zW G A Y) H) (hS : va_S B0 H0 H locs) (hB : ∀ q, zAd A q → B0 q) (p0 n : Nat) (hp : p0 < 117) (hz : zk p0 = 8) (hn : zl p0 = n) {i v : Int32} {j : Nat} (hin : vp_in i n) (hj : i.toNatClampNeg = j) (hdg : decode cc pc = .ok (.iastore, 1))
    (kk : ∀ (H1 : Heap) (locs1 : List Loc), va_P G.1 vwCl (zW G A (zU Y p0 j v)) H1 → va_S B0 H0 H1 locs1 → W p l e R s m args below meth c H1 locs1 cells slots Q (F0 m (pc + 1) ls rest)) : W p l e R s m args below meth c H locs cells slots Q (F0 m pc ls (.int v :: .int i :: .ref (A p0) :: rest)) := by
  subst hn; subst hj
  refine va_iast (D := G.1) S.1 S.2.1 hK.1 hP ((zW_D hK.2.2).weaken (fun _ _ _ h => hB _ h)) hS p0 0 (cA := G.2.1) (n := zl p0) (f := Y p0) (by rw [zW_get hp]; simp [zc, hz]) rfl hin hdg (fun H1 locs1 hP1 _ hS1 => ?_)
  rw [zW_set (Z := zU Y p0 i.toNatClampNeg v) hp (by simp [zc, hz, zU_upd]) (fun q hq => zU_row hq)] at hP1
  exact kk H1 locs1 hP1 hS1
theorem zcast (S : CallFix p m c cc nL s args wsL_law own) (hK : zK G A s) (hP : va_P G.1 vwCl (zW G A Y) H) (hS : va_S B0 H0 H locs) (hB : ∀ q, zAd A q → B0 q) (p0 n : Nat) (hp : p0 < 117) (hz : zk p0 = 7) (hn : zl p0 = n) {i v : Int32} {j : Nat} (hin : vp_in i n) (hj : i.toNatClampNeg = j) (hv : vp_nar .char v = v) (hdg : decode cc pc = .ok (.castore, 1))
    (kk : ∀ (H1 : Heap) (locs1 : List Loc), va_P G.1 vwCl (zW G A (zU Y p0 j v)) H1 → va_S B0 H0 H1 locs1 → W p l e R s m args below meth c H1 locs1 cells slots Q (F0 m (pc + 1) ls rest)) : W p l e R s m args below meth c H locs cells slots Q (F0 m pc ls (.int v :: .int i :: .ref (A p0) :: rest)) := by
  subst hn; subst hj
  refine va_cast (D := G.1) S.1 S.2.1 hK.1 hP ((zW_D hK.2.2).weaken (fun _ _ _ h => hB _ h)) hS p0 1 (cA := G.2.2.1) (n := zl p0) (f := Y p0) (by rw [zW_get hp]; simp [zc, hz]) rfl hin hdg (fun H1 locs1 hP1 _ hS1 => ?_)
  rw [hv, zW_set (Z := zU Y p0 i.toNatClampNeg v) hp (by simp [zc, hz, zU_upd]) (fun q hq => zU_row hq)] at hP1
  exact kk H1 locs1 hP1 hS1
/-- a row of rows, or of objects -/
theorem zaldq (S : CallFix p m c cc nL s args wsL_law own) (hK : zK G A s) (hP : va_P G.1 vwCl (zW G A Y) H) (p0 t0 : Nat) (hp : p0 < 117) {cA : ClassId} {ty : FieldType} {n : Nat} {f : Nat → Option Nat} (he : zc G A Y p0 = .inl (cA, n, .inr (.inr (.inr (.inr f))))) (ht : (zTy G)[t0]? = some (cA, ty)) (hty : ty.isReference = true) {i : Int32} {q : Nat} (hin : vp_in i n) (hq : f i.toNatClampNeg = some q) (hdg : decode cc pc = .ok (.aaload, 1))
    (kk : W p l e R s m args below meth c H locs cells slots Q (F0 m (pc + 1) ls (.ref q :: rest))) : W p l e R s m args below meth c H locs cells slots Q (F0 m pc ls (.int i :: .ref (A p0) :: rest)) := by
  have hlt : i.toNatClampNeg < n := Nat.not_le.mp fun z => hin (Or.inr z)
  have ha : (zW G A Y)[p0]? = some (A p0, .inl (cA, n, .inr (.inr (.inr (.inr f))))) := by rw [zW_get hp, he]
  exact W.aald (v := .ref q) (ty := ty) S.1 S.2.1 (hP p0 _ ha) ((hK.1.2 t0 _ ht).1 n (fun j => va_rf (f j))) hty (fun z => by cases z) (by show ¬ (i < 0 ∨ (arrV _ _ _).slots.size ≤ _); rw [arrV_size]; exact hin) (by show (arrV _ _ _).slots[_]? = _; rw [arrV_read _ _ hlt, hq]; rfl) rfl rfl hdg kk
/-- the same with numbers that are not negative -/
theorem zaddN (S : CallFix p m c cc nL s args wsL_law own) {a b : Nat} (hdg : decode cc pc = .ok (.iadd, 1)) (kk : W p l e R s m args below meth c H locs cells slots Q (F0 m (pc + 1) ls (.int (nI (a + b)) :: rest))) : W p l e R s m args below meth c H locs cells slots Q (F0 m pc ls (.int (nI b) :: .int (nI a) :: rest)) :=
  lv_iadd S.1 S.2.1 hdg (by rw [nI_add]; exact kk)
theorem zsubN (S : CallFix p m c cc nL s args wsL_law own) {a b : Nat} (h : b ≤ a) (hdg : decode cc pc = .ok (.isub, 1)) (kk : W p l e R s m args below meth c H locs cells slots Q (F0 m (pc + 1) ls (.int (nI (a - b)) :: rest))) : W p l e R s m args below meth c H locs cells slots Q (F0 m pc ls (.int (nI b) :: .int (nI a) :: rest)) :=
  lv_isub S.1 S.2.1 hdg (by rw [pk_sub h]; exact kk)
theorem zmulN (S : CallFix p m c cc nL s args wsL_law own) {a b : Nat} (hdg : decode cc pc = .ok (.imul, 1)) (kk : W p l e R s m args below meth c H locs cells slots Q (F0 m (pc + 1) ls (.int (nI (a * b)) :: rest))) : W p l e R s m args below meth c H locs cells slots Q (F0 m pc ls (.int (nI b) :: .int (nI a) :: rest)) :=
  lv_imul S.1 S.2.1 hdg (by rw [pk_mul]; exact kk)
theorem zldc (S : CallFix p m c cc nL s args wsL_law own) {index : Nat} {v : Int32} (hl : Cond.constant own index v ∈ wsL_law) (hdg : decode cc pc = .ok (.ldc index, 2)) (kk : W p l e R s m args below meth c H locs cells slots Q (F0 m (pc + 2) ls (.int v :: rest))) : W p l e R s m args below meth c H locs cells slots Q (F0 m pc ls rest) :=
  lv_ldc S.1 S.2.1 S.2.2.2.1 (S.2.2.2.2 _ hl) hdg kk
end ZR
section ZN
variable {p : Program} {l : Launch} {e : Env} {R : Room} {s : State} {m : MethodId} {args : Array Value} {below : List Frame} {meth : Method} {c : Code} {H : Heap} {locs : List Loc} {cells slots : Nat} {Q : State → Prop}
variable {cc : ByteArray} {pc nL : Nat} {ls : Array Slot} {rest : List Value} {own : String}
theorem zcmp_eq (S : CallFix p m c cc nL s args wsL_law own) {a b : Nat} (ha : a < 2 ^ 31) (hb : b < 2 ^ 31) {off : Int} {tgt : Nat} (hdg : decode cc pc = .ok (.if_icmp .eq off, 3)) (ht : (pc : Int) + off = (tgt : Int)) (kt : a = b → W p l e R s m args below meth c H locs cells slots Q (F0 m tgt ls rest)) (kf : ¬ (a = b) → W p l e R s m args below meth c H locs cells slots Q (F0 m (pc + 3) ls rest)) : W p l e R s m args below meth c H locs cells slots Q (F0 m pc ls (.int (nI b) :: .int (nI a) :: rest)) :=
  lv_icmp_eq S.1 S.2.1 hdg ht (fun h => kt ((nI_eq ha hb).mp h)) (fun h => kf (fun z => h ((nI_eq ha hb).mpr z)))
theorem zcmp_ne (S : CallFix p m c cc nL s args wsL_law own) {a b : Nat} (ha : a < 2 ^ 31) (hb : b < 2 ^ 31) {off : Int} {tgt : Nat} (hdg : decode cc pc = .ok (.if_icmp .ne off, 3)) (ht : (pc : Int) + off = (tgt : Int)) (kt : a ≠ b → W p l e R s m args below meth c H locs cells slots Q (F0 m tgt ls rest)) (kf : a = b → W p l e R s m args below meth c H locs cells slots Q (F0 m (pc + 3) ls rest)) : W p l e R s m args below meth c H locs cells slots Q (F0 m pc ls (.int (nI b) :: .int (nI a) :: rest)) :=
  lv_icmp_ne S.1 S.2.1 hdg ht (fun h => kt ((not_congr (nI_eq ha hb)).mp h)) (fun h => kf ((nI_eq ha hb).mp h))
theorem zcmp_lt (S : CallFix p m c cc nL s args wsL_law own) {a b : Nat} (ha : a < 2 ^ 31) (hb : b < 2 ^ 31) {off : Int} {tgt : Nat} (hdg : decode cc pc = .ok (.if_icmp .lt off, 3)) (ht : (pc : Int) + off = (tgt : Int)) (kt : a < b → W p l e R s m args below meth c H locs cells slots Q (F0 m tgt ls rest)) (kf : ¬ (a < b) → W p l e R s m args below meth c H locs cells slots Q (F0 m (pc + 3) ls rest)) : W p l e R s m args below meth c H locs cells slots Q (F0 m pc ls (.int (nI b) :: .int (nI a) :: rest)) :=
  lv_icmp_lt S.1 S.2.1 hdg ht (fun h => kt ((nI_ltI ha hb).mp h)) (fun h => kf (fun z => h ((nI_ltI ha hb).mpr z)))
theorem zcmp_ge (S : CallFix p m c cc nL s args wsL_law own) {a b : Nat} (ha : a < 2 ^ 31) (hb : b < 2 ^ 31) {off : Int} {tgt : Nat} (hdg : decode cc pc = .ok (.if_icmp .ge off, 3)) (ht : (pc : Int) + off = (tgt : Int)) (kt : b ≤ a → W p l e R s m args below meth c H locs cells slots Q (F0 m tgt ls rest)) (kf : ¬ (b ≤ a) → W p l e R s m args below meth c H locs cells slots Q (F0 m (pc + 3) ls rest)) : W p l e R s m args below meth c H locs cells slots Q (F0 m pc ls (.int (nI b) :: .int (nI a) :: rest)) :=
  lv_icmp_ge S.1 S.2.1 hdg ht (fun h => kt ((nI_leI hb ha).mp h)) (fun h => kf (fun z => h ((nI_leI hb ha).mpr z)))
theorem zcmp_gt (S : CallFix p m c cc nL s args wsL_law own) {a b : Nat} (ha : a < 2 ^ 31) (hb : b < 2 ^ 31) {off : Int} {tgt : Nat} (hdg : decode cc pc = .ok (.if_icmp .gt off, 3)) (ht : (pc : Int) + off = (tgt : Int)) (kt : b < a → W p l e R s m args below meth c H locs cells slots Q (F0 m tgt ls rest)) (kf : ¬ (b < a) → W p l e R s m args below meth c H locs cells slots Q (F0 m (pc + 3) ls rest)) : W p l e R s m args below meth c H locs cells slots Q (F0 m pc ls (.int (nI b) :: .int (nI a) :: rest)) :=
  lv_icmp_gt S.1 S.2.1 hdg ht (fun h => kt ((nI_ltI hb ha).mp h)) (fun h => kf (fun z => h ((nI_ltI hb ha).mpr z)))
theorem zcmp_le (S : CallFix p m c cc nL s args wsL_law own) {a b : Nat} (ha : a < 2 ^ 31) (hb : b < 2 ^ 31) {off : Int} {tgt : Nat} (hdg : decode cc pc = .ok (.if_icmp .le off, 3)) (ht : (pc : Int) + off = (tgt : Int)) (kt : a ≤ b → W p l e R s m args below meth c H locs cells slots Q (F0 m tgt ls rest)) (kf : ¬ (a ≤ b) → W p l e R s m args below meth c H locs cells slots Q (F0 m (pc + 3) ls rest)) : W p l e R s m args below meth c H locs cells slots Q (F0 m pc ls (.int (nI b) :: .int (nI a) :: rest)) :=
  lv_icmp_le S.1 S.2.1 hdg ht (fun h => kt ((nI_leI ha hb).mp h)) (fun h => kf (fun z => h ((nI_leI ha hb).mpr z)))
theorem zif_eq (S : CallFix p m c cc nL s args wsL_law own) {a : Nat} (ha : a < 2 ^ 31) {off : Int} {tgt : Nat} (hdg : decode cc pc = .ok (.ifCond .eq off, 3)) (ht : (pc : Int) + off = (tgt : Int)) (kt : a = 0 → W p l e R s m args below meth c H locs cells slots Q (F0 m tgt ls rest)) (kf : ¬ (a = 0) → W p l e R s m args below meth c H locs cells slots Q (F0 m (pc + 3) ls rest)) : W p l e R s m args below meth c H locs cells slots Q (F0 m pc ls (.int (nI a) :: rest)) :=
  lv_if_eq S.1 S.2.1 hdg ht (fun h => kt ((nI_eq ha (b := 0) (by decide)).mp h)) (fun h => kf (fun z => h ((nI_eq ha (b := 0) (by decide)).mpr z)))
theorem zif_ne (S : CallFix p m c cc nL s args wsL_law own) {a : Nat} (ha : a < 2 ^ 31) {off : Int} {tgt : Nat} (hdg : decode cc pc = .ok (.ifCond .ne off, 3)) (ht : (pc : Int) + off = (tgt : Int)) (kt : a ≠ 0 → W p l e R s m args below meth c H locs cells slots Q (F0 m tgt ls rest)) (kf : a = 0 → W p l e R s m args below meth c H locs cells slots Q (F0 m (pc + 3) ls rest)) : W p l e R s m args below meth c H locs cells slots Q (F0 m pc ls (.int (nI a) :: rest)) :=
  lv_if_ne S.1 S.2.1 hdg ht (fun h => kt ((not_congr (nI_eq ha (b := 0) (by decide))).mp h)) (fun h => kf ((nI_eq ha (b := 0) (by decide)).mp h))
theorem zif_gt (S : CallFix p m c cc nL s args wsL_law own) {a : Nat} (ha : a < 2 ^ 31) {off : Int} {tgt : Nat} (hdg : decode cc pc = .ok (.ifCond .gt off, 3)) (ht : (pc : Int) + off = (tgt : Int)) (kt : 0 < a → W p l e R s m args below meth c H locs cells slots Q (F0 m tgt ls rest)) (kf : ¬ (0 < a) → W p l e R s m args below meth c H locs cells slots Q (F0 m (pc + 3) ls rest)) : W p l e R s m args below meth c H locs cells slots Q (F0 m pc ls (.int (nI a) :: rest)) :=
  lv_if_gt S.1 S.2.1 hdg ht (fun h => kt ((nI_ltI (a := 0) (by decide) ha).mp h)) (fun h => kf (fun z => h ((nI_ltI (a := 0) (by decide) ha).mpr z)))
theorem zif_le (S : CallFix p m c cc nL s args wsL_law own) {a : Nat} (ha : a < 2 ^ 31) {off : Int} {tgt : Nat} (hdg : decode cc pc = .ok (.ifCond .le off, 3)) (ht : (pc : Int) + off = (tgt : Int)) (kt : a = 0 → W p l e R s m args below meth c H locs cells slots Q (F0 m tgt ls rest)) (kf : ¬ (a = 0) → W p l e R s m args below meth c H locs cells slots Q (F0 m (pc + 3) ls rest)) : W p l e R s m args below meth c H locs cells slots Q (F0 m pc ls (.int (nI a) :: rest)) :=
  lv_if_le S.1 S.2.1 hdg ht (fun h => kt (((nI_leI ha (b := 0) (by decide)).trans (by omega)).mp h)) (fun h => kf (fun z => h (((nI_leI ha (b := 0) (by decide)).trans (by omega)).mpr z)))
theorem zif_lt (S : CallFix p m c cc nL s args wsL_law own) {a : Nat} (ha : a < 2 ^ 31) {off : Int} (hdg : decode cc pc = .ok (.ifCond .lt off, 3)) (ht : ∃ tgt : Nat, (pc : Int) + off = (tgt : Int)) (kf : W p l e R s m args below meth c H locs cells slots Q (F0 m (pc + 3) ls rest)) : W p l e R s m args below meth c H locs cells slots Q (F0 m pc ls (.int (nI a) :: rest)) :=
  lv_if_lt S.1 S.2.1 hdg ht.choose_spec (fun h => absurd h (nI_pos ha)) (fun _ => kf)
theorem zif_ge (S : CallFix p m c cc nL s args wsL_law own) {a : Nat} (ha : a < 2 ^ 31) {off : Int} {tgt : Nat} (hdg : decode cc pc = .ok (.ifCond .ge off, 3)) (ht : (pc : Int) + off = (tgt : Int)) (kt : W p l e R s m args below meth c H locs cells slots Q (F0 m tgt ls rest)) : W p l e R s m args below meth c H locs cells slots Q (F0 m pc ls (.int (nI a) :: rest)) :=
  lv_if_ge S.1 S.2.1 hdg ht (fun _ => kt) (fun h => absurd (nI_pos' ha) h)
end ZN
end
section
theorem zcK0 {G : zG} {A : Nat → Nat} {Y : zY} {p : Nat} (hz : zk p = 0) : zc G A Y p = .inr (5, [.ref (A 1), .int (Y p 1), .ref (A 2), .ref (A 11), .ref (A 16), .ref (A 18), .ref (A 45), .int (Y p 7), .int (Y p 8), .int (Y p 9)]) := by simp only [zc, hz]
theorem zcK1 {G : zG} {A : Nat → Nat} {Y : zY} {p : Nat} (hz : zk p = 1) : zc G A Y p = .inr (2, [.ref (A 3), .int (Y p 1), .int (Y p 2), .ref (A 8), .ref (A 9), .ref (A 10), .int (Y p 6), .int (Y p 7), .int (Y p 8)]) := by simp only [zc, hz]
theorem zcK2 {G : zG} {A : Nat → Nat} {Y : zY} {p : Nat} (hz : zk p = 2) : zc G A Y p = .inr (4, [.ref (A (p + 1)), .ref (A (p + 2)), .ref (A (p + 3)), .ref (A (p + 4)), .int (Y p 4)]) := by simp only [zc, hz]
theorem zcK3 {G : zG} {A : Nat → Nat} {Y : zY} {p : Nat} (hz : zk p = 3) : zc G A Y p = .inr (3, [.ref (A (p + 1)), .int (Y p 1)]) := by simp only [zc, hz]
theorem zcK4 {G : zG} {A : Nat → Nat} {Y : zY} {p : Nat} (hz : zk p = 4) : zc G A Y p = .inr (0, [.ref (A 19), .ref (A 44), .int (Y p 2), .int (Y p 3), .int (Y p 4), .int (Y p 5)]) := by simp only [zc, hz]
theorem zcK5 {G : zG} {A : Nat → Nat} {Y : zY} {p : Nat} (hz : zk p = 5) : zc G A Y p = .inr (1, [.ref (A 46), .int (Y p 1), .ref (A 47), .ref (A 48)]) := by simp only [zc, hz]
theorem zcK6 {G : zG} {A : Nat → Nat} {Y : zY} {p : Nat} (hz : zk p = 6) : zc G A Y p = .inr (6, [.int (Y p 0), .ref (A 103), .int (Y p 2), .ref (A 104), .ref (A 105), .ref (A 106), .int (Y p 6), .ref (A 107), .ref (A 108), .ref (A 109), .int (Y p 10), .ref (A 110), .int (Y p 12), .ref (A 111), .int (Y p 14), .int (Y p 15), .int (Y p 16), .int (Y p 17), .int (Y p 18), .int (Y p 19), .ref (A 112), .int (Y p 21), .ref (A 113), .int (Y p 23), .int (Y p 24), .int (Y p 25), .ref (A 114), .ref (A 115), .ref (A 116)]) := by simp only [zc, hz]
theorem zk_0 : zk 0 = 0 := by decide +kernel
theorem zk_1 : zk 1 = 7 := by decide +kernel
theorem zk_2 : zk 2 = 1 := by decide +kernel
theorem zk_3 : zk 3 = 2 := by decide +kernel
theorem zk_4 : zk 4 = 8 := by decide +kernel
theorem zk_5 : zk 5 = 8 := by decide +kernel
theorem zk_6 : zk 6 = 8 := by decide +kernel
theorem zk_7 : zk 7 = 8 := by decide +kernel
theorem zk_8 : zk 8 = 8 := by decide +kernel
theorem zk_9 : zk 9 = 8 := by decide +kernel
theorem zk_10 : zk 10 = 8 := by decide +kernel
theorem zk_11 : zk 11 = 2 := by decide +kernel
theorem zk_12 : zk 12 = 8 := by decide +kernel
theorem zk_13 : zk 13 = 8 := by decide +kernel
theorem zk_14 : zk 14 = 8 := by decide +kernel
theorem zk_15 : zk 15 = 8 := by decide +kernel
theorem zk_16 : zk 16 = 3 := by decide +kernel
theorem zk_17 : zk 17 = 7 := by decide +kernel
theorem zk_18 : zk 18 = 4 := by decide +kernel
theorem zk_19 : zk 19 = 9 := by decide +kernel
theorem zk_44 : zk 44 = 8 := by decide +kernel
theorem zk_45 : zk 45 = 5 := by decide +kernel
theorem zk_46 : zk 46 = 10 := by decide +kernel
theorem zk_47 : zk 47 = 8 := by decide +kernel
theorem zk_48 : zk 48 = 11 := by decide +kernel
theorem zk_102 : zk 102 = 6 := by decide +kernel
theorem zk_103 : zk 103 = 8 := by decide +kernel
theorem zk_104 : zk 104 = 8 := by decide +kernel
theorem zk_105 : zk 105 = 8 := by decide +kernel
theorem zk_106 : zk 106 = 8 := by decide +kernel
theorem zk_107 : zk 107 = 8 := by decide +kernel
theorem zk_108 : zk 108 = 8 := by decide +kernel
theorem zk_109 : zk 109 = 8 := by decide +kernel
theorem zk_110 : zk 110 = 8 := by decide +kernel
theorem zk_111 : zk 111 = 8 := by decide +kernel
theorem zk_112 : zk 112 = 8 := by decide +kernel
theorem zk_113 : zk 113 = 8 := by decide +kernel
theorem zk_114 : zk 114 = 8 := by decide +kernel
theorem zk_115 : zk 115 = 8 := by decide +kernel
theorem zk_116 : zk 116 = 8 := by decide +kernel
theorem zl_1 : zl 1 = 40 := by decide +kernel
theorem zl_4 : zl 4 = 24 := by decide +kernel
theorem zl_5 : zl 5 = 24 := by decide +kernel
theorem zl_6 : zl 6 = 24 := by decide +kernel
theorem zl_7 : zl 7 = 24 := by decide +kernel
theorem zl_8 : zl 8 = 7 := by decide +kernel
theorem zl_9 : zl 9 = 7 := by decide +kernel
theorem zl_10 : zl 10 = 7 := by decide +kernel
theorem zl_12 : zl 12 = 24 := by decide +kernel
theorem zl_13 : zl 13 = 24 := by decide +kernel
theorem zl_14 : zl 14 = 24 := by decide +kernel
theorem zl_15 : zl 15 = 24 := by decide +kernel
theorem zl_17 : zl 17 = 24 := by decide +kernel
theorem zl_44 : zl 44 = 25 := by decide +kernel
theorem zl_47 : zl 47 = 20 := by decide +kernel
theorem zl_103 : zl 103 = 40 := by decide +kernel
theorem zl_104 : zl 104 = 24 := by decide +kernel
theorem zl_105 : zl 105 = 24 := by decide +kernel
theorem zl_106 : zl 106 = 24 := by decide +kernel
theorem zl_107 : zl 107 = 80 := by decide +kernel
theorem zl_108 : zl 108 = 80 := by decide +kernel
theorem zl_109 : zl 109 = 80 := by decide +kernel
theorem zl_110 : zl 110 = 80 := by decide +kernel
theorem zl_111 : zl 111 = 80 := by decide +kernel
theorem zl_112 : zl 112 = 24 := by decide +kernel
theorem zl_113 : zl 113 = 15000 := by decide +kernel
theorem zl_114 : zl 114 = 20 := by decide +kernel
theorem zl_115 : zl 115 = 240 := by decide +kernel
theorem zl_116 : zl 116 = 325 := by decide +kernel
theorem zk_row : ∀ {n : Nat}, n < 24 → zk (20 + n) = 8 := by intro n; revert n; decide +kernel
theorem zl_row : ∀ {n : Nat}, n < 24 → zl (20 + n) = 325 := by intro n; revert n; decide +kernel
theorem zk_stp : ∀ {n : Nat}, n < 13 → zk (49 + n) = 8 := by intro n; revert n; decide +kernel
theorem zl_stp : ∀ {n : Nat}, n < 13 → zl (49 + n) = 25 := by intro n; revert n; decide +kernel
theorem zk_let : ∀ {n : Nat}, n < 20 → zk (62 + 2 * n) = 3 := by intro n; revert n; decide +kernel
theorem zk_sig : ∀ {n : Nat}, n < 20 → zk (62 + 2 * n + 1) = 7 := by intro n; revert n; decide +kernel
theorem zl_sig : ∀ {n : Nat}, n < 20 → zl (62 + 2 * n + 1) = 24 := by intro n; revert n; decide +kernel
theorem zinc1 (a : Nat) : nI a + Int32.ofInt 1 = nI (a + 1) := nI_add a 1
theorem zinc4 (a : Nat) : nI a + Int32.ofInt 4 = nI (a + 4) := nI_add a 4
theorem zdec1 {a : Nat} (h : 1 ≤ a) : nI a + Int32.ofInt (-1) = nI (a - 1) := by
  obtain ⟨b, rfl⟩ : ∃ b, a = b + 1 := ⟨a - 1, by omega⟩
  exact pk_m1 b
section ZF
variable {p : Program} {l : Launch} {e : Env} {R : Room} {s : State} {m : MethodId} {args : Array Value} {below : List Frame} {meth : Method} {c : Code} {H : Heap} {locs : List Loc} {cells slots : Nat} {Q : State → Prop}
variable {cc : ByteArray} {pc nL : Nat} {ls : Array Slot} {rest : List Value} {G : zG} {A : Nat → Nat} {Y : zY} {B0 : Nat → Prop} {H0 : Heap} {own : String}

theorem zaldN (S : CallFix p m c cc nL s args wsL_law own) (hK : zK G A s) (hP : va_P G.1 vwCl (zW G A Y) H) (p0 n : Nat) (hp : p0 < 117) (hz : zk p0 = 8) (hn : zl p0 = n) {i : Nat} (hin : i < n ∧ n < 2 ^ 31) {v : Int32} (hv : Y p0 i = v) (hdg : decode cc pc = .ok (.iaload, 1))
    (kk : W p l e R s m args below meth c H locs cells slots Q (F0 m (pc + 1) ls (.int v :: rest))) : W p l e R s m args below meth c H locs cells slots Q (F0 m pc ls (.int (nI i) :: .ref (A p0) :: rest)) :=
  zald S hK hP p0 n hp hz hn (vp_in_nI hin.1 hin.2) (by rw [nI_clamp (Nat.lt_trans hin.1 hin.2)]; exact hv) hdg kk
theorem zcaldN (S : CallFix p m c cc nL s args wsL_law own) (hK : zK G A s) (hP : va_P G.1 vwCl (zW G A Y) H) (p0 n : Nat) (hp : p0 < 117) (hz : zk p0 = 7) (hn : zl p0 = n) {i : Nat} (hin : i < n ∧ n < 2 ^ 31) {v : Int32} (hv : Y p0 i = v) (hdg : decode cc pc = .ok (.caload, 1))
    (kk : W p l e R s m args below meth c H locs cells slots Q (F0 m (pc + 1) ls (.int v :: rest))) : W p l e R s m args below meth c H locs cells slots Q (F0 m pc ls (.int (nI i) :: .ref (A p0) :: rest)) :=
  zcald S hK hP p0 n hp hz hn (vp_in_nI hin.1 hin.2) (by rw [nI_clamp (Nat.lt_trans hin.1 hin.2)]; exact hv) hdg kk
theorem zastN (S : CallFix p m c cc nL s args wsL_law own) (hK : zK G A s) (hP : va_P G.1 vwCl (zW G A Y) H) (hS : va_S B0 H0 H locs) (hB : ∀ q, zAd A q → B0 q) (p0 n : Nat) (hp : p0 < 117) (hz : zk p0 = 8) (hn : zl p0 = n) {i : Nat} {v : Int32} (hin : i < n ∧ n < 2 ^ 31) (hdg : decode cc pc = .ok (.iastore, 1))
    (kk : ∀ (H1 : Heap) (locs1 : List Loc), va_P G.1 vwCl (zW G A (zU Y p0 i v)) H1 → va_S B0 H0 H1 locs1 → W p l e R s m args below meth c H1 locs1 cells slots Q (F0 m (pc + 1) ls rest)) : W p l e R s m args below meth c H locs cells slots Q (F0 m pc ls (.int v :: .int (nI i) :: .ref (A p0) :: rest)) :=
  zast S hK hP hS hB p0 n hp hz hn (vp_in_nI hin.1 hin.2) (nI_clamp (Nat.lt_trans hin.1 hin.2)) hdg kk
theorem zcastN (S : CallFix p m c cc nL s args wsL_law own) (hK : zK G A s) (hP : va_P G.1 vwCl (zW G A Y) H) (hS : va_S B0 H0 H locs) (hB : ∀ q, zAd A q → B0 q) (p0 n : Nat) (hp : p0 < 117) (hz : zk p0 = 7) (hn : zl p0 = n) {i : Nat} {v : Int32} (hin : i < n ∧ n < 2 ^ 31) (hv : vp_nar .char v = v) (hdg : decode cc pc = .ok (.castore, 1))
    (kk : ∀ (H1 : Heap) (locs1 : List Loc), va_P G.1 vwCl (zW G A (zU Y p0 i v)) H1 → va_S B0 H0 H1 locs1 → W p l e R s m args below meth c H1 locs1 cells slots Q (F0 m (pc + 1) ls rest)) : W p l e R s m args below meth c H locs cells slots Q (F0 m pc ls (.int v :: .int (nI i) :: .ref (A p0) :: rest)) :=
  zcast S hK hP hS hB p0 n hp hz hn (vp_in_nI hin.1 hin.2) (nI_clamp (Nat.lt_trans hin.1 hin.2)) hv hdg kk
theorem zaldq19 (S : CallFix p m c cc nL s args wsL_law own) (hK : zK G A s) (hP : va_P G.1 vwCl (zW G A Y) H) {i : Nat} (hi : i < 24) (hdg : decode cc pc = .ok (.aaload, 1))
    (kk : W p l e R s m args below meth c H locs cells slots Q (F0 m (pc + 1) ls (.ref (A (20 + i)) :: rest))) : W p l e R s m args below meth c H locs cells slots Q (F0 m pc ls (.int (nI i) :: .ref (A 19) :: rest)) :=
  zaldq S hK hP 19 3 (by decide) (by simp only [zc, zk_19]; rfl) rfl rfl (vp_in_nI (n := i) (N := 24) hi (by decide)) (by rw [nI_clamp (by omega)]; exact if_pos hi) hdg kk
theorem zaldq46 (S : CallFix p m c cc nL s args wsL_law own) (hK : zK G A s) (hP : va_P G.1 vwCl (zW G A Y) H) {i : Nat} (hi : i < 20) (hdg : decode cc pc = .ok (.aaload, 1))
    (kk : W p l e R s m args below meth c H locs cells slots Q (F0 m (pc + 1) ls (.ref (A (62 + 2 * i)) :: rest))) : W p l e R s m args below meth c H locs cells slots Q (F0 m pc ls (.int (nI i) :: .ref (A 46) :: rest)) :=
  zaldq S hK hP 46 2 (by decide) (by simp only [zc, zk_46]; rfl) rfl rfl (vp_in_nI (n := i) (N := 20) hi (by decide)) (by rw [nI_clamp (by omega)]; exact if_pos hi) hdg kk
theorem zaldq48 (S : CallFix p m c cc nL s args wsL_law own) (hK : zK G A s) (hP : va_P G.1 vwCl (zW G A Y) H) {i : Nat} (hi : i < 13) (hdg : decode cc pc = .ok (.aaload, 1))
    (kk : W p l e R s m args below meth c H locs cells slots Q (F0 m (pc + 1) ls (.ref (A (49 + i)) :: rest))) : W p l e R s m args below meth c H locs cells slots Q (F0 m pc ls (.int (nI i) :: .ref (A 48) :: rest)) :=
  zaldq S hK hP 48 3 (by decide) (by simp only [zc, zk_48]; rfl) rfl rfl (vp_in_nI (n := i) (N := 13) hi (by decide)) (by rw [nI_clamp (by omega)]; exact if_pos hi) hdg kk
theorem zminI (S : CallFix p m c cc nL s args wsL_law own) (hsz : ls.size = nL) {index : Nat} (hw : ∀ w ∈ ([.methodLink own index Lib.Math.min.name, .static Lib.Math.min.name, .initialized "java/lang/Math", .code Lib.Math.min.name Lib.Math.min.code 2 (some .int)] : List Cond), w ∈ wsL_law) (hfr : 1 ≤ R.frames) (hlo : 21 ≤ R.locals) {x y : Int32} (hr8 : (rest.map fun v => v.category).sum ≤ 8) (hdg : decode cc pc = .ok (.invokestatic index, 3)) (kk : W p l e R s m args below meth c H locs 0 0 Q (F0 m (pc + 3) ls (.int (if y < x then y else x) :: rest))) : W p l e R s m args below meth c H locs 0 0 Q (F0 m pc ls (.int y :: .int x :: rest)) :=
  va_mmin S.1 S.2.1 (S.2.2.1.trans hsz.symm) S.2.2.2.1 (S.2.2.2.2 _ (hw _ (by simp))) (S.2.2.2.2 _ (hw _ (by simp))) (S.2.2.2.2 _ (hw _ (by simp))) (S.2.2.2.2 _ (hw _ (by simp))) hfr (by omega) (Nat.zero_le _) (Nat.zero_le _) hdg kk
theorem zminN (S : CallFix p m c cc nL s args wsL_law own) (hsz : ls.size = nL) {index : Nat} (hw : ∀ w ∈ ([.methodLink own index Lib.Math.min.name, .static Lib.Math.min.name, .initialized "java/lang/Math", .code Lib.Math.min.name Lib.Math.min.code 2 (some .int)] : List Cond), w ∈ wsL_law) (hfr : 1 ≤ R.frames) (hlo : 21 ≤ R.locals) {a b : Nat} (ha : a < 2 ^ 31) (hb : b < 2 ^ 31) (hr8 : (rest.map fun v => v.category).sum ≤ 8) (hdg : decode cc pc = .ok (.invokestatic index, 3)) (kk : W p l e R s m args below meth c H locs 0 0 Q (F0 m (pc + 3) ls (.int (nI (min a b)) :: rest))) : W p l e R s m args below meth c H locs 0 0 Q (F0 m pc ls (.int (nI b) :: .int (nI a) :: rest)) := by
  refine zminI S hsz hw hfr hlo hr8 hdg ?_
  have e9 : (if nI b < nI a then nI b else nI a) = nI (min a b) := by
    simp only [nI_ltI hb ha, nI_ltI ha hb]
    split <;> congr 1 <;> omega
  rw [e9]
  exact kk
theorem zmaxI (S : CallFix p m c cc nL s args wsL_law own) (hsz : ls.size = nL) {index : Nat} (hw : ∀ w ∈ ([.methodLink own index Lib.Math.max.name, .static Lib.Math.max.name, .initialized "java/lang/Math", .code Lib.Math.max.name Lib.Math.max.code 2 (some .int)] : List Cond), w ∈ wsL_law) (hfr : 1 ≤ R.frames) (hlo : 21 ≤ R.locals) {x y : Int32} (hr8 : (rest.map fun v => v.category).sum ≤ 8) (hdg : decode cc pc = .ok (.invokestatic index, 3)) (kk : W p l e R s m args below meth c H locs 0 0 Q (F0 m (pc + 3) ls (.int (if x < y then y else x) :: rest))) : W p l e R s m args below meth c H locs 0 0 Q (F0 m pc ls (.int y :: .int x :: rest)) :=
  va_mmax S.1 S.2.1 (S.2.2.1.trans hsz.symm) S.2.2.2.1 (S.2.2.2.2 _ (hw _ (by simp))) (S.2.2.2.2 _ (hw _ (by simp))) (S.2.2.2.2 _ (hw _ (by simp))) (S.2.2.2.2 _ (hw _ (by simp))) hfr (by omega) (Nat.zero_le _) (Nat.zero_le _) hdg kk
theorem zmaxN (S : CallFix p m c cc nL s args wsL_law own) (hsz : ls.size = nL) {index : Nat} (hw : ∀ w ∈ ([.methodLink own index Lib.Math.max.name, .static Lib.Math.max.name, .initialized "java/lang/Math", .code Lib.Math.max.name Lib.Math.max.code 2 (some .int)] : List Cond), w ∈ wsL_law) (hfr : 1 ≤ R.frames) (hlo : 21 ≤ R.locals) {a b : Nat} (ha : a < 2 ^ 31) (hb : b < 2 ^ 31) (hr8 : (rest.map fun v => v.category).sum ≤ 8) (hdg : decode cc pc = .ok (.invokestatic index, 3)) (kk : W p l e R s m args below meth c H locs 0 0 Q (F0 m (pc + 3) ls (.int (nI (max a b)) :: rest))) : W p l e R s m args below meth c H locs 0 0 Q (F0 m pc ls (.int (nI b) :: .int (nI a) :: rest)) := by
  refine zmaxI S hsz hw hfr hlo hr8 hdg ?_
  have e9 : (if nI a < nI b then nI b else nI a) = nI (max a b) := by
    simp only [nI_ltI hb ha, nI_ltI ha hb]
    split <;> congr 1 <;> omega
  rw [e9]
  exact kk
theorem ztabIn (S : CallFix p m c cc nL s args wsL_law own) {dflt lo hi : Int} {offs : Array Int} {len a k : Nat} {off : Int} {tgt : Nat} (h : a = k) (hdg : decode cc pc = .ok (.tableswitch dflt lo hi offs, len)) (hk : k < 2 ^ 31) (hr : lo ≤ (k : Int) ∧ (k : Int) ≤ hi) (ho : offs[((k : Int) - lo).toNat]? = some off) (ht : (pc : Int) + off = (tgt : Int)) (kk : W p l e R s m args below meth c H locs cells slots Q (F0 m tgt ls rest)) : W p l e R s m args below meth c H locs cells slots Q (F0 m pc ls (.int (nI a) :: rest)) := by
  subst h
  have e9 : (nI a).toInt = (a : Int) := nI_toInt hk
  exact lv_tableIn S.1 S.2.1 hdg (by rw [e9]; omega) (by rw [e9]; omega) (by rw [e9]; exact ho) ht kk
theorem ztabOut (S : CallFix p m c cc nL s args wsL_law own) {dflt lo hi : Int} {offs : Array Int} {len a : Nat} {tgt : Nat} (hk : a < 2 ^ 31) (hdg : decode cc pc = .ok (.tableswitch dflt lo hi offs, len)) (hr : (a : Int) < lo ∨ hi < (a : Int)) (ht : (pc : Int) + dflt = (tgt : Int)) (kk : W p l e R s m args below meth c H locs cells slots Q (F0 m tgt ls rest)) : W p l e R s m args below meth c H locs cells slots Q (F0 m pc ls (.int (nI a) :: rest)) := by
  have e9 : (nI a).toInt = (a : Int) := nI_toInt hk
  exact lv_tableOut S.1 S.2.1 hdg (by rw [e9]; exact hr) ht kk
theorem zlook (S : CallFix p m c cc nL s args wsL_law own) {dflt : Int} {ps : Array (Int × Int)} {len a k : Nat} {off : Int} {tgt : Nat} (h : a = k) (hdg : decode cc pc = .ok (.lookupswitch dflt ps, len)) (hp : (ps.toList.zip (ps.toList.drop 1)).all (fun (a, next) => a.1 < next.1) = true) (hk : k < 2 ^ 31) (ho : Op.lookupswitch.offset ps.toList dflt (k : Int) = off) (ht : (pc : Int) + off = (tgt : Int)) (kk : W p l e R s m args below meth c H locs cells slots Q (F0 m tgt ls rest)) : W p l e R s m args below meth c H locs cells slots Q (F0 m pc ls (.int (nI a) :: rest)) := by
  subst h
  have e9 : (nI a).toInt = (a : Int) := nI_toInt hk
  exact lv_lookup S.1 S.2.1 hdg hp (by rw [e9]; exact ho) ht kk
theorem zlookOut (S : CallFix p m c cc nL s args wsL_law own) {dflt : Int} {ps : Array (Int × Int)} {len a : Nat} {tgt : Nat} (hk : a < 2 ^ 31) (hdg : decode cc pc = .ok (.lookupswitch dflt ps, len)) (hp : (ps.toList.zip (ps.toList.drop 1)).all (fun (a, next) => a.1 < next.1) = true) (ho : Op.lookupswitch.offset ps.toList dflt (a : Int) = dflt) (ht : (pc : Int) + dflt = (tgt : Int)) (kk : W p l e R s m args below meth c H locs cells slots Q (F0 m tgt ls rest)) : W p l e R s m args below meth c H locs cells slots Q (F0 m pc ls (.int (nI a) :: rest)) := by
  have e9 : (nI a).toInt = (a : Int) := nI_toInt hk
  exact lv_lookup S.1 S.2.1 hdg hp (by rw [e9]; exact ho) ht kk
theorem zgX0_13 (S : CallFix p m c cc nL s args wsL_law RX0) (hK : zK G A s) (hP : va_P G.1 vwCl (zW G A Y) H) (p0 : Nat) (hp : p0 < 117) (hz : zk p0 = 4) (hdg : decode cc pc = .ok (.getfield 13, 3)) (kk : W p l e R s m args below meth c H locs cells slots Q (F0 m (pc + 3) ls (.ref (A 19) :: rest))) : W p l e R s m args below meth c H locs cells slots Q (F0 m pc ls (.ref (A p0) :: rest)) := zget S hK hP p0 hp (zcK4 hz) rfl inlX0 0 (by decide) (List.mem_of_getElem? (i := 69) (by decide +kernel)) rfl hdg kk
theorem zgX0_16 (S : CallFix p m c cc nL s args wsL_law RX0) (hK : zK G A s) (hP : va_P G.1 vwCl (zW G A Y) H) (p0 : Nat) (hp : p0 < 117) (hz : zk p0 = 4) (hdg : decode cc pc = .ok (.getfield 16, 3)) (kk : W p l e R s m args below meth c H locs cells slots Q (F0 m (pc + 3) ls (.ref (A 44) :: rest))) : W p l e R s m args below meth c H locs cells slots Q (F0 m pc ls (.ref (A p0) :: rest)) := zget S hK hP p0 hp (zcK4 hz) rfl inlX0 1 (by decide) (List.mem_of_getElem? (i := 70) (by decide +kernel)) rfl hdg kk
theorem zgX0_20 (S : CallFix p m c cc nL s args wsL_law RX0) (hK : zK G A s) (hP : va_P G.1 vwCl (zW G A Y) H) (p0 : Nat) (hp : p0 < 117) (hz : zk p0 = 4) {v : Int32} (hv : Y p0 2 = v) (hdg : decode cc pc = .ok (.getfield 20, 3)) (kk : W p l e R s m args below meth c H locs cells slots Q (F0 m (pc + 3) ls (.int v :: rest))) : W p l e R s m args below meth c H locs cells slots Q (F0 m pc ls (.ref (A p0) :: rest)) := zget S hK hP p0 hp (zcK4 hz) rfl inlX0 2 (by decide) (List.mem_of_getElem? (i := 71) (by decide +kernel)) (by rw [← hv]; rfl) hdg kk
theorem zpX0_20 (S : CallFix p m c cc nL s args wsL_law RX0) (hK : zK G A s) (hP : va_P G.1 vwCl (zW G A Y) H) (hS : va_S B0 H0 H locs) (hB : ∀ q, zAd A q → B0 q) (p0 : Nat) (hp : p0 < 117) (hz : zk p0 = 4) {v : Int32} (hdg : decode cc pc = .ok (.putfield 20, 3)) (kk : ∀ (H1 : Heap) (locs1 : List Loc), va_P G.1 vwCl (zW G A (zU Y p0 2 v)) H1 → va_S B0 H0 H1 locs1 → W p l e R s m args below meth c H1 locs1 cells slots Q (F0 m (pc + 3) ls rest)) : W p l e R s m args below meth c H locs cells slots Q (F0 m pc ls (.int v :: .ref (A p0) :: rest)) :=
  zput S hK hP hS hB p0 hp (zcK4 hz) rfl inlX0 tyX0 tyX0_ok nmX0 2 (by decide) (List.mem_of_getElem? (i := 71) (by decide +kernel)) rfl (ty := .int) (by decide +kernel) rfl rfl (Nat.le_of_ble_eq_true rfl) (by rw [zcK4 hz]; simp [zU]) hdg kk
theorem zgX0_24 (S : CallFix p m c cc nL s args wsL_law RX0) (hK : zK G A s) (hP : va_P G.1 vwCl (zW G A Y) H) (p0 : Nat) (hp : p0 < 117) (hz : zk p0 = 4) {v : Int32} (hv : Y p0 3 = v) (hdg : decode cc pc = .ok (.getfield 24, 3)) (kk : W p l e R s m args below meth c H locs cells slots Q (F0 m (pc + 3) ls (.int v :: rest))) : W p l e R s m args below meth c H locs cells slots Q (F0 m pc ls (.ref (A p0) :: rest)) := zget S hK hP p0 hp (zcK4 hz) rfl inlX0 3 (by decide) (List.mem_of_getElem? (i := 72) (by decide +kernel)) (by rw [← hv]; rfl) hdg kk
theorem zpX0_24 (S : CallFix p m c cc nL s args wsL_law RX0) (hK : zK G A s) (hP : va_P G.1 vwCl (zW G A Y) H) (hS : va_S B0 H0 H locs) (hB : ∀ q, zAd A q → B0 q) (p0 : Nat) (hp : p0 < 117) (hz : zk p0 = 4) {v : Int32} (hdg : decode cc pc = .ok (.putfield 24, 3)) (kk : ∀ (H1 : Heap) (locs1 : List Loc), va_P G.1 vwCl (zW G A (zU Y p0 3 v)) H1 → va_S B0 H0 H1 locs1 → W p l e R s m args below meth c H1 locs1 cells slots Q (F0 m (pc + 3) ls rest)) : W p l e R s m args below meth c H locs cells slots Q (F0 m pc ls (.int v :: .ref (A p0) :: rest)) :=
  zput S hK hP hS hB p0 hp (zcK4 hz) rfl inlX0 tyX0 tyX0_ok nmX0 3 (by decide) (List.mem_of_getElem? (i := 72) (by decide +kernel)) rfl (ty := .int) (by decide +kernel) rfl rfl (Nat.le_of_ble_eq_true rfl) (by rw [zcK4 hz]; simp [zU]) hdg kk
theorem zgX0_27 (S : CallFix p m c cc nL s args wsL_law RX0) (hK : zK G A s) (hP : va_P G.1 vwCl (zW G A Y) H) (p0 : Nat) (hp : p0 < 117) (hz : zk p0 = 4) {v : Int32} (hv : Y p0 4 = v) (hdg : decode cc pc = .ok (.getfield 27, 3)) (kk : W p l e R s m args below meth c H locs cells slots Q (F0 m (pc + 3) ls (.int v :: rest))) : W p l e R s m args below meth c H locs cells slots Q (F0 m pc ls (.ref (A p0) :: rest)) := zget S hK hP p0 hp (zcK4 hz) rfl inlX0 4 (by decide) (List.mem_of_getElem? (i := 73) (by decide +kernel)) (by rw [← hv]; rfl) hdg kk
theorem zpX0_27 (S : CallFix p m c cc nL s args wsL_law RX0) (hK : zK G A s) (hP : va_P G.1 vwCl (zW G A Y) H) (hS : va_S B0 H0 H locs) (hB : ∀ q, zAd A q → B0 q) (p0 : Nat) (hp : p0 < 117) (hz : zk p0 = 4) {v : Int32} (hdg : decode cc pc = .ok (.putfield 27, 3)) (kk : ∀ (H1 : Heap) (locs1 : List Loc), va_P G.1 vwCl (zW G A (zU Y p0 4 v)) H1 → va_S B0 H0 H1 locs1 → W p l e R s m args below meth c H1 locs1 cells slots Q (F0 m (pc + 3) ls rest)) : W p l e R s m args below meth c H locs cells slots Q (F0 m pc ls (.int v :: .ref (A p0) :: rest)) :=
  zput S hK hP hS hB p0 hp (zcK4 hz) rfl inlX0 tyX0 tyX0_ok nmX0 4 (by decide) (List.mem_of_getElem? (i := 73) (by decide +kernel)) rfl (ty := .int) (by decide +kernel) rfl rfl (Nat.le_of_ble_eq_true rfl) (by rw [zcK4 hz]; simp [zU]) hdg kk
theorem zgX0_30 (S : CallFix p m c cc nL s args wsL_law RX0) (hK : zK G A s) (hP : va_P G.1 vwCl (zW G A Y) H) (p0 : Nat) (hp : p0 < 117) (hz : zk p0 = 4) {v : Int32} (hv : Y p0 5 = v) (hdg : decode cc pc = .ok (.getfield 30, 3)) (kk : W p l e R s m args below meth c H locs cells slots Q (F0 m (pc + 3) ls (.int v :: rest))) : W p l e R s m args below meth c H locs cells slots Q (F0 m pc ls (.ref (A p0) :: rest)) := zget S hK hP p0 hp (zcK4 hz) rfl inlX0 5 (by decide) (List.mem_of_getElem? (i := 74) (by decide +kernel)) (by rw [← hv]; rfl) hdg kk
theorem zpX0_30 (S : CallFix p m c cc nL s args wsL_law RX0) (hK : zK G A s) (hP : va_P G.1 vwCl (zW G A Y) H) (hS : va_S B0 H0 H locs) (hB : ∀ q, zAd A q → B0 q) (p0 : Nat) (hp : p0 < 117) (hz : zk p0 = 4) {v : Int32} (hdg : decode cc pc = .ok (.putfield 30, 3)) (kk : ∀ (H1 : Heap) (locs1 : List Loc), va_P G.1 vwCl (zW G A (zU Y p0 5 v)) H1 → va_S B0 H0 H1 locs1 → W p l e R s m args below meth c H1 locs1 cells slots Q (F0 m (pc + 3) ls rest)) : W p l e R s m args below meth c H locs cells slots Q (F0 m pc ls (.int v :: .ref (A p0) :: rest)) :=
  zput S hK hP hS hB p0 hp (zcK4 hz) rfl inlX0 tyX0 tyX0_ok nmX0 5 (by decide) (List.mem_of_getElem? (i := 74) (by decide +kernel)) rfl (ty := .int) (by decide +kernel) rfl rfl (Nat.le_of_ble_eq_true rfl) (by rw [zcK4 hz]; simp [zU]) hdg kk
theorem zgX0_36 (S : CallFix p m c cc nL s args wsL_law RX0) (hK : zK G A s) (hP : va_P G.1 vwCl (zW G A Y) H) (p0 : Nat) (hp : p0 < 117) (hz : zk p0 = 3) {v : Int32} (hv : Y p0 1 = v) (hdg : decode cc pc = .ok (.getfield 36, 3)) (kk : W p l e R s m args below meth c H locs cells slots Q (F0 m (pc + 3) ls (.int v :: rest))) : W p l e R s m args below meth c H locs cells slots Q (F0 m pc ls (.ref (A p0) :: rest)) := zgetN S hK hP p0 hp (zcK3 hz) rfl inlX3 1 (by decide) (List.mem_of_getElem? (i := 8) (by decide +kernel)) (by rw [← hv]; rfl) hdg kk
theorem zgX0_41 (S : CallFix p m c cc nL s args wsL_law RX0) (hK : zK G A s) (hP : va_P G.1 vwCl (zW G A Y) H) (p0 : Nat) (hp : p0 < 117) (hz : zk p0 = 2) {v : Int32} (hv : Y p0 4 = v) (hdg : decode cc pc = .ok (.getfield 41, 3)) (kk : W p l e R s m args below meth c H locs cells slots Q (F0 m (pc + 3) ls (.int v :: rest))) : W p l e R s m args below meth c H locs cells slots Q (F0 m pc ls (.ref (A p0) :: rest)) := zgetN S hK hP p0 hp (zcK2 hz) rfl inlX4 4 (by decide) (List.mem_of_getElem? (i := 5) (by decide +kernel)) (by rw [← hv]; rfl) hdg kk
theorem zgX0_53 (S : CallFix p m c cc nL s args wsL_law RX0) (hK : zK G A s) (hP : va_P G.1 vwCl (zW G A Y) H) (p0 : Nat) (hp : p0 < 117) (hz : zk p0 = 2) (hdg : decode cc pc = .ok (.getfield 53, 3)) (kk : W p l e R s m args below meth c H locs cells slots Q (F0 m (pc + 3) ls (.ref (A (p0 + 4)) :: rest))) : W p l e R s m args below meth c H locs cells slots Q (F0 m pc ls (.ref (A p0) :: rest)) := zgetN S hK hP p0 hp (zcK2 hz) rfl inlX4 3 (by decide) (List.mem_of_getElem? (i := 3) (by decide +kernel)) rfl hdg kk
theorem zgX0_56 (S : CallFix p m c cc nL s args wsL_law RX0) (hK : zK G A s) (hP : va_P G.1 vwCl (zW G A Y) H) (p0 : Nat) (hp : p0 < 117) (hz : zk p0 = 2) (hdg : decode cc pc = .ok (.getfield 56, 3)) (kk : W p l e R s m args below meth c H locs cells slots Q (F0 m (pc + 3) ls (.ref (A (p0 + 1)) :: rest))) : W p l e R s m args below meth c H locs cells slots Q (F0 m pc ls (.ref (A p0) :: rest)) := zgetN S hK hP p0 hp (zcK2 hz) rfl inlX4 0 (by decide) (List.mem_of_getElem? (i := 0) (by decide +kernel)) rfl hdg kk
theorem zgX0_63 (S : CallFix p m c cc nL s args wsL_law RX0) (hK : zK G A s) (hP : va_P G.1 vwCl (zW G A Y) H) (p0 : Nat) (hp : p0 < 117) (hz : zk p0 = 2) (hdg : decode cc pc = .ok (.getfield 63, 3)) (kk : W p l e R s m args below meth c H locs cells slots Q (F0 m (pc + 3) ls (.ref (A (p0 + 2)) :: rest))) : W p l e R s m args below meth c H locs cells slots Q (F0 m pc ls (.ref (A p0) :: rest)) := zgetN S hK hP p0 hp (zcK2 hz) rfl inlX4 1 (by decide) (List.mem_of_getElem? (i := 1) (by decide +kernel)) rfl hdg kk
theorem zgX0_69 (S : CallFix p m c cc nL s args wsL_law RX0) (hK : zK G A s) (hP : va_P G.1 vwCl (zW G A Y) H) (p0 : Nat) (hp : p0 < 117) (hz : zk p0 = 2) (hdg : decode cc pc = .ok (.getfield 69, 3)) (kk : W p l e R s m args below meth c H locs cells slots Q (F0 m (pc + 3) ls (.ref (A (p0 + 3)) :: rest))) : W p l e R s m args below meth c H locs cells slots Q (F0 m pc ls (.ref (A p0) :: rest)) := zgetN S hK hP p0 hp (zcK2 hz) rfl inlX4 2 (by decide) (List.mem_of_getElem? (i := 2) (by decide +kernel)) rfl hdg kk
theorem zgX1_11 (S : CallFix p m c cc nL s args wsL_law RX1) (hK : zK G A s) (hP : va_P G.1 vwCl (zW G A Y) H) (p0 : Nat) (hp : p0 < 117) (hz : zk p0 = 5) (hdg : decode cc pc = .ok (.getfield 11, 3)) (kk : W p l e R s m args below meth c H locs cells slots Q (F0 m (pc + 3) ls (.ref (A 46) :: rest))) : W p l e R s m args below meth c H locs cells slots Q (F0 m pc ls (.ref (A p0) :: rest)) := zget S hK hP p0 hp (zcK5 hz) rfl inlX1 0 (by decide) (List.mem_of_getElem? (i := 79) (by decide +kernel)) rfl hdg kk
theorem zgX1_17 (S : CallFix p m c cc nL s args wsL_law RX1) (hK : zK G A s) (hP : va_P G.1 vwCl (zW G A Y) H) (p0 : Nat) (hp : p0 < 117) (hz : zk p0 = 5) {v : Int32} (hv : Y p0 1 = v) (hdg : decode cc pc = .ok (.getfield 17, 3)) (kk : W p l e R s m args below meth c H locs cells slots Q (F0 m (pc + 3) ls (.int v :: rest))) : W p l e R s m args below meth c H locs cells slots Q (F0 m pc ls (.ref (A p0) :: rest)) := zget S hK hP p0 hp (zcK5 hz) rfl inlX1 1 (by decide) (List.mem_of_getElem? (i := 80) (by decide +kernel)) (by rw [← hv]; rfl) hdg kk
theorem zpX1_17 (S : CallFix p m c cc nL s args wsL_law RX1) (hK : zK G A s) (hP : va_P G.1 vwCl (zW G A Y) H) (hS : va_S B0 H0 H locs) (hB : ∀ q, zAd A q → B0 q) (p0 : Nat) (hp : p0 < 117) (hz : zk p0 = 5) {v : Int32} (hdg : decode cc pc = .ok (.putfield 17, 3)) (kk : ∀ (H1 : Heap) (locs1 : List Loc), va_P G.1 vwCl (zW G A (zU Y p0 1 v)) H1 → va_S B0 H0 H1 locs1 → W p l e R s m args below meth c H1 locs1 cells slots Q (F0 m (pc + 3) ls rest)) : W p l e R s m args below meth c H locs cells slots Q (F0 m pc ls (.int v :: .ref (A p0) :: rest)) :=
  zput S hK hP hS hB p0 hp (zcK5 hz) rfl inlX1 tyX1 tyX1_ok nmX1 1 (by decide) (List.mem_of_getElem? (i := 80) (by decide +kernel)) rfl (ty := .int) (by decide +kernel) rfl rfl (Nat.le_of_ble_eq_true rfl) (by rw [zcK5 hz]; simp [zU]) hdg kk
theorem zgX1_21 (S : CallFix p m c cc nL s args wsL_law RX1) (hK : zK G A s) (hP : va_P G.1 vwCl (zW G A Y) H) (p0 : Nat) (hp : p0 < 117) (hz : zk p0 = 5) (hdg : decode cc pc = .ok (.getfield 21, 3)) (kk : W p l e R s m args below meth c H locs cells slots Q (F0 m (pc + 3) ls (.ref (A 47) :: rest))) : W p l e R s m args below meth c H locs cells slots Q (F0 m pc ls (.ref (A p0) :: rest)) := zget S hK hP p0 hp (zcK5 hz) rfl inlX1 2 (by decide) (List.mem_of_getElem? (i := 81) (by decide +kernel)) rfl hdg kk
theorem zgX1_27 (S : CallFix p m c cc nL s args wsL_law RX1) (hK : zK G A s) (hP : va_P G.1 vwCl (zW G A Y) H) (p0 : Nat) (hp : p0 < 117) (hz : zk p0 = 5) (hdg : decode cc pc = .ok (.getfield 27, 3)) (kk : W p l e R s m args below meth c H locs cells slots Q (F0 m (pc + 3) ls (.ref (A 48) :: rest))) : W p l e R s m args below meth c H locs cells slots Q (F0 m pc ls (.ref (A p0) :: rest)) := zget S hK hP p0 hp (zcK5 hz) rfl inlX1 3 (by decide) (List.mem_of_getElem? (i := 83) (by decide +kernel)) rfl hdg kk
theorem zgX1_31 (S : CallFix p m c cc nL s args wsL_law RX1) (hK : zK G A s) (hP : va_P G.1 vwCl (zW G A Y) H) (p0 : Nat) (hp : p0 < 117) (hz : zk p0 = 3) {v : Int32} (hv : Y p0 1 = v) (hdg : decode cc pc = .ok (.getfield 31, 3)) (kk : W p l e R s m args below meth c H locs cells slots Q (F0 m (pc + 3) ls (.int v :: rest))) : W p l e R s m args below meth c H locs cells slots Q (F0 m pc ls (.ref (A p0) :: rest)) := zgetN S hK hP p0 hp (zcK3 hz) rfl inlX3 1 (by decide) (List.mem_of_getElem? (i := 7) (by decide +kernel)) (by rw [← hv]; rfl) hdg kk
theorem zgX2_12 (S : CallFix p m c cc nL s args wsL_law RX2) (hK : zK G A s) (hP : va_P G.1 vwCl (zW G A Y) H) (p0 : Nat) (hp : p0 < 117) (hz : zk p0 = 1) (hdg : decode cc pc = .ok (.getfield 12, 3)) (kk : W p l e R s m args below meth c H locs cells slots Q (F0 m (pc + 3) ls (.ref (A 3) :: rest))) : W p l e R s m args below meth c H locs cells slots Q (F0 m pc ls (.ref (A p0) :: rest)) := zget S hK hP p0 hp (zcK1 hz) rfl inlX2 0 (by decide) (List.mem_of_getElem? (i := 42) (by decide +kernel)) rfl hdg kk
theorem zgX2_18 (S : CallFix p m c cc nL s args wsL_law RX2) (hK : zK G A s) (hP : va_P G.1 vwCl (zW G A Y) H) (p0 : Nat) (hp : p0 < 117) (hz : zk p0 = 1) {v : Int32} (hv : Y p0 1 = v) (hdg : decode cc pc = .ok (.getfield 18, 3)) (kk : W p l e R s m args below meth c H locs cells slots Q (F0 m (pc + 3) ls (.int v :: rest))) : W p l e R s m args below meth c H locs cells slots Q (F0 m pc ls (.ref (A p0) :: rest)) := zget S hK hP p0 hp (zcK1 hz) rfl inlX2 1 (by decide) (List.mem_of_getElem? (i := 43) (by decide +kernel)) (by rw [← hv]; rfl) hdg kk
theorem zpX2_18 (S : CallFix p m c cc nL s args wsL_law RX2) (hK : zK G A s) (hP : va_P G.1 vwCl (zW G A Y) H) (hS : va_S B0 H0 H locs) (hB : ∀ q, zAd A q → B0 q) (p0 : Nat) (hp : p0 < 117) (hz : zk p0 = 1) {v : Int32} (hdg : decode cc pc = .ok (.putfield 18, 3)) (kk : ∀ (H1 : Heap) (locs1 : List Loc), va_P G.1 vwCl (zW G A (zU Y p0 1 v)) H1 → va_S B0 H0 H1 locs1 → W p l e R s m args below meth c H1 locs1 cells slots Q (F0 m (pc + 3) ls rest)) : W p l e R s m args below meth c H locs cells slots Q (F0 m pc ls (.int v :: .ref (A p0) :: rest)) :=
  zput S hK hP hS hB p0 hp (zcK1 hz) rfl inlX2 tyX2 tyX2_ok nmX2 1 (by decide) (List.mem_of_getElem? (i := 43) (by decide +kernel)) rfl (ty := .int) (by decide +kernel) rfl rfl (Nat.le_of_ble_eq_true rfl) (by rw [zcK1 hz]; simp [zU]) hdg kk
theorem zgX2_22 (S : CallFix p m c cc nL s args wsL_law RX2) (hK : zK G A s) (hP : va_P G.1 vwCl (zW G A Y) H) (p0 : Nat) (hp : p0 < 117) (hz : zk p0 = 1) {v : Int32} (hv : Y p0 2 = v) (hdg : decode cc pc = .ok (.getfield 22, 3)) (kk : W p l e R s m args below meth c H locs cells slots Q (F0 m (pc + 3) ls (.int v :: rest))) : W p l e R s m args below meth c H locs cells slots Q (F0 m pc ls (.ref (A p0) :: rest)) := zget S hK hP p0 hp (zcK1 hz) rfl inlX2 2 (by decide) (List.mem_of_getElem? (i := 44) (by decide +kernel)) (by rw [← hv]; rfl) hdg kk
theorem zpX2_22 (S : CallFix p m c cc nL s args wsL_law RX2) (hK : zK G A s) (hP : va_P G.1 vwCl (zW G A Y) H) (hS : va_S B0 H0 H locs) (hB : ∀ q, zAd A q → B0 q) (p0 : Nat) (hp : p0 < 117) (hz : zk p0 = 1) {v : Int32} (hdg : decode cc pc = .ok (.putfield 22, 3)) (kk : ∀ (H1 : Heap) (locs1 : List Loc), va_P G.1 vwCl (zW G A (zU Y p0 2 v)) H1 → va_S B0 H0 H1 locs1 → W p l e R s m args below meth c H1 locs1 cells slots Q (F0 m (pc + 3) ls rest)) : W p l e R s m args below meth c H locs cells slots Q (F0 m pc ls (.int v :: .ref (A p0) :: rest)) :=
  zput S hK hP hS hB p0 hp (zcK1 hz) rfl inlX2 tyX2 tyX2_ok nmX2 2 (by decide) (List.mem_of_getElem? (i := 44) (by decide +kernel)) rfl (ty := .int) (by decide +kernel) rfl rfl (Nat.le_of_ble_eq_true rfl) (by rw [zcK1 hz]; simp [zU]) hdg kk
theorem zgX2_25 (S : CallFix p m c cc nL s args wsL_law RX2) (hK : zK G A s) (hP : va_P G.1 vwCl (zW G A Y) H) (p0 : Nat) (hp : p0 < 117) (hz : zk p0 = 1) (hdg : decode cc pc = .ok (.getfield 25, 3)) (kk : W p l e R s m args below meth c H locs cells slots Q (F0 m (pc + 3) ls (.ref (A 8) :: rest))) : W p l e R s m args below meth c H locs cells slots Q (F0 m pc ls (.ref (A p0) :: rest)) := zget S hK hP p0 hp (zcK1 hz) rfl inlX2 3 (by decide) (List.mem_of_getElem? (i := 46) (by decide +kernel)) rfl hdg kk
theorem zgX2_29 (S : CallFix p m c cc nL s args wsL_law RX2) (hK : zK G A s) (hP : va_P G.1 vwCl (zW G A Y) H) (p0 : Nat) (hp : p0 < 117) (hz : zk p0 = 1) (hdg : decode cc pc = .ok (.getfield 29, 3)) (kk : W p l e R s m args below meth c H locs cells slots Q (F0 m (pc + 3) ls (.ref (A 9) :: rest))) : W p l e R s m args below meth c H locs cells slots Q (F0 m pc ls (.ref (A p0) :: rest)) := zget S hK hP p0 hp (zcK1 hz) rfl inlX2 4 (by decide) (List.mem_of_getElem? (i := 47) (by decide +kernel)) rfl hdg kk
theorem zgX2_32 (S : CallFix p m c cc nL s args wsL_law RX2) (hK : zK G A s) (hP : va_P G.1 vwCl (zW G A Y) H) (p0 : Nat) (hp : p0 < 117) (hz : zk p0 = 1) (hdg : decode cc pc = .ok (.getfield 32, 3)) (kk : W p l e R s m args below meth c H locs cells slots Q (F0 m (pc + 3) ls (.ref (A 10) :: rest))) : W p l e R s m args below meth c H locs cells slots Q (F0 m pc ls (.ref (A p0) :: rest)) := zget S hK hP p0 hp (zcK1 hz) rfl inlX2 5 (by decide) (List.mem_of_getElem? (i := 48) (by decide +kernel)) rfl hdg kk
theorem zgX2_35 (S : CallFix p m c cc nL s args wsL_law RX2) (hK : zK G A s) (hP : va_P G.1 vwCl (zW G A Y) H) (p0 : Nat) (hp : p0 < 117) (hz : zk p0 = 1) {v : Int32} (hv : Y p0 6 = v) (hdg : decode cc pc = .ok (.getfield 35, 3)) (kk : W p l e R s m args below meth c H locs cells slots Q (F0 m (pc + 3) ls (.int v :: rest))) : W p l e R s m args below meth c H locs cells slots Q (F0 m pc ls (.ref (A p0) :: rest)) := zget S hK hP p0 hp (zcK1 hz) rfl inlX2 6 (by decide) (List.mem_of_getElem? (i := 49) (by decide +kernel)) (by rw [← hv]; rfl) hdg kk
theorem zpX2_35 (S : CallFix p m c cc nL s args wsL_law RX2) (hK : zK G A s) (hP : va_P G.1 vwCl (zW G A Y) H) (hS : va_S B0 H0 H locs) (hB : ∀ q, zAd A q → B0 q) (p0 : Nat) (hp : p0 < 117) (hz : zk p0 = 1) {v : Int32} (hdg : decode cc pc = .ok (.putfield 35, 3)) (kk : ∀ (H1 : Heap) (locs1 : List Loc), va_P G.1 vwCl (zW G A (zU Y p0 6 v)) H1 → va_S B0 H0 H1 locs1 → W p l e R s m args below meth c H1 locs1 cells slots Q (F0 m (pc + 3) ls rest)) : W p l e R s m args below meth c H locs cells slots Q (F0 m pc ls (.int v :: .ref (A p0) :: rest)) :=
  zput S hK hP hS hB p0 hp (zcK1 hz) rfl inlX2 tyX2 tyX2_ok nmX2 6 (by decide) (List.mem_of_getElem? (i := 49) (by decide +kernel)) rfl (ty := .int) (by decide +kernel) rfl rfl (Nat.le_of_ble_eq_true rfl) (by rw [zcK1 hz]; simp [zU]) hdg kk
theorem zgX2_38 (S : CallFix p m c cc nL s args wsL_law RX2) (hK : zK G A s) (hP : va_P G.1 vwCl (zW G A Y) H) (p0 : Nat) (hp : p0 < 117) (hz : zk p0 = 1) {v : Int32} (hv : Y p0 7 = v) (hdg : decode cc pc = .ok (.getfield 38, 3)) (kk : W p l e R s m args below meth c H locs cells slots Q (F0 m (pc + 3) ls (.int v :: rest))) : W p l e R s m args below meth c H locs cells slots Q (F0 m pc ls (.ref (A p0) :: rest)) := zget S hK hP p0 hp (zcK1 hz) rfl inlX2 7 (by decide) (List.mem_of_getElem? (i := 50) (by decide +kernel)) (by rw [← hv]; rfl) hdg kk
theorem zpX2_38 (S : CallFix p m c cc nL s args wsL_law RX2) (hK : zK G A s) (hP : va_P G.1 vwCl (zW G A Y) H) (hS : va_S B0 H0 H locs) (hB : ∀ q, zAd A q → B0 q) (p0 : Nat) (hp : p0 < 117) (hz : zk p0 = 1) {v : Int32} (hn : narrow .boolean (.int v) = .int v ∧ fits .boolean (.int v) = true) (hdg : decode cc pc = .ok (.putfield 38, 3)) (kk : ∀ (H1 : Heap) (locs1 : List Loc), va_P G.1 vwCl (zW G A (zU Y p0 7 v)) H1 → va_S B0 H0 H1 locs1 → W p l e R s m args below meth c H1 locs1 cells slots Q (F0 m (pc + 3) ls rest)) : W p l e R s m args below meth c H locs cells slots Q (F0 m pc ls (.int v :: .ref (A p0) :: rest)) :=
  zput S hK hP hS hB p0 hp (zcK1 hz) rfl inlX2 tyX2 tyX2_ok nmX2 7 (by decide) (List.mem_of_getElem? (i := 50) (by decide +kernel)) rfl (ty := .boolean) (by decide +kernel) hn.1 hn.2 (Nat.le_of_ble_eq_true rfl) (by rw [zcK1 hz]; simp [zU]) hdg kk
theorem zgX2_42 (S : CallFix p m c cc nL s args wsL_law RX2) (hK : zK G A s) (hP : va_P G.1 vwCl (zW G A Y) H) (p0 : Nat) (hp : p0 < 117) (hz : zk p0 = 1) {v : Int32} (hv : Y p0 8 = v) (hdg : decode cc pc = .ok (.getfield 42, 3)) (kk : W p l e R s m args below meth c H locs cells slots Q (F0 m (pc + 3) ls (.int v :: rest))) : W p l e R s m args below meth c H locs cells slots Q (F0 m pc ls (.ref (A p0) :: rest)) := zget S hK hP p0 hp (zcK1 hz) rfl inlX2 8 (by decide) (List.mem_of_getElem? (i := 51) (by decide +kernel)) (by rw [← hv]; rfl) hdg kk
theorem zpX2_42 (S : CallFix p m c cc nL s args wsL_law RX2) (hK : zK G A s) (hP : va_P G.1 vwCl (zW G A Y) H) (hS : va_S B0 H0 H locs) (hB : ∀ q, zAd A q → B0 q) (p0 : Nat) (hp : p0 < 117) (hz : zk p0 = 1) {v : Int32} (hdg : decode cc pc = .ok (.putfield 42, 3)) (kk : ∀ (H1 : Heap) (locs1 : List Loc), va_P G.1 vwCl (zW G A (zU Y p0 8 v)) H1 → va_S B0 H0 H1 locs1 → W p l e R s m args below meth c H1 locs1 cells slots Q (F0 m (pc + 3) ls rest)) : W p l e R s m args below meth c H locs cells slots Q (F0 m pc ls (.int v :: .ref (A p0) :: rest)) :=
  zput S hK hP hS hB p0 hp (zcK1 hz) rfl inlX2 tyX2 tyX2_ok nmX2 8 (by decide) (List.mem_of_getElem? (i := 51) (by decide +kernel)) rfl (ty := .int) (by decide +kernel) rfl rfl (Nat.le_of_ble_eq_true rfl) (by rw [zcK1 hz]; simp [zU]) hdg kk
theorem zgX3_9 (S : CallFix p m c cc nL s args wsL_law RX3) (hK : zK G A s) (hP : va_P G.1 vwCl (zW G A Y) H) (p0 : Nat) (hp : p0 < 117) (hz : zk p0 = 3) (hdg : decode cc pc = .ok (.getfield 9, 3)) (kk : W p l e R s m args below meth c H locs cells slots Q (F0 m (pc + 3) ls (.ref (A (p0 + 1)) :: rest))) : W p l e R s m args below meth c H locs cells slots Q (F0 m pc ls (.ref (A p0) :: rest)) := zget S hK hP p0 hp (zcK3 hz) rfl inlX3 0 (by decide) (List.mem_of_getElem? (i := 63) (by decide +kernel)) rfl hdg kk
theorem zgX3_15 (S : CallFix p m c cc nL s args wsL_law RX3) (hK : zK G A s) (hP : va_P G.1 vwCl (zW G A Y) H) (p0 : Nat) (hp : p0 < 117) (hz : zk p0 = 3) {v : Int32} (hv : Y p0 1 = v) (hdg : decode cc pc = .ok (.getfield 15, 3)) (kk : W p l e R s m args below meth c H locs cells slots Q (F0 m (pc + 3) ls (.int v :: rest))) : W p l e R s m args below meth c H locs cells slots Q (F0 m pc ls (.ref (A p0) :: rest)) := zget S hK hP p0 hp (zcK3 hz) rfl inlX3 1 (by decide) (List.mem_of_getElem? (i := 64) (by decide +kernel)) (by rw [← hv]; rfl) hdg kk
theorem zpX3_15 (S : CallFix p m c cc nL s args wsL_law RX3) (hK : zK G A s) (hP : va_P G.1 vwCl (zW G A Y) H) (hS : va_S B0 H0 H locs) (hB : ∀ q, zAd A q → B0 q) (p0 : Nat) (hp : p0 < 117) (hz : zk p0 = 3) {v : Int32} (hdg : decode cc pc = .ok (.putfield 15, 3)) (kk : ∀ (H1 : Heap) (locs1 : List Loc), va_P G.1 vwCl (zW G A (zU Y p0 1 v)) H1 → va_S B0 H0 H1 locs1 → W p l e R s m args below meth c H1 locs1 cells slots Q (F0 m (pc + 3) ls rest)) : W p l e R s m args below meth c H locs cells slots Q (F0 m pc ls (.int v :: .ref (A p0) :: rest)) :=
  zput S hK hP hS hB p0 hp (zcK3 hz) rfl inlX3 tyX3 tyX3_ok nmX3 1 (by decide) (List.mem_of_getElem? (i := 64) (by decide +kernel)) rfl (ty := .int) (by decide +kernel) rfl rfl (Nat.le_of_ble_eq_true rfl) (by rw [zcK3 hz]; simp [zU]) hdg kk
theorem zgX4_9 (S : CallFix p m c cc nL s args wsL_law RX4) (hK : zK G A s) (hP : va_P G.1 vwCl (zW G A Y) H) (p0 : Nat) (hp : p0 < 117) (hz : zk p0 = 2) (hdg : decode cc pc = .ok (.getfield 9, 3)) (kk : W p l e R s m args below meth c H locs cells slots Q (F0 m (pc + 3) ls (.ref (A (p0 + 1)) :: rest))) : W p l e R s m args below meth c H locs cells slots Q (F0 m pc ls (.ref (A p0) :: rest)) := zget S hK hP p0 hp (zcK2 hz) rfl inlX4 0 (by decide) (List.mem_of_getElem? (i := 55) (by decide +kernel)) rfl hdg kk
theorem zgX4_15 (S : CallFix p m c cc nL s args wsL_law RX4) (hK : zK G A s) (hP : va_P G.1 vwCl (zW G A Y) H) (p0 : Nat) (hp : p0 < 117) (hz : zk p0 = 2) (hdg : decode cc pc = .ok (.getfield 15, 3)) (kk : W p l e R s m args below meth c H locs cells slots Q (F0 m (pc + 3) ls (.ref (A (p0 + 2)) :: rest))) : W p l e R s m args below meth c H locs cells slots Q (F0 m pc ls (.ref (A p0) :: rest)) := zget S hK hP p0 hp (zcK2 hz) rfl inlX4 1 (by decide) (List.mem_of_getElem? (i := 56) (by decide +kernel)) rfl hdg kk
theorem zgX4_18 (S : CallFix p m c cc nL s args wsL_law RX4) (hK : zK G A s) (hP : va_P G.1 vwCl (zW G A Y) H) (p0 : Nat) (hp : p0 < 117) (hz : zk p0 = 2) (hdg : decode cc pc = .ok (.getfield 18, 3)) (kk : W p l e R s m args below meth c H locs cells slots Q (F0 m (pc + 3) ls (.ref (A (p0 + 3)) :: rest))) : W p l e R s m args below meth c H locs cells slots Q (F0 m pc ls (.ref (A p0) :: rest)) := zget S hK hP p0 hp (zcK2 hz) rfl inlX4 2 (by decide) (List.mem_of_getElem? (i := 57) (by decide +kernel)) rfl hdg kk
theorem zgX4_21 (S : CallFix p m c cc nL s args wsL_law RX4) (hK : zK G A s) (hP : va_P G.1 vwCl (zW G A Y) H) (p0 : Nat) (hp : p0 < 117) (hz : zk p0 = 2) (hdg : decode cc pc = .ok (.getfield 21, 3)) (kk : W p l e R s m args below meth c H locs cells slots Q (F0 m (pc + 3) ls (.ref (A (p0 + 4)) :: rest))) : W p l e R s m args below meth c H locs cells slots Q (F0 m pc ls (.ref (A p0) :: rest)) := zget S hK hP p0 hp (zcK2 hz) rfl inlX4 3 (by decide) (List.mem_of_getElem? (i := 58) (by decide +kernel)) rfl hdg kk
theorem zgX4_24 (S : CallFix p m c cc nL s args wsL_law RX4) (hK : zK G A s) (hP : va_P G.1 vwCl (zW G A Y) H) (p0 : Nat) (hp : p0 < 117) (hz : zk p0 = 2) {v : Int32} (hv : Y p0 4 = v) (hdg : decode cc pc = .ok (.getfield 24, 3)) (kk : W p l e R s m args below meth c H locs cells slots Q (F0 m (pc + 3) ls (.int v :: rest))) : W p l e R s m args below meth c H locs cells slots Q (F0 m pc ls (.ref (A p0) :: rest)) := zget S hK hP p0 hp (zcK2 hz) rfl inlX4 4 (by decide) (List.mem_of_getElem? (i := 59) (by decide +kernel)) (by rw [← hv]; rfl) hdg kk
theorem zpX4_24 (S : CallFix p m c cc nL s args wsL_law RX4) (hK : zK G A s) (hP : va_P G.1 vwCl (zW G A Y) H) (hS : va_S B0 H0 H locs) (hB : ∀ q, zAd A q → B0 q) (p0 : Nat) (hp : p0 < 117) (hz : zk p0 = 2) {v : Int32} (hdg : decode cc pc = .ok (.putfield 24, 3)) (kk : ∀ (H1 : Heap) (locs1 : List Loc), va_P G.1 vwCl (zW G A (zU Y p0 4 v)) H1 → va_S B0 H0 H1 locs1 → W p l e R s m args below meth c H1 locs1 cells slots Q (F0 m (pc + 3) ls rest)) : W p l e R s m args below meth c H locs cells slots Q (F0 m pc ls (.int v :: .ref (A p0) :: rest)) :=
  zput S hK hP hS hB p0 hp (zcK2 hz) rfl inlX4 tyX4 tyX4_ok nmX4 4 (by decide) (List.mem_of_getElem? (i := 59) (by decide +kernel)) rfl (ty := .int) (by decide +kernel) rfl rfl (Nat.le_of_ble_eq_true rfl) (by rw [zcK2 hz]; simp [zU]) hdg kk
theorem zgX5_9 (S : CallFix p m c cc nL s args wsL_law RX5) (hK : zK G A s) (hP : va_P G.1 vwCl (zW G A Y) H) (p0 : Nat) (hp : p0 < 117) (hz : zk p0 = 0) (hdg : decode cc pc = .ok (.getfield 9, 3)) (kk : W p l e R s m args below meth c H locs cells slots Q (F0 m (pc + 3) ls (.ref (A 1) :: rest))) : W p l e R s m args below meth c H locs cells slots Q (F0 m pc ls (.ref (A p0) :: rest)) := zget S hK hP p0 hp (zcK0 hz) rfl inlX5 0 (by decide) (List.mem_of_getElem? (i := 13) (by decide +kernel)) rfl hdg kk
theorem zgX5_13 (S : CallFix p m c cc nL s args wsL_law RX5) (hK : zK G A s) (hP : va_P G.1 vwCl (zW G A Y) H) (p0 : Nat) (hp : p0 < 117) (hz : zk p0 = 0) {v : Int32} (hv : Y p0 1 = v) (hdg : decode cc pc = .ok (.getfield 13, 3)) (kk : W p l e R s m args below meth c H locs cells slots Q (F0 m (pc + 3) ls (.int v :: rest))) : W p l e R s m args below meth c H locs cells slots Q (F0 m pc ls (.ref (A p0) :: rest)) := zget S hK hP p0 hp (zcK0 hz) rfl inlX5 1 (by decide) (List.mem_of_getElem? (i := 14) (by decide +kernel)) (by rw [← hv]; rfl) hdg kk
theorem zpX5_13 (S : CallFix p m c cc nL s args wsL_law RX5) (hK : zK G A s) (hP : va_P G.1 vwCl (zW G A Y) H) (hS : va_S B0 H0 H locs) (hB : ∀ q, zAd A q → B0 q) (p0 : Nat) (hp : p0 < 117) (hz : zk p0 = 0) {v : Int32} (hdg : decode cc pc = .ok (.putfield 13, 3)) (kk : ∀ (H1 : Heap) (locs1 : List Loc), va_P G.1 vwCl (zW G A (zU Y p0 1 v)) H1 → va_S B0 H0 H1 locs1 → W p l e R s m args below meth c H1 locs1 cells slots Q (F0 m (pc + 3) ls rest)) : W p l e R s m args below meth c H locs cells slots Q (F0 m pc ls (.int v :: .ref (A p0) :: rest)) :=
  zput S hK hP hS hB p0 hp (zcK0 hz) rfl inlX5 tyX5 tyX5_ok nmX5 1 (by decide) (List.mem_of_getElem? (i := 14) (by decide +kernel)) rfl (ty := .int) (by decide +kernel) rfl rfl (Nat.le_of_ble_eq_true rfl) (by rw [zcK0 hz]; simp [zU]) hdg kk
theorem zgX5_20 (S : CallFix p m c cc nL s args wsL_law RX5) (hK : zK G A s) (hP : va_P G.1 vwCl (zW G A Y) H) (p0 : Nat) (hp : p0 < 117) (hz : zk p0 = 0) (hdg : decode cc pc = .ok (.getfield 20, 3)) (kk : W p l e R s m args below meth c H locs cells slots Q (F0 m (pc + 3) ls (.ref (A 2) :: rest))) : W p l e R s m args below meth c H locs cells slots Q (F0 m pc ls (.ref (A p0) :: rest)) := zget S hK hP p0 hp (zcK0 hz) rfl inlX5 2 (by decide) (List.mem_of_getElem? (i := 18) (by decide +kernel)) rfl hdg kk
theorem zgX5_27 (S : CallFix p m c cc nL s args wsL_law RX5) (hK : zK G A s) (hP : va_P G.1 vwCl (zW G A Y) H) (p0 : Nat) (hp : p0 < 117) (hz : zk p0 = 0) (hdg : decode cc pc = .ok (.getfield 27, 3)) (kk : W p l e R s m args below meth c H locs cells slots Q (F0 m (pc + 3) ls (.ref (A 11) :: rest))) : W p l e R s m args below meth c H locs cells slots Q (F0 m pc ls (.ref (A p0) :: rest)) := zget S hK hP p0 hp (zcK0 hz) rfl inlX5 3 (by decide) (List.mem_of_getElem? (i := 22) (by decide +kernel)) rfl hdg kk
theorem zgX5_34 (S : CallFix p m c cc nL s args wsL_law RX5) (hK : zK G A s) (hP : va_P G.1 vwCl (zW G A Y) H) (p0 : Nat) (hp : p0 < 117) (hz : zk p0 = 0) (hdg : decode cc pc = .ok (.getfield 34, 3)) (kk : W p l e R s m args below meth c H locs cells slots Q (F0 m (pc + 3) ls (.ref (A 16) :: rest))) : W p l e R s m args below meth c H locs cells slots Q (F0 m pc ls (.ref (A p0) :: rest)) := zget S hK hP p0 hp (zcK0 hz) rfl inlX5 4 (by decide) (List.mem_of_getElem? (i := 26) (by decide +kernel)) rfl hdg kk
theorem zgX5_41 (S : CallFix p m c cc nL s args wsL_law RX5) (hK : zK G A s) (hP : va_P G.1 vwCl (zW G A Y) H) (p0 : Nat) (hp : p0 < 117) (hz : zk p0 = 0) (hdg : decode cc pc = .ok (.getfield 41, 3)) (kk : W p l e R s m args below meth c H locs cells slots Q (F0 m (pc + 3) ls (.ref (A 18) :: rest))) : W p l e R s m args below meth c H locs cells slots Q (F0 m pc ls (.ref (A p0) :: rest)) := zget S hK hP p0 hp (zcK0 hz) rfl inlX5 5 (by decide) (List.mem_of_getElem? (i := 30) (by decide +kernel)) rfl hdg kk
theorem zgX5_48 (S : CallFix p m c cc nL s args wsL_law RX5) (hK : zK G A s) (hP : va_P G.1 vwCl (zW G A Y) H) (p0 : Nat) (hp : p0 < 117) (hz : zk p0 = 0) (hdg : decode cc pc = .ok (.getfield 48, 3)) (kk : W p l e R s m args below meth c H locs cells slots Q (F0 m (pc + 3) ls (.ref (A 45) :: rest))) : W p l e R s m args below meth c H locs cells slots Q (F0 m pc ls (.ref (A p0) :: rest)) := zget S hK hP p0 hp (zcK0 hz) rfl inlX5 6 (by decide) (List.mem_of_getElem? (i := 34) (by decide +kernel)) rfl hdg kk
theorem zgX5_52 (S : CallFix p m c cc nL s args wsL_law RX5) (hK : zK G A s) (hP : va_P G.1 vwCl (zW G A Y) H) (p0 : Nat) (hp : p0 < 117) (hz : zk p0 = 0) {v : Int32} (hv : Y p0 7 = v) (hdg : decode cc pc = .ok (.getfield 52, 3)) (kk : W p l e R s m args below meth c H locs cells slots Q (F0 m (pc + 3) ls (.int v :: rest))) : W p l e R s m args below meth c H locs cells slots Q (F0 m pc ls (.ref (A p0) :: rest)) := zget S hK hP p0 hp (zcK0 hz) rfl inlX5 7 (by decide) (List.mem_of_getElem? (i := 35) (by decide +kernel)) (by rw [← hv]; rfl) hdg kk
theorem zpX5_52 (S : CallFix p m c cc nL s args wsL_law RX5) (hK : zK G A s) (hP : va_P G.1 vwCl (zW G A Y) H) (hS : va_S B0 H0 H locs) (hB : ∀ q, zAd A q → B0 q) (p0 : Nat) (hp : p0 < 117) (hz : zk p0 = 0) {v : Int32} (hdg : decode cc pc = .ok (.putfield 52, 3)) (kk : ∀ (H1 : Heap) (locs1 : List Loc), va_P G.1 vwCl (zW G A (zU Y p0 7 v)) H1 → va_S B0 H0 H1 locs1 → W p l e R s m args below meth c H1 locs1 cells slots Q (F0 m (pc + 3) ls rest)) : W p l e R s m args below meth c H locs cells slots Q (F0 m pc ls (.int v :: .ref (A p0) :: rest)) :=
  zput S hK hP hS hB p0 hp (zcK0 hz) rfl inlX5 tyX5 tyX5_ok nmX5 7 (by decide) (List.mem_of_getElem? (i := 35) (by decide +kernel)) rfl (ty := .int) (by decide +kernel) rfl rfl (Nat.le_of_ble_eq_true rfl) (by rw [zcK0 hz]; simp [zU]) hdg kk
theorem zgX5_55 (S : CallFix p m c cc nL s args wsL_law RX5) (hK : zK G A s) (hP : va_P G.1 vwCl (zW G A Y) H) (p0 : Nat) (hp : p0 < 117) (hz : zk p0 = 0) {v : Int32} (hv : Y p0 8 = v) (hdg : decode cc pc = .ok (.getfield 55, 3)) (kk : W p l e R s m args below meth c H locs cells slots Q (F0 m (pc + 3) ls (.int v :: rest))) : W p l e R s m args below meth c H locs cells slots Q (F0 m pc ls (.ref (A p0) :: rest)) := zget S hK hP p0 hp (zcK0 hz) rfl inlX5 8 (by decide) (List.mem_of_getElem? (i := 36) (by decide +kernel)) (by rw [← hv]; rfl) hdg kk
theorem zpX5_55 (S : CallFix p m c cc nL s args wsL_law RX5) (hK : zK G A s) (hP : va_P G.1 vwCl (zW G A Y) H) (hS : va_S B0 H0 H locs) (hB : ∀ q, zAd A q → B0 q) (p0 : Nat) (hp : p0 < 117) (hz : zk p0 = 0) {v : Int32} (hdg : decode cc pc = .ok (.putfield 55, 3)) (kk : ∀ (H1 : Heap) (locs1 : List Loc), va_P G.1 vwCl (zW G A (zU Y p0 8 v)) H1 → va_S B0 H0 H1 locs1 → W p l e R s m args below meth c H1 locs1 cells slots Q (F0 m (pc + 3) ls rest)) : W p l e R s m args below meth c H locs cells slots Q (F0 m pc ls (.int v :: .ref (A p0) :: rest)) :=
  zput S hK hP hS hB p0 hp (zcK0 hz) rfl inlX5 tyX5 tyX5_ok nmX5 8 (by decide) (List.mem_of_getElem? (i := 36) (by decide +kernel)) rfl (ty := .int) (by decide +kernel) rfl rfl (Nat.le_of_ble_eq_true rfl) (by rw [zcK0 hz]; simp [zU]) hdg kk
theorem zgX5_58 (S : CallFix p m c cc nL s args wsL_law RX5) (hK : zK G A s) (hP : va_P G.1 vwCl (zW G A Y) H) (p0 : Nat) (hp : p0 < 117) (hz : zk p0 = 0) {v : Int32} (hv : Y p0 9 = v) (hdg : decode cc pc = .ok (.getfield 58, 3)) (kk : W p l e R s m args below meth c H locs cells slots Q (F0 m (pc + 3) ls (.int v :: rest))) : W p l e R s m args below meth c H locs cells slots Q (F0 m pc ls (.ref (A p0) :: rest)) := zget S hK hP p0 hp (zcK0 hz) rfl inlX5 9 (by decide) (List.mem_of_getElem? (i := 37) (by decide +kernel)) (by rw [← hv]; rfl) hdg kk
theorem zpX5_58 (S : CallFix p m c cc nL s args wsL_law RX5) (hK : zK G A s) (hP : va_P G.1 vwCl (zW G A Y) H) (hS : va_S B0 H0 H locs) (hB : ∀ q, zAd A q → B0 q) (p0 : Nat) (hp : p0 < 117) (hz : zk p0 = 0) {v : Int32} (hdg : decode cc pc = .ok (.putfield 58, 3)) (kk : ∀ (H1 : Heap) (locs1 : List Loc), va_P G.1 vwCl (zW G A (zU Y p0 9 v)) H1 → va_S B0 H0 H1 locs1 → W p l e R s m args below meth c H1 locs1 cells slots Q (F0 m (pc + 3) ls rest)) : W p l e R s m args below meth c H locs cells slots Q (F0 m pc ls (.int v :: .ref (A p0) :: rest)) :=
  zput S hK hP hS hB p0 hp (zcK0 hz) rfl inlX5 tyX5 tyX5_ok nmX5 9 (by decide) (List.mem_of_getElem? (i := 37) (by decide +kernel)) rfl (ty := .int) (by decide +kernel) rfl rfl (Nat.le_of_ble_eq_true rfl) (by rw [zcK0 hz]; simp [zU]) hdg kk
theorem zgX5_65 (S : CallFix p m c cc nL s args wsL_law RX5) (hK : zK G A s) (hP : va_P G.1 vwCl (zW G A Y) H) (p0 : Nat) (hp : p0 < 117) (hz : zk p0 = 1) (hdg : decode cc pc = .ok (.getfield 65, 3)) (kk : W p l e R s m args below meth c H locs cells slots Q (F0 m (pc + 3) ls (.ref (A 3) :: rest))) : W p l e R s m args below meth c H locs cells slots Q (F0 m pc ls (.ref (A p0) :: rest)) := zgetN S hK hP p0 hp (zcK1 hz) rfl inlX2 0 (by decide) (List.mem_of_getElem? (i := 6) (by decide +kernel)) rfl hdg kk
theorem zgX5_68 (S : CallFix p m c cc nL s args wsL_law RX5) (hK : zK G A s) (hP : va_P G.1 vwCl (zW G A Y) H) (p0 : Nat) (hp : p0 < 117) (hz : zk p0 = 2) {v : Int32} (hv : Y p0 4 = v) (hdg : decode cc pc = .ok (.getfield 68, 3)) (kk : W p l e R s m args below meth c H locs cells slots Q (F0 m (pc + 3) ls (.int v :: rest))) : W p l e R s m args below meth c H locs cells slots Q (F0 m pc ls (.ref (A p0) :: rest)) := zgetN S hK hP p0 hp (zcK2 hz) rfl inlX4 4 (by decide) (List.mem_of_getElem? (i := 4) (by decide +kernel)) (by rw [← hv]; rfl) hdg kk
theorem zgX5_93 (S : CallFix p m c cc nL s args wsL_law RX5) (hK : zK G A s) (hP : va_P G.1 vwCl (zW G A Y) H) (p0 : Nat) (hp : p0 < 117) (hz : zk p0 = 3) {v : Int32} (hv : Y p0 1 = v) (hdg : decode cc pc = .ok (.getfield 93, 3)) (kk : W p l e R s m args below meth c H locs cells slots Q (F0 m (pc + 3) ls (.int v :: rest))) : W p l e R s m args below meth c H locs cells slots Q (F0 m pc ls (.ref (A p0) :: rest)) := zgetN S hK hP p0 hp (zcK3 hz) rfl inlX3 1 (by decide) (List.mem_of_getElem? (i := 9) (by decide +kernel)) (by rw [← hv]; rfl) hdg kk
theorem zgX5_114 (S : CallFix p m c cc nL s args wsL_law RX5) (hK : zK G A s) (hP : va_P G.1 vwCl (zW G A Y) H) (p0 : Nat) (hp : p0 < 117) (hz : zk p0 = 5) {v : Int32} (hv : Y p0 1 = v) (hdg : decode cc pc = .ok (.getfield 114, 3)) (kk : W p l e R s m args below meth c H locs cells slots Q (F0 m (pc + 3) ls (.int v :: rest))) : W p l e R s m args below meth c H locs cells slots Q (F0 m pc ls (.ref (A p0) :: rest)) := zgetN S hK hP p0 hp (zcK5 hz) rfl inlX1 1 (by decide) (List.mem_of_getElem? (i := 10) (by decide +kernel)) (by rw [← hv]; rfl) hdg kk
theorem zgX6_7 (S : CallFix p m c cc nL s args wsL_law RX6) (hK : zK G A s) (hP : va_P G.1 vwCl (zW G A Y) H) (p0 : Nat) (hp : p0 < 117) (hz : zk p0 = 6) (hdg : decode cc pc = .ok (.getfield 7, 3)) (kk : W p l e R s m args below meth c H locs cells slots Q (F0 m (pc + 3) ls (.ref (A 103) :: rest))) : W p l e R s m args below meth c H locs cells slots Q (F0 m pc ls (.ref (A p0) :: rest)) := zget S hK hP p0 hp (zcK6 hz) rfl inlX6 1 (by decide) (List.mem_of_getElem? (i := 88) (by decide +kernel)) rfl hdg kk
theorem zgX6_13 (S : CallFix p m c cc nL s args wsL_law RX6) (hK : zK G A s) (hP : va_P G.1 vwCl (zW G A Y) H) (p0 : Nat) (hp : p0 < 117) (hz : zk p0 = 6) (hdg : decode cc pc = .ok (.getfield 13, 3)) (kk : W p l e R s m args below meth c H locs cells slots Q (F0 m (pc + 3) ls (.ref (A 104) :: rest))) : W p l e R s m args below meth c H locs cells slots Q (F0 m pc ls (.ref (A p0) :: rest)) := zget S hK hP p0 hp (zcK6 hz) rfl inlX6 3 (by decide) (List.mem_of_getElem? (i := 89) (by decide +kernel)) rfl hdg kk
theorem zgX6_16 (S : CallFix p m c cc nL s args wsL_law RX6) (hK : zK G A s) (hP : va_P G.1 vwCl (zW G A Y) H) (p0 : Nat) (hp : p0 < 117) (hz : zk p0 = 6) (hdg : decode cc pc = .ok (.getfield 16, 3)) (kk : W p l e R s m args below meth c H locs cells slots Q (F0 m (pc + 3) ls (.ref (A 105) :: rest))) : W p l e R s m args below meth c H locs cells slots Q (F0 m pc ls (.ref (A p0) :: rest)) := zget S hK hP p0 hp (zcK6 hz) rfl inlX6 4 (by decide) (List.mem_of_getElem? (i := 90) (by decide +kernel)) rfl hdg kk
theorem zgX6_19 (S : CallFix p m c cc nL s args wsL_law RX6) (hK : zK G A s) (hP : va_P G.1 vwCl (zW G A Y) H) (p0 : Nat) (hp : p0 < 117) (hz : zk p0 = 6) (hdg : decode cc pc = .ok (.getfield 19, 3)) (kk : W p l e R s m args below meth c H locs cells slots Q (F0 m (pc + 3) ls (.ref (A 106) :: rest))) : W p l e R s m args below meth c H locs cells slots Q (F0 m pc ls (.ref (A p0) :: rest)) := zget S hK hP p0 hp (zcK6 hz) rfl inlX6 5 (by decide) (List.mem_of_getElem? (i := 91) (by decide +kernel)) rfl hdg kk
theorem zgX6_22 (S : CallFix p m c cc nL s args wsL_law RX6) (hK : zK G A s) (hP : va_P G.1 vwCl (zW G A Y) H) (p0 : Nat) (hp : p0 < 117) (hz : zk p0 = 6) (hdg : decode cc pc = .ok (.getfield 22, 3)) (kk : W p l e R s m args below meth c H locs cells slots Q (F0 m (pc + 3) ls (.ref (A 107) :: rest))) : W p l e R s m args below meth c H locs cells slots Q (F0 m pc ls (.ref (A p0) :: rest)) := zget S hK hP p0 hp (zcK6 hz) rfl inlX6 7 (by decide) (List.mem_of_getElem? (i := 92) (by decide +kernel)) rfl hdg kk
theorem zgX6_25 (S : CallFix p m c cc nL s args wsL_law RX6) (hK : zK G A s) (hP : va_P G.1 vwCl (zW G A Y) H) (p0 : Nat) (hp : p0 < 117) (hz : zk p0 = 6) (hdg : decode cc pc = .ok (.getfield 25, 3)) (kk : W p l e R s m args below meth c H locs cells slots Q (F0 m (pc + 3) ls (.ref (A 108) :: rest))) : W p l e R s m args below meth c H locs cells slots Q (F0 m pc ls (.ref (A p0) :: rest)) := zget S hK hP p0 hp (zcK6 hz) rfl inlX6 8 (by decide) (List.mem_of_getElem? (i := 93) (by decide +kernel)) rfl hdg kk
theorem zgX6_28 (S : CallFix p m c cc nL s args wsL_law RX6) (hK : zK G A s) (hP : va_P G.1 vwCl (zW G A Y) H) (p0 : Nat) (hp : p0 < 117) (hz : zk p0 = 6) (hdg : decode cc pc = .ok (.getfield 28, 3)) (kk : W p l e R s m args below meth c H locs cells slots Q (F0 m (pc + 3) ls (.ref (A 109) :: rest))) : W p l e R s m args below meth c H locs cells slots Q (F0 m pc ls (.ref (A p0) :: rest)) := zget S hK hP p0 hp (zcK6 hz) rfl inlX6 9 (by decide) (List.mem_of_getElem? (i := 94) (by decide +kernel)) rfl hdg kk
theorem zgX6_31 (S : CallFix p m c cc nL s args wsL_law RX6) (hK : zK G A s) (hP : va_P G.1 vwCl (zW G A Y) H) (p0 : Nat) (hp : p0 < 117) (hz : zk p0 = 6) (hdg : decode cc pc = .ok (.getfield 31, 3)) (kk : W p l e R s m args below meth c H locs cells slots Q (F0 m (pc + 3) ls (.ref (A 110) :: rest))) : W p l e R s m args below meth c H locs cells slots Q (F0 m pc ls (.ref (A p0) :: rest)) := zget S hK hP p0 hp (zcK6 hz) rfl inlX6 11 (by decide) (List.mem_of_getElem? (i := 95) (by decide +kernel)) rfl hdg kk
theorem zgX6_34 (S : CallFix p m c cc nL s args wsL_law RX6) (hK : zK G A s) (hP : va_P G.1 vwCl (zW G A Y) H) (p0 : Nat) (hp : p0 < 117) (hz : zk p0 = 6) (hdg : decode cc pc = .ok (.getfield 34, 3)) (kk : W p l e R s m args below meth c H locs cells slots Q (F0 m (pc + 3) ls (.ref (A 111) :: rest))) : W p l e R s m args below meth c H locs cells slots Q (F0 m pc ls (.ref (A p0) :: rest)) := zget S hK hP p0 hp (zcK6 hz) rfl inlX6 13 (by decide) (List.mem_of_getElem? (i := 96) (by decide +kernel)) rfl hdg kk
theorem zgX6_37 (S : CallFix p m c cc nL s args wsL_law RX6) (hK : zK G A s) (hP : va_P G.1 vwCl (zW G A Y) H) (p0 : Nat) (hp : p0 < 117) (hz : zk p0 = 6) {v : Int32} (hv : Y p0 15 = v) (hdg : decode cc pc = .ok (.getfield 37, 3)) (kk : W p l e R s m args below meth c H locs cells slots Q (F0 m (pc + 3) ls (.int v :: rest))) : W p l e R s m args below meth c H locs cells slots Q (F0 m pc ls (.ref (A p0) :: rest)) := zget S hK hP p0 hp (zcK6 hz) rfl inlX6 15 (by decide) (List.mem_of_getElem? (i := 97) (by decide +kernel)) (by rw [← hv]; rfl) hdg kk
theorem zpX6_37 (S : CallFix p m c cc nL s args wsL_law RX6) (hK : zK G A s) (hP : va_P G.1 vwCl (zW G A Y) H) (hS : va_S B0 H0 H locs) (hB : ∀ q, zAd A q → B0 q) (p0 : Nat) (hp : p0 < 117) (hz : zk p0 = 6) {v : Int32} (hdg : decode cc pc = .ok (.putfield 37, 3)) (kk : ∀ (H1 : Heap) (locs1 : List Loc), va_P G.1 vwCl (zW G A (zU Y p0 15 v)) H1 → va_S B0 H0 H1 locs1 → W p l e R s m args below meth c H1 locs1 cells slots Q (F0 m (pc + 3) ls rest)) : W p l e R s m args below meth c H locs cells slots Q (F0 m pc ls (.int v :: .ref (A p0) :: rest)) :=
  zput S hK hP hS hB p0 hp (zcK6 hz) rfl inlX6 tyX6 tyX6_ok nmX6 15 (by decide) (List.mem_of_getElem? (i := 97) (by decide +kernel)) rfl (ty := .int) (by decide +kernel) rfl rfl (Nat.le_of_ble_eq_true rfl) (by rw [zcK6 hz]; simp [zU]) hdg kk
theorem zgX6_41 (S : CallFix p m c cc nL s args wsL_law RX6) (hK : zK G A s) (hP : va_P G.1 vwCl (zW G A Y) H) (p0 : Nat) (hp : p0 < 117) (hz : zk p0 = 6) {v : Int32} (hv : Y p0 16 = v) (hdg : decode cc pc = .ok (.getfield 41, 3)) (kk : W p l e R s m args below meth c H locs cells slots Q (F0 m (pc + 3) ls (.int v :: rest))) : W p l e R s m args below meth c H locs cells slots Q (F0 m pc ls (.ref (A p0) :: rest)) := zget S hK hP p0 hp (zcK6 hz) rfl inlX6 16 (by decide) (List.mem_of_getElem? (i := 98) (by decide +kernel)) (by rw [← hv]; rfl) hdg kk
theorem zpX6_41 (S : CallFix p m c cc nL s args wsL_law RX6) (hK : zK G A s) (hP : va_P G.1 vwCl (zW G A Y) H) (hS : va_S B0 H0 H locs) (hB : ∀ q, zAd A q → B0 q) (p0 : Nat) (hp : p0 < 117) (hz : zk p0 = 6) {v : Int32} (hdg : decode cc pc = .ok (.putfield 41, 3)) (kk : ∀ (H1 : Heap) (locs1 : List Loc), va_P G.1 vwCl (zW G A (zU Y p0 16 v)) H1 → va_S B0 H0 H1 locs1 → W p l e R s m args below meth c H1 locs1 cells slots Q (F0 m (pc + 3) ls rest)) : W p l e R s m args below meth c H locs cells slots Q (F0 m pc ls (.int v :: .ref (A p0) :: rest)) :=
  zput S hK hP hS hB p0 hp (zcK6 hz) rfl inlX6 tyX6 tyX6_ok nmX6 16 (by decide) (List.mem_of_getElem? (i := 98) (by decide +kernel)) rfl (ty := .int) (by decide +kernel) rfl rfl (Nat.le_of_ble_eq_true rfl) (by rw [zcK6 hz]; simp [zU]) hdg kk
theorem zgX6_44 (S : CallFix p m c cc nL s args wsL_law RX6) (hK : zK G A s) (hP : va_P G.1 vwCl (zW G A Y) H) (p0 : Nat) (hp : p0 < 117) (hz : zk p0 = 6) {v : Int32} (hv : Y p0 17 = v) (hdg : decode cc pc = .ok (.getfield 44, 3)) (kk : W p l e R s m args below meth c H locs cells slots Q (F0 m (pc + 3) ls (.int v :: rest))) : W p l e R s m args below meth c H locs cells slots Q (F0 m pc ls (.ref (A p0) :: rest)) := zget S hK hP p0 hp (zcK6 hz) rfl inlX6 17 (by decide) (List.mem_of_getElem? (i := 99) (by decide +kernel)) (by rw [← hv]; rfl) hdg kk
theorem zpX6_44 (S : CallFix p m c cc nL s args wsL_law RX6) (hK : zK G A s) (hP : va_P G.1 vwCl (zW G A Y) H) (hS : va_S B0 H0 H locs) (hB : ∀ q, zAd A q → B0 q) (p0 : Nat) (hp : p0 < 117) (hz : zk p0 = 6) {v : Int32} (hdg : decode cc pc = .ok (.putfield 44, 3)) (kk : ∀ (H1 : Heap) (locs1 : List Loc), va_P G.1 vwCl (zW G A (zU Y p0 17 v)) H1 → va_S B0 H0 H1 locs1 → W p l e R s m args below meth c H1 locs1 cells slots Q (F0 m (pc + 3) ls rest)) : W p l e R s m args below meth c H locs cells slots Q (F0 m pc ls (.int v :: .ref (A p0) :: rest)) :=
  zput S hK hP hS hB p0 hp (zcK6 hz) rfl inlX6 tyX6 tyX6_ok nmX6 17 (by decide) (List.mem_of_getElem? (i := 99) (by decide +kernel)) rfl (ty := .int) (by decide +kernel) rfl rfl (Nat.le_of_ble_eq_true rfl) (by rw [zcK6 hz]; simp [zU]) hdg kk
theorem zgX6_47 (S : CallFix p m c cc nL s args wsL_law RX6) (hK : zK G A s) (hP : va_P G.1 vwCl (zW G A Y) H) (p0 : Nat) (hp : p0 < 117) (hz : zk p0 = 6) (hdg : decode cc pc = .ok (.getfield 47, 3)) (kk : W p l e R s m args below meth c H locs cells slots Q (F0 m (pc + 3) ls (.ref (A 112) :: rest))) : W p l e R s m args below meth c H locs cells slots Q (F0 m pc ls (.ref (A p0) :: rest)) := zget S hK hP p0 hp (zcK6 hz) rfl inlX6 20 (by decide) (List.mem_of_getElem? (i := 100) (by decide +kernel)) rfl hdg kk
theorem zgX6_50 (S : CallFix p m c cc nL s args wsL_law RX6) (hK : zK G A s) (hP : va_P G.1 vwCl (zW G A Y) H) (p0 : Nat) (hp : p0 < 117) (hz : zk p0 = 6) (hdg : decode cc pc = .ok (.getfield 50, 3)) (kk : W p l e R s m args below meth c H locs cells slots Q (F0 m (pc + 3) ls (.ref (A 113) :: rest))) : W p l e R s m args below meth c H locs cells slots Q (F0 m pc ls (.ref (A p0) :: rest)) := zget S hK hP p0 hp (zcK6 hz) rfl inlX6 22 (by decide) (List.mem_of_getElem? (i := 101) (by decide +kernel)) rfl hdg kk
theorem zgX6_53 (S : CallFix p m c cc nL s args wsL_law RX6) (hK : zK G A s) (hP : va_P G.1 vwCl (zW G A Y) H) (p0 : Nat) (hp : p0 < 117) (hz : zk p0 = 6) {v : Int32} (hv : Y p0 23 = v) (hdg : decode cc pc = .ok (.getfield 53, 3)) (kk : W p l e R s m args below meth c H locs cells slots Q (F0 m (pc + 3) ls (.int v :: rest))) : W p l e R s m args below meth c H locs cells slots Q (F0 m pc ls (.ref (A p0) :: rest)) := zget S hK hP p0 hp (zcK6 hz) rfl inlX6 23 (by decide) (List.mem_of_getElem? (i := 102) (by decide +kernel)) (by rw [← hv]; rfl) hdg kk
theorem zpX6_53 (S : CallFix p m c cc nL s args wsL_law RX6) (hK : zK G A s) (hP : va_P G.1 vwCl (zW G A Y) H) (hS : va_S B0 H0 H locs) (hB : ∀ q, zAd A q → B0 q) (p0 : Nat) (hp : p0 < 117) (hz : zk p0 = 6) {v : Int32} (hdg : decode cc pc = .ok (.putfield 53, 3)) (kk : ∀ (H1 : Heap) (locs1 : List Loc), va_P G.1 vwCl (zW G A (zU Y p0 23 v)) H1 → va_S B0 H0 H1 locs1 → W p l e R s m args below meth c H1 locs1 cells slots Q (F0 m (pc + 3) ls rest)) : W p l e R s m args below meth c H locs cells slots Q (F0 m pc ls (.int v :: .ref (A p0) :: rest)) :=
  zput S hK hP hS hB p0 hp (zcK6 hz) rfl inlX6 tyX6 tyX6_ok nmX6 23 (by decide) (List.mem_of_getElem? (i := 102) (by decide +kernel)) rfl (ty := .int) (by decide +kernel) rfl rfl (Nat.le_of_ble_eq_true rfl) (by rw [zcK6 hz]; simp [zU]) hdg kk
theorem zgX6_56 (S : CallFix p m c cc nL s args wsL_law RX6) (hK : zK G A s) (hP : va_P G.1 vwCl (zW G A Y) H) (p0 : Nat) (hp : p0 < 117) (hz : zk p0 = 6) {v : Int32} (hv : Y p0 24 = v) (hdg : decode cc pc = .ok (.getfield 56, 3)) (kk : W p l e R s m args below meth c H locs cells slots Q (F0 m (pc + 3) ls (.int v :: rest))) : W p l e R s m args below meth c H locs cells slots Q (F0 m pc ls (.ref (A p0) :: rest)) := zget S hK hP p0 hp (zcK6 hz) rfl inlX6 24 (by decide) (List.mem_of_getElem? (i := 103) (by decide +kernel)) (by rw [← hv]; rfl) hdg kk
theorem zpX6_56 (S : CallFix p m c cc nL s args wsL_law RX6) (hK : zK G A s) (hP : va_P G.1 vwCl (zW G A Y) H) (hS : va_S B0 H0 H locs) (hB : ∀ q, zAd A q → B0 q) (p0 : Nat) (hp : p0 < 117) (hz : zk p0 = 6) {v : Int32} (hdg : decode cc pc = .ok (.putfield 56, 3)) (kk : ∀ (H1 : Heap) (locs1 : List Loc), va_P G.1 vwCl (zW G A (zU Y p0 24 v)) H1 → va_S B0 H0 H1 locs1 → W p l e R s m args below meth c H1 locs1 cells slots Q (F0 m (pc + 3) ls rest)) : W p l e R s m args below meth c H locs cells slots Q (F0 m pc ls (.int v :: .ref (A p0) :: rest)) :=
  zput S hK hP hS hB p0 hp (zcK6 hz) rfl inlX6 tyX6 tyX6_ok nmX6 24 (by decide) (List.mem_of_getElem? (i := 103) (by decide +kernel)) rfl (ty := .int) (by decide +kernel) rfl rfl (Nat.le_of_ble_eq_true rfl) (by rw [zcK6 hz]; simp [zU]) hdg kk
theorem zgX6_59 (S : CallFix p m c cc nL s args wsL_law RX6) (hK : zK G A s) (hP : va_P G.1 vwCl (zW G A Y) H) (p0 : Nat) (hp : p0 < 117) (hz : zk p0 = 6) (hdg : decode cc pc = .ok (.getfield 59, 3)) (kk : W p l e R s m args below meth c H locs cells slots Q (F0 m (pc + 3) ls (.ref (A 114) :: rest))) : W p l e R s m args below meth c H locs cells slots Q (F0 m pc ls (.ref (A p0) :: rest)) := zget S hK hP p0 hp (zcK6 hz) rfl inlX6 26 (by decide) (List.mem_of_getElem? (i := 104) (by decide +kernel)) rfl hdg kk
theorem zgX6_62 (S : CallFix p m c cc nL s args wsL_law RX6) (hK : zK G A s) (hP : va_P G.1 vwCl (zW G A Y) H) (p0 : Nat) (hp : p0 < 117) (hz : zk p0 = 6) (hdg : decode cc pc = .ok (.getfield 62, 3)) (kk : W p l e R s m args below meth c H locs cells slots Q (F0 m (pc + 3) ls (.ref (A 115) :: rest))) : W p l e R s m args below meth c H locs cells slots Q (F0 m pc ls (.ref (A p0) :: rest)) := zget S hK hP p0 hp (zcK6 hz) rfl inlX6 27 (by decide) (List.mem_of_getElem? (i := 105) (by decide +kernel)) rfl hdg kk
theorem zgX6_65 (S : CallFix p m c cc nL s args wsL_law RX6) (hK : zK G A s) (hP : va_P G.1 vwCl (zW G A Y) H) (p0 : Nat) (hp : p0 < 117) (hz : zk p0 = 6) (hdg : decode cc pc = .ok (.getfield 65, 3)) (kk : W p l e R s m args below meth c H locs cells slots Q (F0 m (pc + 3) ls (.ref (A 116) :: rest))) : W p l e R s m args below meth c H locs cells slots Q (F0 m pc ls (.ref (A p0) :: rest)) := zget S hK hP p0 hp (zcK6 hz) rfl inlX6 28 (by decide) (List.mem_of_getElem? (i := 106) (by decide +kernel)) rfl hdg kk
theorem zgX6_68 (S : CallFix p m c cc nL s args wsL_law RX6) (hK : zK G A s) (hP : va_P G.1 vwCl (zW G A Y) H) (p0 : Nat) (hp : p0 < 117) (hz : zk p0 = 6) {v : Int32} (hv : Y p0 0 = v) (hdg : decode cc pc = .ok (.getfield 68, 3)) (kk : W p l e R s m args below meth c H locs cells slots Q (F0 m (pc + 3) ls (.int v :: rest))) : W p l e R s m args below meth c H locs cells slots Q (F0 m pc ls (.ref (A p0) :: rest)) := zget S hK hP p0 hp (zcK6 hz) rfl inlX6 0 (by decide) (List.mem_of_getElem? (i := 115) (by decide +kernel)) (by rw [← hv]; rfl) hdg kk
theorem zpX6_68 (S : CallFix p m c cc nL s args wsL_law RX6) (hK : zK G A s) (hP : va_P G.1 vwCl (zW G A Y) H) (hS : va_S B0 H0 H locs) (hB : ∀ q, zAd A q → B0 q) (p0 : Nat) (hp : p0 < 117) (hz : zk p0 = 6) {v : Int32} (hdg : decode cc pc = .ok (.putfield 68, 3)) (kk : ∀ (H1 : Heap) (locs1 : List Loc), va_P G.1 vwCl (zW G A (zU Y p0 0 v)) H1 → va_S B0 H0 H1 locs1 → W p l e R s m args below meth c H1 locs1 cells slots Q (F0 m (pc + 3) ls rest)) : W p l e R s m args below meth c H locs cells slots Q (F0 m pc ls (.int v :: .ref (A p0) :: rest)) :=
  zput S hK hP hS hB p0 hp (zcK6 hz) rfl inlX6 tyX6 tyX6_ok nmX6 0 (by decide) (List.mem_of_getElem? (i := 115) (by decide +kernel)) rfl (ty := .int) (by decide +kernel) rfl rfl (Nat.le_of_ble_eq_true rfl) (by rw [zcK6 hz]; simp [zU]) hdg kk
theorem zgX6_79 (S : CallFix p m c cc nL s args wsL_law RX6) (hK : zK G A s) (hP : va_P G.1 vwCl (zW G A Y) H) (p0 : Nat) (hp : p0 < 117) (hz : zk p0 = 6) {v : Int32} (hv : Y p0 6 = v) (hdg : decode cc pc = .ok (.getfield 79, 3)) (kk : W p l e R s m args below meth c H locs cells slots Q (F0 m (pc + 3) ls (.int v :: rest))) : W p l e R s m args below meth c H locs cells slots Q (F0 m pc ls (.ref (A p0) :: rest)) := zget S hK hP p0 hp (zcK6 hz) rfl inlX6 6 (by decide) (List.mem_of_getElem? (i := 224) (by decide +kernel)) (by rw [← hv]; rfl) hdg kk
theorem zpX6_79 (S : CallFix p m c cc nL s args wsL_law RX6) (hK : zK G A s) (hP : va_P G.1 vwCl (zW G A Y) H) (hS : va_S B0 H0 H locs) (hB : ∀ q, zAd A q → B0 q) (p0 : Nat) (hp : p0 < 117) (hz : zk p0 = 6) {v : Int32} (hdg : decode cc pc = .ok (.putfield 79, 3)) (kk : ∀ (H1 : Heap) (locs1 : List Loc), va_P G.1 vwCl (zW G A (zU Y p0 6 v)) H1 → va_S B0 H0 H1 locs1 → W p l e R s m args below meth c H1 locs1 cells slots Q (F0 m (pc + 3) ls rest)) : W p l e R s m args below meth c H locs cells slots Q (F0 m pc ls (.int v :: .ref (A p0) :: rest)) :=
  zput S hK hP hS hB p0 hp (zcK6 hz) rfl inlX6 tyX6 tyX6_ok nmX6 6 (by decide) (List.mem_of_getElem? (i := 224) (by decide +kernel)) rfl (ty := .int) (by decide +kernel) rfl rfl (Nat.le_of_ble_eq_true rfl) (by rw [zcK6 hz]; simp [zU]) hdg kk
theorem zgX6_82 (S : CallFix p m c cc nL s args wsL_law RX6) (hK : zK G A s) (hP : va_P G.1 vwCl (zW G A Y) H) (p0 : Nat) (hp : p0 < 117) (hz : zk p0 = 6) {v : Int32} (hv : Y p0 12 = v) (hdg : decode cc pc = .ok (.getfield 82, 3)) (kk : W p l e R s m args below meth c H locs cells slots Q (F0 m (pc + 3) ls (.int v :: rest))) : W p l e R s m args below meth c H locs cells slots Q (F0 m pc ls (.ref (A p0) :: rest)) := zget S hK hP p0 hp (zcK6 hz) rfl inlX6 12 (by decide) (List.mem_of_getElem? (i := 241) (by decide +kernel)) (by rw [← hv]; rfl) hdg kk
theorem zpX6_82 (S : CallFix p m c cc nL s args wsL_law RX6) (hK : zK G A s) (hP : va_P G.1 vwCl (zW G A Y) H) (hS : va_S B0 H0 H locs) (hB : ∀ q, zAd A q → B0 q) (p0 : Nat) (hp : p0 < 117) (hz : zk p0 = 6) {v : Int32} (hdg : decode cc pc = .ok (.putfield 82, 3)) (kk : ∀ (H1 : Heap) (locs1 : List Loc), va_P G.1 vwCl (zW G A (zU Y p0 12 v)) H1 → va_S B0 H0 H1 locs1 → W p l e R s m args below meth c H1 locs1 cells slots Q (F0 m (pc + 3) ls rest)) : W p l e R s m args below meth c H locs cells slots Q (F0 m pc ls (.int v :: .ref (A p0) :: rest)) :=
  zput S hK hP hS hB p0 hp (zcK6 hz) rfl inlX6 tyX6 tyX6_ok nmX6 12 (by decide) (List.mem_of_getElem? (i := 241) (by decide +kernel)) rfl (ty := .int) (by decide +kernel) rfl rfl (Nat.le_of_ble_eq_true rfl) (by rw [zcK6 hz]; simp [zU]) hdg kk
theorem zgX6_85 (S : CallFix p m c cc nL s args wsL_law RX6) (hK : zK G A s) (hP : va_P G.1 vwCl (zW G A Y) H) (p0 : Nat) (hp : p0 < 117) (hz : zk p0 = 6) {v : Int32} (hv : Y p0 10 = v) (hdg : decode cc pc = .ok (.getfield 85, 3)) (kk : W p l e R s m args below meth c H locs cells slots Q (F0 m (pc + 3) ls (.int v :: rest))) : W p l e R s m args below meth c H locs cells slots Q (F0 m pc ls (.ref (A p0) :: rest)) := zget S hK hP p0 hp (zcK6 hz) rfl inlX6 10 (by decide) (List.mem_of_getElem? (i := 240) (by decide +kernel)) (by rw [← hv]; rfl) hdg kk
theorem zpX6_85 (S : CallFix p m c cc nL s args wsL_law RX6) (hK : zK G A s) (hP : va_P G.1 vwCl (zW G A Y) H) (hS : va_S B0 H0 H locs) (hB : ∀ q, zAd A q → B0 q) (p0 : Nat) (hp : p0 < 117) (hz : zk p0 = 6) {v : Int32} (hdg : decode cc pc = .ok (.putfield 85, 3)) (kk : ∀ (H1 : Heap) (locs1 : List Loc), va_P G.1 vwCl (zW G A (zU Y p0 10 v)) H1 → va_S B0 H0 H1 locs1 → W p l e R s m args below meth c H1 locs1 cells slots Q (F0 m (pc + 3) ls rest)) : W p l e R s m args below meth c H locs cells slots Q (F0 m pc ls (.int v :: .ref (A p0) :: rest)) :=
  zput S hK hP hS hB p0 hp (zcK6 hz) rfl inlX6 tyX6 tyX6_ok nmX6 10 (by decide) (List.mem_of_getElem? (i := 240) (by decide +kernel)) rfl (ty := .int) (by decide +kernel) rfl rfl (Nat.le_of_ble_eq_true rfl) (by rw [zcK6 hz]; simp [zU]) hdg kk
theorem zgX6_99 (S : CallFix p m c cc nL s args wsL_law RX6) (hK : zK G A s) (hP : va_P G.1 vwCl (zW G A Y) H) (p0 : Nat) (hp : p0 < 117) (hz : zk p0 = 6) {v : Int32} (hv : Y p0 14 = v) (hdg : decode cc pc = .ok (.getfield 99, 3)) (kk : W p l e R s m args below meth c H locs cells slots Q (F0 m (pc + 3) ls (.int v :: rest))) : W p l e R s m args below meth c H locs cells slots Q (F0 m pc ls (.ref (A p0) :: rest)) := zget S hK hP p0 hp (zcK6 hz) rfl inlX6 14 (by decide) (List.mem_of_getElem? (i := 243) (by decide +kernel)) (by rw [← hv]; rfl) hdg kk
theorem zpX6_99 (S : CallFix p m c cc nL s args wsL_law RX6) (hK : zK G A s) (hP : va_P G.1 vwCl (zW G A Y) H) (hS : va_S B0 H0 H locs) (hB : ∀ q, zAd A q → B0 q) (p0 : Nat) (hp : p0 < 117) (hz : zk p0 = 6) {v : Int32} (hdg : decode cc pc = .ok (.putfield 99, 3)) (kk : ∀ (H1 : Heap) (locs1 : List Loc), va_P G.1 vwCl (zW G A (zU Y p0 14 v)) H1 → va_S B0 H0 H1 locs1 → W p l e R s m args below meth c H1 locs1 cells slots Q (F0 m (pc + 3) ls rest)) : W p l e R s m args below meth c H locs cells slots Q (F0 m pc ls (.int v :: .ref (A p0) :: rest)) :=
  zput S hK hP hS hB p0 hp (zcK6 hz) rfl inlX6 tyX6 tyX6_ok nmX6 14 (by decide) (List.mem_of_getElem? (i := 243) (by decide +kernel)) rfl (ty := .int) (by decide +kernel) rfl rfl (Nat.le_of_ble_eq_true rfl) (by rw [zcK6 hz]; simp [zU]) hdg kk
theorem zgX6_122 (S : CallFix p m c cc nL s args wsL_law RX6) (hK : zK G A s) (hP : va_P G.1 vwCl (zW G A Y) H) (p0 : Nat) (hp : p0 < 117) (hz : zk p0 = 6) {v : Int32} (hv : Y p0 2 = v) (hdg : decode cc pc = .ok (.getfield 122, 3)) (kk : W p l e R s m args below meth c H locs cells slots Q (F0 m (pc + 3) ls (.int v :: rest))) : W p l e R s m args below meth c H locs cells slots Q (F0 m pc ls (.ref (A p0) :: rest)) := zget S hK hP p0 hp (zcK6 hz) rfl inlX6 2 (by decide) (List.mem_of_getElem? (i := 225) (by decide +kernel)) (by rw [← hv]; rfl) hdg kk
theorem zpX6_122 (S : CallFix p m c cc nL s args wsL_law RX6) (hK : zK G A s) (hP : va_P G.1 vwCl (zW G A Y) H) (hS : va_S B0 H0 H locs) (hB : ∀ q, zAd A q → B0 q) (p0 : Nat) (hp : p0 < 117) (hz : zk p0 = 6) {v : Int32} (hdg : decode cc pc = .ok (.putfield 122, 3)) (kk : ∀ (H1 : Heap) (locs1 : List Loc), va_P G.1 vwCl (zW G A (zU Y p0 2 v)) H1 → va_S B0 H0 H1 locs1 → W p l e R s m args below meth c H1 locs1 cells slots Q (F0 m (pc + 3) ls rest)) : W p l e R s m args below meth c H locs cells slots Q (F0 m pc ls (.int v :: .ref (A p0) :: rest)) :=
  zput S hK hP hS hB p0 hp (zcK6 hz) rfl inlX6 tyX6 tyX6_ok nmX6 2 (by decide) (List.mem_of_getElem? (i := 225) (by decide +kernel)) rfl (ty := .int) (by decide +kernel) rfl rfl (Nat.le_of_ble_eq_true rfl) (by rw [zcK6 hz]; simp [zU]) hdg kk
theorem zgX6_128 (S : CallFix p m c cc nL s args wsL_law RX6) (hK : zK G A s) (hP : va_P G.1 vwCl (zW G A Y) H) (p0 : Nat) (hp : p0 < 117) (hz : zk p0 = 6) {v : Int32} (hv : Y p0 21 = v) (hdg : decode cc pc = .ok (.getfield 128, 3)) (kk : W p l e R s m args below meth c H locs cells slots Q (F0 m (pc + 3) ls (.int v :: rest))) : W p l e R s m args below meth c H locs cells slots Q (F0 m pc ls (.ref (A p0) :: rest)) := zget S hK hP p0 hp (zcK6 hz) rfl inlX6 21 (by decide) (List.mem_of_getElem? (i := 272) (by decide +kernel)) (by rw [← hv]; rfl) hdg kk
theorem zpX6_128 (S : CallFix p m c cc nL s args wsL_law RX6) (hK : zK G A s) (hP : va_P G.1 vwCl (zW G A Y) H) (hS : va_S B0 H0 H locs) (hB : ∀ q, zAd A q → B0 q) (p0 : Nat) (hp : p0 < 117) (hz : zk p0 = 6) {v : Int32} (hn : narrow .boolean (.int v) = .int v ∧ fits .boolean (.int v) = true) (hdg : decode cc pc = .ok (.putfield 128, 3)) (kk : ∀ (H1 : Heap) (locs1 : List Loc), va_P G.1 vwCl (zW G A (zU Y p0 21 v)) H1 → va_S B0 H0 H1 locs1 → W p l e R s m args below meth c H1 locs1 cells slots Q (F0 m (pc + 3) ls rest)) : W p l e R s m args below meth c H locs cells slots Q (F0 m pc ls (.int v :: .ref (A p0) :: rest)) :=
  zput S hK hP hS hB p0 hp (zcK6 hz) rfl inlX6 tyX6 tyX6_ok nmX6 21 (by decide) (List.mem_of_getElem? (i := 272) (by decide +kernel)) rfl (ty := .boolean) (by decide +kernel) hn.1 hn.2 (Nat.le_of_ble_eq_true rfl) (by rw [zcK6 hz]; simp [zU]) hdg kk
theorem zgX6_132 (S : CallFix p m c cc nL s args wsL_law RX6) (hK : zK G A s) (hP : va_P G.1 vwCl (zW G A Y) H) (p0 : Nat) (hp : p0 < 117) (hz : zk p0 = 6) {v : Int32} (hv : Y p0 18 = v) (hdg : decode cc pc = .ok (.getfield 132, 3)) (kk : W p l e R s m args below meth c H locs cells slots Q (F0 m (pc + 3) ls (.int v :: rest))) : W p l e R s m args below meth c H locs cells slots Q (F0 m pc ls (.ref (A p0) :: rest)) := zget S hK hP p0 hp (zcK6 hz) rfl inlX6 18 (by decide) (List.mem_of_getElem? (i := 304) (by decide +kernel)) (by rw [← hv]; rfl) hdg kk
theorem zpX6_132 (S : CallFix p m c cc nL s args wsL_law RX6) (hK : zK G A s) (hP : va_P G.1 vwCl (zW G A Y) H) (hS : va_S B0 H0 H locs) (hB : ∀ q, zAd A q → B0 q) (p0 : Nat) (hp : p0 < 117) (hz : zk p0 = 6) {v : Int32} (hdg : decode cc pc = .ok (.putfield 132, 3)) (kk : ∀ (H1 : Heap) (locs1 : List Loc), va_P G.1 vwCl (zW G A (zU Y p0 18 v)) H1 → va_S B0 H0 H1 locs1 → W p l e R s m args below meth c H1 locs1 cells slots Q (F0 m (pc + 3) ls rest)) : W p l e R s m args below meth c H locs cells slots Q (F0 m pc ls (.int v :: .ref (A p0) :: rest)) :=
  zput S hK hP hS hB p0 hp (zcK6 hz) rfl inlX6 tyX6 tyX6_ok nmX6 18 (by decide) (List.mem_of_getElem? (i := 304) (by decide +kernel)) rfl (ty := .int) (by decide +kernel) rfl rfl (Nat.le_of_ble_eq_true rfl) (by rw [zcK6 hz]; simp [zU]) hdg kk
theorem zgX6_135 (S : CallFix p m c cc nL s args wsL_law RX6) (hK : zK G A s) (hP : va_P G.1 vwCl (zW G A Y) H) (p0 : Nat) (hp : p0 < 117) (hz : zk p0 = 6) {v : Int32} (hv : Y p0 19 = v) (hdg : decode cc pc = .ok (.getfield 135, 3)) (kk : W p l e R s m args below meth c H locs cells slots Q (F0 m (pc + 3) ls (.int v :: rest))) : W p l e R s m args below meth c H locs cells slots Q (F0 m pc ls (.ref (A p0) :: rest)) := zget S hK hP p0 hp (zcK6 hz) rfl inlX6 19 (by decide) (List.mem_of_getElem? (i := 317) (by decide +kernel)) (by rw [← hv]; rfl) hdg kk
theorem zpX6_135 (S : CallFix p m c cc nL s args wsL_law RX6) (hK : zK G A s) (hP : va_P G.1 vwCl (zW G A Y) H) (hS : va_S B0 H0 H locs) (hB : ∀ q, zAd A q → B0 q) (p0 : Nat) (hp : p0 < 117) (hz : zk p0 = 6) {v : Int32} (hdg : decode cc pc = .ok (.putfield 135, 3)) (kk : ∀ (H1 : Heap) (locs1 : List Loc), va_P G.1 vwCl (zW G A (zU Y p0 19 v)) H1 → va_S B0 H0 H1 locs1 → W p l e R s m args below meth c H1 locs1 cells slots Q (F0 m (pc + 3) ls rest)) : W p l e R s m args below meth c H locs cells slots Q (F0 m pc ls (.int v :: .ref (A p0) :: rest)) :=
  zput S hK hP hS hB p0 hp (zcK6 hz) rfl inlX6 tyX6 tyX6_ok nmX6 19 (by decide) (List.mem_of_getElem? (i := 317) (by decide +kernel)) rfl (ty := .int) (by decide +kernel) rfl rfl (Nat.le_of_ble_eq_true rfl) (by rw [zcK6 hz]; simp [zU]) hdg kk
theorem zgX6_173 (S : CallFix p m c cc nL s args wsL_law RX6) (hK : zK G A s) (hP : va_P G.1 vwCl (zW G A Y) H) (p0 : Nat) (hp : p0 < 117) (hz : zk p0 = 6) {v : Int32} (hv : Y p0 25 = v) (hdg : decode cc pc = .ok (.getfield 173, 3)) (kk : W p l e R s m args below meth c H locs cells slots Q (F0 m (pc + 3) ls (.int v :: rest))) : W p l e R s m args below meth c H locs cells slots Q (F0 m pc ls (.ref (A p0) :: rest)) := zget S hK hP p0 hp (zcK6 hz) rfl inlX6 25 (by decide) (List.mem_of_getElem? (i := 481) (by decide +kernel)) (by rw [← hv]; rfl) hdg kk
theorem zpX6_173 (S : CallFix p m c cc nL s args wsL_law RX6) (hK : zK G A s) (hP : va_P G.1 vwCl (zW G A Y) H) (hS : va_S B0 H0 H locs) (hB : ∀ q, zAd A q → B0 q) (p0 : Nat) (hp : p0 < 117) (hz : zk p0 = 6) {v : Int32} (hdg : decode cc pc = .ok (.putfield 173, 3)) (kk : ∀ (H1 : Heap) (locs1 : List Loc), va_P G.1 vwCl (zW G A (zU Y p0 25 v)) H1 → va_S B0 H0 H1 locs1 → W p l e R s m args below meth c H1 locs1 cells slots Q (F0 m (pc + 3) ls rest)) : W p l e R s m args below meth c H locs cells slots Q (F0 m pc ls (.int v :: .ref (A p0) :: rest)) :=
  zput S hK hP hS hB p0 hp (zcK6 hz) rfl inlX6 tyX6 tyX6_ok nmX6 25 (by decide) (List.mem_of_getElem? (i := 481) (by decide +kernel)) rfl (ty := .int) (by decide +kernel) rfl rfl (Nat.le_of_ble_eq_true rfl) (by rw [zcK6 hz]; simp [zU]) hdg kk
end ZF
theorem zdX0_forget : yX0_forget.cls ≠ "java/lang/invoke/MethodHandle" ∧ yX0_forget.cls ≠ "java/lang/invoke/VarHandle" ∧ (parseMethodDescriptor yX0_forget.desc).map (fun d => d.parameters.length) = some 0 := by decide +kernel
theorem zwX0_33 : ∀ w ∈ ([.methodLink RX0 33 yX0_forget, .instanceMethod yX0_forget, .selects yX0_forget.cls yX0_forget yX0_forget, .initialized yX0_forget.cls, .code yX0_forget cX0_forget 1 none] : List Cond), w ∈ wsL_law := List.forall_mem_cons.mpr ⟨List.mem_of_getElem? (i := 291) (by decide +kernel), List.forall_mem_cons.mpr ⟨List.mem_of_getElem? (i := 213) (by decide +kernel), List.forall_mem_cons.mpr ⟨List.mem_of_getElem? (i := 214) (by decide +kernel), List.forall_mem_cons.mpr ⟨List.mem_of_getElem? (i := 29) (by decide +kernel), List.forall_mem_cons.mpr ⟨List.mem_of_getElem? (i := 215) (by decide +kernel), fun _ h => absurd h List.not_mem_nil⟩⟩⟩⟩⟩
theorem zdX0_fillColumn : yX0_fillColumn.cls ≠ "java/lang/invoke/MethodHandle" ∧ yX0_fillColumn.cls ≠ "java/lang/invoke/VarHandle" ∧ (parseMethodDescriptor yX0_fillColumn.desc).map (fun d => d.parameters.length) = some 4 := by decide +kernel
theorem zwX0_44 : ∀ w ∈ ([.methodLink RX0 44 yX0_fillColumn, .instanceMethod yX0_fillColumn, .selects yX0_fillColumn.cls yX0_fillColumn yX0_fillColumn, .initialized yX0_fillColumn.cls, .code yX0_fillColumn cX0_fillColumn 9 none] : List Cond), w ∈ wsL_law := List.forall_mem_cons.mpr ⟨List.mem_of_getElem? (i := 337) (by decide +kernel), List.forall_mem_cons.mpr ⟨List.mem_of_getElem? (i := 338) (by decide +kernel), List.forall_mem_cons.mpr ⟨List.mem_of_getElem? (i := 339) (by decide +kernel), List.forall_mem_cons.mpr ⟨List.mem_of_getElem? (i := 29) (by decide +kernel), List.forall_mem_cons.mpr ⟨List.mem_of_getElem? (i := 340) (by decide +kernel), fun _ h => absurd h List.not_mem_nil⟩⟩⟩⟩⟩
theorem zdX0_pieceAt : yX0_pieceAt.cls ≠ "java/lang/invoke/MethodHandle" ∧ yX0_pieceAt.cls ≠ "java/lang/invoke/VarHandle" ∧ (parseMethodDescriptor yX0_pieceAt.desc).map (fun d => d.parameters.length) = some 2 := by decide +kernel
theorem zwX0_49 : ∀ w ∈ ([.methodLink RX0 49 yX0_pieceAt, .static yX0_pieceAt, .initialized yX0_pieceAt.cls, .code yX0_pieceAt cX0_pieceAt 2 (some .int)] : List Cond), w ∈ wsL_law := List.forall_mem_cons.mpr ⟨List.mem_of_getElem? (i := 346) (by decide +kernel), List.forall_mem_cons.mpr ⟨List.mem_of_getElem? (i := 347) (by decide +kernel), List.forall_mem_cons.mpr ⟨List.mem_of_getElem? (i := 29) (by decide +kernel), List.forall_mem_cons.mpr ⟨List.mem_of_getElem? (i := 348) (by decide +kernel), fun _ h => absurd h List.not_mem_nil⟩⟩⟩⟩
theorem zdX0_fillLetter : yX0_fillLetter.cls ≠ "java/lang/invoke/MethodHandle" ∧ yX0_fillLetter.cls ≠ "java/lang/invoke/VarHandle" ∧ (parseMethodDescriptor yX0_fillLetter.desc).map (fun d => d.parameters.length) = some 4 := by decide +kernel
theorem zwX0_59 : ∀ w ∈ ([.methodLink RX0 59 yX0_fillLetter, .instanceMethod yX0_fillLetter, .selects yX0_fillLetter.cls yX0_fillLetter yX0_fillLetter, .initialized yX0_fillLetter.cls, .code yX0_fillLetter cX0_fillLetter 9 none] : List Cond), w ∈ wsL_law := List.forall_mem_cons.mpr ⟨List.mem_of_getElem? (i := 341) (by decide +kernel), List.forall_mem_cons.mpr ⟨List.mem_of_getElem? (i := 342) (by decide +kernel), List.forall_mem_cons.mpr ⟨List.mem_of_getElem? (i := 343) (by decide +kernel), List.forall_mem_cons.mpr ⟨List.mem_of_getElem? (i := 29) (by decide +kernel), List.forall_mem_cons.mpr ⟨List.mem_of_getElem? (i := 344) (by decide +kernel), fun _ h => absurd h List.not_mem_nil⟩⟩⟩⟩⟩
theorem zdX0_operand : yX0_operand.cls ≠ "java/lang/invoke/MethodHandle" ∧ yX0_operand.cls ≠ "java/lang/invoke/VarHandle" ∧ (parseMethodDescriptor yX0_operand.desc).map (fun d => d.parameters.length) = some 2 := by decide +kernel
theorem zwX0_66 : ∀ w ∈ ([.methodLink RX0 66 yX0_operand, .static yX0_operand, .initialized yX0_operand.cls, .code yX0_operand cX0_operand 2 (some .int)] : List Cond), w ∈ wsL_law := List.forall_mem_cons.mpr ⟨List.mem_of_getElem? (i := 352) (by decide +kernel), List.forall_mem_cons.mpr ⟨List.mem_of_getElem? (i := 353) (by decide +kernel), List.forall_mem_cons.mpr ⟨List.mem_of_getElem? (i := 29) (by decide +kernel), List.forall_mem_cons.mpr ⟨List.mem_of_getElem? (i := 354) (by decide +kernel), fun _ h => absurd h List.not_mem_nil⟩⟩⟩⟩
theorem zdX0_fillRow : yX0_fillRow.cls ≠ "java/lang/invoke/MethodHandle" ∧ yX0_fillRow.cls ≠ "java/lang/invoke/VarHandle" ∧ (parseMethodDescriptor yX0_fillRow.desc).map (fun d => d.parameters.length) = some 4 := by decide +kernel
theorem zwX0_72 : ∀ w ∈ ([.methodLink RX0 72 yX0_fillRow, .instanceMethod yX0_fillRow, .selects yX0_fillRow.cls yX0_fillRow yX0_fillRow, .initialized yX0_fillRow.cls, .code yX0_fillRow cX0_fillRow 8 none] : List Cond), w ∈ wsL_law := List.forall_mem_cons.mpr ⟨List.mem_of_getElem? (i := 355) (by decide +kernel), List.forall_mem_cons.mpr ⟨List.mem_of_getElem? (i := 356) (by decide +kernel), List.forall_mem_cons.mpr ⟨List.mem_of_getElem? (i := 357) (by decide +kernel), List.forall_mem_cons.mpr ⟨List.mem_of_getElem? (i := 29) (by decide +kernel), List.forall_mem_cons.mpr ⟨List.mem_of_getElem? (i := 358) (by decide +kernel), fun _ h => absurd h List.not_mem_nil⟩⟩⟩⟩⟩
theorem zdX0_fillEither : yX0_fillEither.cls ≠ "java/lang/invoke/MethodHandle" ∧ yX0_fillEither.cls ≠ "java/lang/invoke/VarHandle" ∧ (parseMethodDescriptor yX0_fillEither.desc).map (fun d => d.parameters.length) = some 4 := by decide +kernel
theorem zwX0_76 : ∀ w ∈ ([.methodLink RX0 76 yX0_fillEither, .instanceMethod yX0_fillEither, .selects yX0_fillEither.cls yX0_fillEither yX0_fillEither, .initialized yX0_fillEither.cls, .code yX0_fillEither cX0_fillEither 6 none] : List Cond), w ∈ wsL_law := List.forall_mem_cons.mpr ⟨List.mem_of_getElem? (i := 360) (by decide +kernel), List.forall_mem_cons.mpr ⟨List.mem_of_getElem? (i := 361) (by decide +kernel), List.forall_mem_cons.mpr ⟨List.mem_of_getElem? (i := 362) (by decide +kernel), List.forall_mem_cons.mpr ⟨List.mem_of_getElem? (i := 29) (by decide +kernel), List.forall_mem_cons.mpr ⟨List.mem_of_getElem? (i := 363) (by decide +kernel), fun _ h => absurd h List.not_mem_nil⟩⟩⟩⟩⟩
theorem zdX0_fillMaybe : yX0_fillMaybe.cls ≠ "java/lang/invoke/MethodHandle" ∧ yX0_fillMaybe.cls ≠ "java/lang/invoke/VarHandle" ∧ (parseMethodDescriptor yX0_fillMaybe.desc).map (fun d => d.parameters.length) = some 3 := by decide +kernel
theorem zwX0_79 : ∀ w ∈ ([.methodLink RX0 79 yX0_fillMaybe, .instanceMethod yX0_fillMaybe, .selects yX0_fillMaybe.cls yX0_fillMaybe yX0_fillMaybe, .initialized yX0_fillMaybe.cls, .code yX0_fillMaybe cX0_fillMaybe 5 none] : List Cond), w ∈ wsL_law := List.forall_mem_cons.mpr ⟨List.mem_of_getElem? (i := 364) (by decide +kernel), List.forall_mem_cons.mpr ⟨List.mem_of_getElem? (i := 365) (by decide +kernel), List.forall_mem_cons.mpr ⟨List.mem_of_getElem? (i := 366) (by decide +kernel), List.forall_mem_cons.mpr ⟨List.mem_of_getElem? (i := 29) (by decide +kernel), List.forall_mem_cons.mpr ⟨List.mem_of_getElem? (i := 367) (by decide +kernel), fun _ h => absurd h List.not_mem_nil⟩⟩⟩⟩⟩
theorem zdX0_fillLimit : yX0_fillLimit.cls ≠ "java/lang/invoke/MethodHandle" ∧ yX0_fillLimit.cls ≠ "java/lang/invoke/VarHandle" ∧ (parseMethodDescriptor yX0_fillLimit.desc).map (fun d => d.parameters.length) = some 4 := by decide +kernel
theorem zwX0_83 : ∀ w ∈ ([.methodLink RX0 83 yX0_fillLimit, .instanceMethod yX0_fillLimit, .selects yX0_fillLimit.cls yX0_fillLimit yX0_fillLimit, .initialized yX0_fillLimit.cls, .code yX0_fillLimit cX0_fillLimit 7 none] : List Cond), w ∈ wsL_law := List.forall_mem_cons.mpr ⟨List.mem_of_getElem? (i := 368) (by decide +kernel), List.forall_mem_cons.mpr ⟨List.mem_of_getElem? (i := 369) (by decide +kernel), List.forall_mem_cons.mpr ⟨List.mem_of_getElem? (i := 370) (by decide +kernel), List.forall_mem_cons.mpr ⟨List.mem_of_getElem? (i := 29) (by decide +kernel), List.forall_mem_cons.mpr ⟨List.mem_of_getElem? (i := 371) (by decide +kernel), fun _ h => absurd h List.not_mem_nil⟩⟩⟩⟩⟩
theorem zdX0_fillChains : yX0_fillChains.cls ≠ "java/lang/invoke/MethodHandle" ∧ yX0_fillChains.cls ≠ "java/lang/invoke/VarHandle" ∧ (parseMethodDescriptor yX0_fillChains.desc).map (fun d => d.parameters.length) = some 2 := by decide +kernel
theorem zwX0_87 : ∀ w ∈ ([.methodLink RX0 87 yX0_fillChains, .instanceMethod yX0_fillChains, .selects yX0_fillChains.cls yX0_fillChains yX0_fillChains, .initialized yX0_fillChains.cls, .code yX0_fillChains cX0_fillChains 6 none] : List Cond), w ∈ wsL_law := List.forall_mem_cons.mpr ⟨List.mem_of_getElem? (i := 372) (by decide +kernel), List.forall_mem_cons.mpr ⟨List.mem_of_getElem? (i := 373) (by decide +kernel), List.forall_mem_cons.mpr ⟨List.mem_of_getElem? (i := 374) (by decide +kernel), List.forall_mem_cons.mpr ⟨List.mem_of_getElem? (i := 29) (by decide +kernel), List.forall_mem_cons.mpr ⟨List.mem_of_getElem? (i := 375) (by decide +kernel), fun _ h => absurd h List.not_mem_nil⟩⟩⟩⟩⟩
theorem zdX0_fillRepeated : yX0_fillRepeated.cls ≠ "java/lang/invoke/MethodHandle" ∧ yX0_fillRepeated.cls ≠ "java/lang/invoke/VarHandle" ∧ (parseMethodDescriptor yX0_fillRepeated.desc).map (fun d => d.parameters.length) = some 3 := by decide +kernel
theorem zwX0_91 : ∀ w ∈ ([.methodLink RX0 91 yX0_fillRepeated, .instanceMethod yX0_fillRepeated, .selects yX0_fillRepeated.cls yX0_fillRepeated yX0_fillRepeated, .initialized yX0_fillRepeated.cls, .code yX0_fillRepeated cX0_fillRepeated 6 none] : List Cond), w ∈ wsL_law := List.forall_mem_cons.mpr ⟨List.mem_of_getElem? (i := 376) (by decide +kernel), List.forall_mem_cons.mpr ⟨List.mem_of_getElem? (i := 377) (by decide +kernel), List.forall_mem_cons.mpr ⟨List.mem_of_getElem? (i := 378) (by decide +kernel), List.forall_mem_cons.mpr ⟨List.mem_of_getElem? (i := 29) (by decide +kernel), List.forall_mem_cons.mpr ⟨List.mem_of_getElem? (i := 379) (by decide +kernel), fun _ h => absurd h List.not_mem_nil⟩⟩⟩⟩⟩
theorem zdX3_letterAt : yX3_letterAt.cls ≠ "java/lang/invoke/MethodHandle" ∧ yX3_letterAt.cls ≠ "java/lang/invoke/VarHandle" ∧ (parseMethodDescriptor yX3_letterAt.desc).map (fun d => d.parameters.length) = some 1 := by decide +kernel
theorem znX0_95 : (RX0, 95, yX3_letterAt) ∈ zNM := List.mem_of_getElem? (i := 19) (by decide +kernel)
theorem zwX0_95 : ∀ w ∈ ([.instanceMethod yX3_letterAt, .selects yX3_letterAt.cls yX3_letterAt yX3_letterAt, .initialized yX3_letterAt.cls, .code yX3_letterAt cX3_letterAt 2 (some .char)] : List Cond), w ∈ wsL_law := List.forall_mem_cons.mpr ⟨List.mem_of_getElem? (i := 349) (by decide +kernel), List.forall_mem_cons.mpr ⟨List.mem_of_getElem? (i := 350) (by decide +kernel), List.forall_mem_cons.mpr ⟨List.mem_of_getElem? (i := 25) (by decide +kernel), List.forall_mem_cons.mpr ⟨List.mem_of_getElem? (i := 351) (by decide +kernel), fun _ h => absurd h List.not_mem_nil⟩⟩⟩⟩
theorem zwX0_99 : ∀ w ∈ ([.methodLink RX0 99 Lib.Math.min.name, .static Lib.Math.min.name, .initialized "java/lang/Math", .code Lib.Math.min.name Lib.Math.min.code 2 (some .int)] : List Cond), w ∈ wsL_law := List.forall_mem_cons.mpr ⟨List.mem_of_getElem? (i := 345) (by decide +kernel), List.forall_mem_cons.mpr ⟨List.mem_of_getElem? (i := 208) (by decide +kernel), List.forall_mem_cons.mpr ⟨List.mem_of_getElem? (i := 209) (by decide +kernel), List.forall_mem_cons.mpr ⟨List.mem_of_getElem? (i := 210) (by decide +kernel), fun _ h => absurd h List.not_mem_nil⟩⟩⟩⟩
theorem zdX1_holds : yX1_holds.cls ≠ "java/lang/invoke/MethodHandle" ∧ yX1_holds.cls ≠ "java/lang/invoke/VarHandle" ∧ (parseMethodDescriptor yX1_holds.desc).map (fun d => d.parameters.length) = some 1 := by decide +kernel
theorem zwX1_32 : ∀ w ∈ ([.methodLink RX1 32 yX1_holds, .instanceMethod yX1_holds, .selects yX1_holds.cls yX1_holds yX1_holds, .initialized yX1_holds.cls, .code yX1_holds cX1_holds 3 (some .boolean)] : List Cond), w ∈ wsL_law := List.forall_mem_cons.mpr ⟨List.mem_of_getElem? (i := 463) (by decide +kernel), List.forall_mem_cons.mpr ⟨List.mem_of_getElem? (i := 464) (by decide +kernel), List.forall_mem_cons.mpr ⟨List.mem_of_getElem? (i := 465) (by decide +kernel), List.forall_mem_cons.mpr ⟨List.mem_of_getElem? (i := 33) (by decide +kernel), List.forall_mem_cons.mpr ⟨List.mem_of_getElem? (i := 466) (by decide +kernel), fun _ h => absurd h List.not_mem_nil⟩⟩⟩⟩⟩
theorem zdX3_copyFrom : yX3_copyFrom.cls ≠ "java/lang/invoke/MethodHandle" ∧ yX3_copyFrom.cls ≠ "java/lang/invoke/VarHandle" ∧ (parseMethodDescriptor yX3_copyFrom.desc).map (fun d => d.parameters.length) = some 1 := by decide +kernel
theorem znX1_36 : (RX1, 36, yX3_copyFrom) ∈ zNM := List.mem_of_getElem? (i := 23) (by decide +kernel)
theorem zwX1_36 : ∀ w ∈ ([.instanceMethod yX3_copyFrom, .selects yX3_copyFrom.cls yX3_copyFrom yX3_copyFrom, .initialized yX3_copyFrom.cls, .code yX3_copyFrom cX3_copyFrom 3 none] : List Cond), w ∈ wsL_law := List.forall_mem_cons.mpr ⟨List.mem_of_getElem? (i := 472) (by decide +kernel), List.forall_mem_cons.mpr ⟨List.mem_of_getElem? (i := 473) (by decide +kernel), List.forall_mem_cons.mpr ⟨List.mem_of_getElem? (i := 25) (by decide +kernel), List.forall_mem_cons.mpr ⟨List.mem_of_getElem? (i := 474) (by decide +kernel), fun _ h => absurd h List.not_mem_nil⟩⟩⟩⟩
theorem zdX3_compareWith : yX3_compareWith.cls ≠ "java/lang/invoke/MethodHandle" ∧ yX3_compareWith.cls ≠ "java/lang/invoke/VarHandle" ∧ (parseMethodDescriptor yX3_compareWith.desc).map (fun d => d.parameters.length) = some 1 := by decide +kernel
theorem znX1_40 : (RX1, 40, yX3_compareWith) ∈ zNM := List.mem_of_getElem? (i := 22) (by decide +kernel)
theorem zwX1_40 : ∀ w ∈ ([.instanceMethod yX3_compareWith, .selects yX3_compareWith.cls yX3_compareWith yX3_compareWith, .initialized yX3_compareWith.cls, .code yX3_compareWith cX3_compareWith 5 (some .int)] : List Cond), w ∈ wsL_law := List.forall_mem_cons.mpr ⟨List.mem_of_getElem? (i := 467) (by decide +kernel), List.forall_mem_cons.mpr ⟨List.mem_of_getElem? (i := 468) (by decide +kernel), List.forall_mem_cons.mpr ⟨List.mem_of_getElem? (i := 25) (by decide +kernel), List.forall_mem_cons.mpr ⟨List.mem_of_getElem? (i := 469) (by decide +kernel), fun _ h => absurd h List.not_mem_nil⟩⟩⟩⟩
theorem zdX1_leastSteps : yX1_leastSteps.cls ≠ "java/lang/invoke/MethodHandle" ∧ yX1_leastSteps.cls ≠ "java/lang/invoke/VarHandle" ∧ (parseMethodDescriptor yX1_leastSteps.desc).map (fun d => d.parameters.length) = some 5 := by decide +kernel
theorem zwX1_44 : ∀ w ∈ ([.methodLink RX1 44 yX1_leastSteps, .instanceMethod yX1_leastSteps, .selects yX1_leastSteps.cls yX1_leastSteps yX1_leastSteps, .initialized yX1_leastSteps.cls, .code yX1_leastSteps cX1_leastSteps 8 (some .int)] : List Cond), w ∈ wsL_law := List.forall_mem_cons.mpr ⟨List.mem_of_getElem? (i := 505) (by decide +kernel), List.forall_mem_cons.mpr ⟨List.mem_of_getElem? (i := 506) (by decide +kernel), List.forall_mem_cons.mpr ⟨List.mem_of_getElem? (i := 507) (by decide +kernel), List.forall_mem_cons.mpr ⟨List.mem_of_getElem? (i := 33) (by decide +kernel), List.forall_mem_cons.mpr ⟨List.mem_of_getElem? (i := 508) (by decide +kernel), fun _ h => absurd h List.not_mem_nil⟩⟩⟩⟩⟩
theorem zwX1_48 : ∀ w ∈ ([.methodLink RX1 48 Lib.Math.max.name, .static Lib.Math.max.name, .initialized "java/lang/Math", .code Lib.Math.max.name Lib.Math.max.code 2 (some .int)] : List Cond), w ∈ wsL_law := List.forall_mem_cons.mpr ⟨List.mem_of_getElem? (i := 509) (by decide +kernel), List.forall_mem_cons.mpr ⟨List.mem_of_getElem? (i := 510) (by decide +kernel), List.forall_mem_cons.mpr ⟨List.mem_of_getElem? (i := 209) (by decide +kernel), List.forall_mem_cons.mpr ⟨List.mem_of_getElem? (i := 511) (by decide +kernel), fun _ h => absurd h List.not_mem_nil⟩⟩⟩⟩
theorem zwX1_54 : ∀ w ∈ ([.methodLink RX1 54 Lib.Math.min.name, .static Lib.Math.min.name, .initialized "java/lang/Math", .code Lib.Math.min.name Lib.Math.min.code 2 (some .int)] : List Cond), w ∈ wsL_law := List.forall_mem_cons.mpr ⟨List.mem_of_getElem? (i := 512) (by decide +kernel), List.forall_mem_cons.mpr ⟨List.mem_of_getElem? (i := 208) (by decide +kernel), List.forall_mem_cons.mpr ⟨List.mem_of_getElem? (i := 209) (by decide +kernel), List.forall_mem_cons.mpr ⟨List.mem_of_getElem? (i := 210) (by decide +kernel), fun _ h => absurd h List.not_mem_nil⟩⟩⟩⟩
theorem znX1_57 : (RX1, 57, yX3_letterAt) ∈ zNM := List.mem_of_getElem? (i := 25) (by decide +kernel)
theorem zwX1_57 : ∀ w ∈ ([.instanceMethod yX3_letterAt, .selects yX3_letterAt.cls yX3_letterAt yX3_letterAt, .initialized yX3_letterAt.cls, .code yX3_letterAt cX3_letterAt 2 (some .char)] : List Cond), w ∈ wsL_law := List.forall_mem_cons.mpr ⟨List.mem_of_getElem? (i := 349) (by decide +kernel), List.forall_mem_cons.mpr ⟨List.mem_of_getElem? (i := 350) (by decide +kernel), List.forall_mem_cons.mpr ⟨List.mem_of_getElem? (i := 25) (by decide +kernel), List.forall_mem_cons.mpr ⟨List.mem_of_getElem? (i := 351) (by decide +kernel), fun _ h => absurd h List.not_mem_nil⟩⟩⟩⟩
theorem zdX1_areExchanged : yX1_areExchanged.cls ≠ "java/lang/invoke/MethodHandle" ∧ yX1_areExchanged.cls ≠ "java/lang/invoke/VarHandle" ∧ (parseMethodDescriptor yX1_areExchanged.desc).map (fun d => d.parameters.length) = some 4 := by decide +kernel
theorem zwX1_61 : ∀ w ∈ ([.methodLink RX1 61 yX1_areExchanged, .static yX1_areExchanged, .initialized yX1_areExchanged.cls, .code yX1_areExchanged cX1_areExchanged 4 (some .boolean)] : List Cond), w ∈ wsL_law := List.forall_mem_cons.mpr ⟨List.mem_of_getElem? (i := 513) (by decide +kernel), List.forall_mem_cons.mpr ⟨List.mem_of_getElem? (i := 514) (by decide +kernel), List.forall_mem_cons.mpr ⟨List.mem_of_getElem? (i := 33) (by decide +kernel), List.forall_mem_cons.mpr ⟨List.mem_of_getElem? (i := 515) (by decide +kernel), fun _ h => absurd h List.not_mem_nil⟩⟩⟩⟩
theorem zdX1_distanceOf : yX1_distanceOf.cls ≠ "java/lang/invoke/MethodHandle" ∧ yX1_distanceOf.cls ≠ "java/lang/invoke/VarHandle" ∧ (parseMethodDescriptor yX1_distanceOf.desc).map (fun d => d.parameters.length) = some 3 := by decide +kernel
theorem zwX1_65 : ∀ w ∈ ([.methodLink RX1 65 yX1_distanceOf, .instanceMethod yX1_distanceOf, .selects yX1_distanceOf.cls yX1_distanceOf yX1_distanceOf, .initialized yX1_distanceOf.cls, .code yX1_distanceOf cX1_distanceOf 7 (some .int)] : List Cond), w ∈ wsL_law := List.forall_mem_cons.mpr ⟨List.mem_of_getElem? (i := 524) (by decide +kernel), List.forall_mem_cons.mpr ⟨List.mem_of_getElem? (i := 502) (by decide +kernel), List.forall_mem_cons.mpr ⟨List.mem_of_getElem? (i := 503) (by decide +kernel), List.forall_mem_cons.mpr ⟨List.mem_of_getElem? (i := 33) (by decide +kernel), List.forall_mem_cons.mpr ⟨List.mem_of_getElem? (i := 504) (by decide +kernel), fun _ h => absurd h List.not_mem_nil⟩⟩⟩⟩⟩
theorem zdX1_rankOf : yX1_rankOf.cls ≠ "java/lang/invoke/MethodHandle" ∧ yX1_rankOf.cls ≠ "java/lang/invoke/VarHandle" ∧ (parseMethodDescriptor yX1_rankOf.desc).map (fun d => d.parameters.length) = some 1 := by decide +kernel
theorem zwX1_69 : ∀ w ∈ ([.methodLink RX1 69 yX1_rankOf, .instanceMethod yX1_rankOf, .selects yX1_rankOf.cls yX1_rankOf yX1_rankOf, .initialized yX1_rankOf.cls, .code yX1_rankOf cX1_rankOf 4 (some .int)] : List Cond), w ∈ wsL_law := List.forall_mem_cons.mpr ⟨List.mem_of_getElem? (i := 536) (by decide +kernel), List.forall_mem_cons.mpr ⟨List.mem_of_getElem? (i := 537) (by decide +kernel), List.forall_mem_cons.mpr ⟨List.mem_of_getElem? (i := 538) (by decide +kernel), List.forall_mem_cons.mpr ⟨List.mem_of_getElem? (i := 33) (by decide +kernel), List.forall_mem_cons.mpr ⟨List.mem_of_getElem? (i := 539) (by decide +kernel), fun _ h => absurd h List.not_mem_nil⟩⟩⟩⟩⟩
theorem zdX1_comesBefore : yX1_comesBefore.cls ≠ "java/lang/invoke/MethodHandle" ∧ yX1_comesBefore.cls ≠ "java/lang/invoke/VarHandle" ∧ (parseMethodDescriptor yX1_comesBefore.desc).map (fun d => d.parameters.length) = some 2 := by decide +kernel
theorem zwX1_73 : ∀ w ∈ ([.methodLink RX1 73 yX1_comesBefore, .instanceMethod yX1_comesBefore, .selects yX1_comesBefore.cls yX1_comesBefore yX1_comesBefore, .initialized yX1_comesBefore.cls, .code yX1_comesBefore cX1_comesBefore 3 (some .boolean)] : List Cond), w ∈ wsL_law := List.forall_mem_cons.mpr ⟨List.mem_of_getElem? (i := 540) (by decide +kernel), List.forall_mem_cons.mpr ⟨List.mem_of_getElem? (i := 541) (by decide +kernel), List.forall_mem_cons.mpr ⟨List.mem_of_getElem? (i := 542) (by decide +kernel), List.forall_mem_cons.mpr ⟨List.mem_of_getElem? (i := 33) (by decide +kernel), List.forall_mem_cons.mpr ⟨List.mem_of_getElem? (i := 543) (by decide +kernel), fun _ h => absurd h List.not_mem_nil⟩⟩⟩⟩⟩
theorem zdX4_clear : yX4_clear.cls ≠ "java/lang/invoke/MethodHandle" ∧ yX4_clear.cls ≠ "java/lang/invoke/VarHandle" ∧ (parseMethodDescriptor yX4_clear.desc).map (fun d => d.parameters.length) = some 0 := by decide +kernel
theorem znX2_45 : (RX2, 45, yX4_clear) ∈ zNM := List.mem_of_getElem? (i := 8) (by decide +kernel)
theorem zwX2_45 : ∀ w ∈ ([.instanceMethod yX4_clear, .selects yX4_clear.cls yX4_clear yX4_clear, .initialized yX4_clear.cls, .code yX4_clear cX4_clear 1 none] : List Cond), w ∈ wsL_law := List.forall_mem_cons.mpr ⟨List.mem_of_getElem? (i := 123) (by decide +kernel), List.forall_mem_cons.mpr ⟨List.mem_of_getElem? (i := 124) (by decide +kernel), List.forall_mem_cons.mpr ⟨List.mem_of_getElem? (i := 21) (by decide +kernel), List.forall_mem_cons.mpr ⟨List.mem_of_getElem? (i := 125) (by decide +kernel), fun _ h => absurd h List.not_mem_nil⟩⟩⟩⟩
theorem zdX2_beginBracket : yX2_beginBracket.cls ≠ "java/lang/invoke/MethodHandle" ∧ yX2_beginBracket.cls ≠ "java/lang/invoke/VarHandle" ∧ (parseMethodDescriptor yX2_beginBracket.desc).map (fun d => d.parameters.length) = some 0 := by decide +kernel
theorem zwX2_48 : ∀ w ∈ ([.methodLink RX2 48 yX2_beginBracket, .instanceMethod yX2_beginBracket, .selects yX2_beginBracket.cls yX2_beginBracket yX2_beginBracket, .initialized yX2_beginBracket.cls, .code yX2_beginBracket cX2_beginBracket 1 none] : List Cond), w ∈ wsL_law := List.forall_mem_cons.mpr ⟨List.mem_of_getElem? (i := 126) (by decide +kernel), List.forall_mem_cons.mpr ⟨List.mem_of_getElem? (i := 127) (by decide +kernel), List.forall_mem_cons.mpr ⟨List.mem_of_getElem? (i := 128) (by decide +kernel), List.forall_mem_cons.mpr ⟨List.mem_of_getElem? (i := 17) (by decide +kernel), List.forall_mem_cons.mpr ⟨List.mem_of_getElem? (i := 129) (by decide +kernel), fun _ h => absurd h List.not_mem_nil⟩⟩⟩⟩⟩
theorem zdX2_take : yX2_take.cls ≠ "java/lang/invoke/MethodHandle" ∧ yX2_take.cls ≠ "java/lang/invoke/VarHandle" ∧ (parseMethodDescriptor yX2_take.desc).map (fun d => d.parameters.length) = some 1 := by decide +kernel
theorem zwX2_51 : ∀ w ∈ ([.methodLink RX2 51 yX2_take, .instanceMethod yX2_take, .selects yX2_take.cls yX2_take yX2_take, .initialized yX2_take.cls, .code yX2_take cX2_take 2 (some .boolean)] : List Cond), w ∈ wsL_law := List.forall_mem_cons.mpr ⟨List.mem_of_getElem? (i := 130) (by decide +kernel), List.forall_mem_cons.mpr ⟨List.mem_of_getElem? (i := 131) (by decide +kernel), List.forall_mem_cons.mpr ⟨List.mem_of_getElem? (i := 132) (by decide +kernel), List.forall_mem_cons.mpr ⟨List.mem_of_getElem? (i := 17) (by decide +kernel), List.forall_mem_cons.mpr ⟨List.mem_of_getElem? (i := 133) (by decide +kernel), fun _ h => absurd h List.not_mem_nil⟩⟩⟩⟩⟩
theorem zdX2_endItem : yX2_endItem.cls ≠ "java/lang/invoke/MethodHandle" ∧ yX2_endItem.cls ≠ "java/lang/invoke/VarHandle" ∧ (parseMethodDescriptor yX2_endItem.desc).map (fun d => d.parameters.length) = some 0 := by decide +kernel
theorem zwX2_55 : ∀ w ∈ ([.methodLink RX2 55 yX2_endItem, .instanceMethod yX2_endItem, .selects yX2_endItem.cls yX2_endItem yX2_endItem, .initialized yX2_endItem.cls, .code yX2_endItem cX2_endItem 3 none] : List Cond), w ∈ wsL_law := List.forall_mem_cons.mpr ⟨List.mem_of_getElem? (i := 180) (by decide +kernel), List.forall_mem_cons.mpr ⟨List.mem_of_getElem? (i := 181) (by decide +kernel), List.forall_mem_cons.mpr ⟨List.mem_of_getElem? (i := 182) (by decide +kernel), List.forall_mem_cons.mpr ⟨List.mem_of_getElem? (i := 17) (by decide +kernel), List.forall_mem_cons.mpr ⟨List.mem_of_getElem? (i := 183) (by decide +kernel), fun _ h => absurd h List.not_mem_nil⟩⟩⟩⟩⟩
theorem zdX2_endRow : yX2_endRow.cls ≠ "java/lang/invoke/MethodHandle" ∧ yX2_endRow.cls ≠ "java/lang/invoke/VarHandle" ∧ (parseMethodDescriptor yX2_endRow.desc).map (fun d => d.parameters.length) = some 0 := by decide +kernel
theorem zwX2_58 : ∀ w ∈ ([.methodLink RX2 58 yX2_endRow, .instanceMethod yX2_endRow, .selects yX2_endRow.cls yX2_endRow yX2_endRow, .initialized yX2_endRow.cls, .code yX2_endRow cX2_endRow 3 none] : List Cond), w ∈ wsL_law := List.forall_mem_cons.mpr ⟨List.mem_of_getElem? (i := 184) (by decide +kernel), List.forall_mem_cons.mpr ⟨List.mem_of_getElem? (i := 185) (by decide +kernel), List.forall_mem_cons.mpr ⟨List.mem_of_getElem? (i := 186) (by decide +kernel), List.forall_mem_cons.mpr ⟨List.mem_of_getElem? (i := 17) (by decide +kernel), List.forall_mem_cons.mpr ⟨List.mem_of_getElem? (i := 187) (by decide +kernel), fun _ h => absurd h List.not_mem_nil⟩⟩⟩⟩⟩
theorem zdX2_takeAtom : yX2_takeAtom.cls ≠ "java/lang/invoke/MethodHandle" ∧ yX2_takeAtom.cls ≠ "java/lang/invoke/VarHandle" ∧ (parseMethodDescriptor yX2_takeAtom.desc).map (fun d => d.parameters.length) = some 1 := by decide +kernel
theorem zwX2_61 : ∀ w ∈ ([.methodLink RX2 61 yX2_takeAtom, .instanceMethod yX2_takeAtom, .selects yX2_takeAtom.cls yX2_takeAtom yX2_takeAtom, .initialized yX2_takeAtom.cls, .code yX2_takeAtom cX2_takeAtom 2 (some .boolean)] : List Cond), w ∈ wsL_law := List.forall_mem_cons.mpr ⟨List.mem_of_getElem? (i := 134) (by decide +kernel), List.forall_mem_cons.mpr ⟨List.mem_of_getElem? (i := 135) (by decide +kernel), List.forall_mem_cons.mpr ⟨List.mem_of_getElem? (i := 136) (by decide +kernel), List.forall_mem_cons.mpr ⟨List.mem_of_getElem? (i := 17) (by decide +kernel), List.forall_mem_cons.mpr ⟨List.mem_of_getElem? (i := 137) (by decide +kernel), fun _ h => absurd h List.not_mem_nil⟩⟩⟩⟩⟩
theorem zdX2_takeFirstDigit : yX2_takeFirstDigit.cls ≠ "java/lang/invoke/MethodHandle" ∧ yX2_takeFirstDigit.cls ≠ "java/lang/invoke/VarHandle" ∧ (parseMethodDescriptor yX2_takeFirstDigit.desc).map (fun d => d.parameters.length) = some 1 := by decide +kernel
theorem zwX2_64 : ∀ w ∈ ([.methodLink RX2 64 yX2_takeFirstDigit, .instanceMethod yX2_takeFirstDigit, .selects yX2_takeFirstDigit.cls yX2_takeFirstDigit yX2_takeFirstDigit, .initialized yX2_takeFirstDigit.cls, .code yX2_takeFirstDigit cX2_takeFirstDigit 2 (some .boolean)] : List Cond), w ∈ wsL_law := List.forall_mem_cons.mpr ⟨List.mem_of_getElem? (i := 155) (by decide +kernel), List.forall_mem_cons.mpr ⟨List.mem_of_getElem? (i := 156) (by decide +kernel), List.forall_mem_cons.mpr ⟨List.mem_of_getElem? (i := 157) (by decide +kernel), List.forall_mem_cons.mpr ⟨List.mem_of_getElem? (i := 17) (by decide +kernel), List.forall_mem_cons.mpr ⟨List.mem_of_getElem? (i := 158) (by decide +kernel), fun _ h => absurd h List.not_mem_nil⟩⟩⟩⟩⟩
theorem zdX2_takeSecondDigit : yX2_takeSecondDigit.cls ≠ "java/lang/invoke/MethodHandle" ∧ yX2_takeSecondDigit.cls ≠ "java/lang/invoke/VarHandle" ∧ (parseMethodDescriptor yX2_takeSecondDigit.desc).map (fun d => d.parameters.length) = some 1 := by decide +kernel
theorem zwX2_67 : ∀ w ∈ ([.methodLink RX2 67 yX2_takeSecondDigit, .instanceMethod yX2_takeSecondDigit, .selects yX2_takeSecondDigit.cls yX2_takeSecondDigit yX2_takeSecondDigit, .initialized yX2_takeSecondDigit.cls, .code yX2_takeSecondDigit cX2_takeSecondDigit 2 (some .boolean)] : List Cond), w ∈ wsL_law := List.forall_mem_cons.mpr ⟨List.mem_of_getElem? (i := 165) (by decide +kernel), List.forall_mem_cons.mpr ⟨List.mem_of_getElem? (i := 166) (by decide +kernel), List.forall_mem_cons.mpr ⟨List.mem_of_getElem? (i := 167) (by decide +kernel), List.forall_mem_cons.mpr ⟨List.mem_of_getElem? (i := 17) (by decide +kernel), List.forall_mem_cons.mpr ⟨List.mem_of_getElem? (i := 168) (by decide +kernel), fun _ h => absurd h List.not_mem_nil⟩⟩⟩⟩⟩
theorem zdX2_takeAfterItem : yX2_takeAfterItem.cls ≠ "java/lang/invoke/MethodHandle" ∧ yX2_takeAfterItem.cls ≠ "java/lang/invoke/VarHandle" ∧ (parseMethodDescriptor yX2_takeAfterItem.desc).map (fun d => d.parameters.length) = some 1 := by decide +kernel
theorem zwX2_70 : ∀ w ∈ ([.methodLink RX2 70 yX2_takeAfterItem, .instanceMethod yX2_takeAfterItem, .selects yX2_takeAfterItem.cls yX2_takeAfterItem yX2_takeAfterItem, .initialized yX2_takeAfterItem.cls, .code yX2_takeAfterItem cX2_takeAfterItem 2 (some .boolean)] : List Cond), w ∈ wsL_law := List.forall_mem_cons.mpr ⟨List.mem_of_getElem? (i := 172) (by decide +kernel), List.forall_mem_cons.mpr ⟨List.mem_of_getElem? (i := 173) (by decide +kernel), List.forall_mem_cons.mpr ⟨List.mem_of_getElem? (i := 174) (by decide +kernel), List.forall_mem_cons.mpr ⟨List.mem_of_getElem? (i := 17) (by decide +kernel), List.forall_mem_cons.mpr ⟨List.mem_of_getElem? (i := 175) (by decide +kernel), fun _ h => absurd h List.not_mem_nil⟩⟩⟩⟩⟩
theorem zdX2_takeOthersSign : yX2_takeOthersSign.cls ≠ "java/lang/invoke/MethodHandle" ∧ yX2_takeOthersSign.cls ≠ "java/lang/invoke/VarHandle" ∧ (parseMethodDescriptor yX2_takeOthersSign.desc).map (fun d => d.parameters.length) = some 1 := by decide +kernel
theorem zwX2_73 : ∀ w ∈ ([.methodLink RX2 73 yX2_takeOthersSign, .instanceMethod yX2_takeOthersSign, .selects yX2_takeOthersSign.cls yX2_takeOthersSign yX2_takeOthersSign, .initialized yX2_takeOthersSign.cls, .code yX2_takeOthersSign cX2_takeOthersSign 2 (some .boolean)] : List Cond), w ∈ wsL_law := List.forall_mem_cons.mpr ⟨List.mem_of_getElem? (i := 192) (by decide +kernel), List.forall_mem_cons.mpr ⟨List.mem_of_getElem? (i := 193) (by decide +kernel), List.forall_mem_cons.mpr ⟨List.mem_of_getElem? (i := 194) (by decide +kernel), List.forall_mem_cons.mpr ⟨List.mem_of_getElem? (i := 17) (by decide +kernel), List.forall_mem_cons.mpr ⟨List.mem_of_getElem? (i := 195) (by decide +kernel), fun _ h => absurd h List.not_mem_nil⟩⟩⟩⟩⟩
theorem zdX2_takeSetLetter : yX2_takeSetLetter.cls ≠ "java/lang/invoke/MethodHandle" ∧ yX2_takeSetLetter.cls ≠ "java/lang/invoke/VarHandle" ∧ (parseMethodDescriptor yX2_takeSetLetter.desc).map (fun d => d.parameters.length) = some 1 := by decide +kernel
theorem zwX2_76 : ∀ w ∈ ([.methodLink RX2 76 yX2_takeSetLetter, .instanceMethod yX2_takeSetLetter, .selects yX2_takeSetLetter.cls yX2_takeSetLetter yX2_takeSetLetter, .initialized yX2_takeSetLetter.cls, .code yX2_takeSetLetter cX2_takeSetLetter 2 (some .boolean)] : List Cond), w ∈ wsL_law := List.forall_mem_cons.mpr ⟨List.mem_of_getElem? (i := 196) (by decide +kernel), List.forall_mem_cons.mpr ⟨List.mem_of_getElem? (i := 197) (by decide +kernel), List.forall_mem_cons.mpr ⟨List.mem_of_getElem? (i := 198) (by decide +kernel), List.forall_mem_cons.mpr ⟨List.mem_of_getElem? (i := 17) (by decide +kernel), List.forall_mem_cons.mpr ⟨List.mem_of_getElem? (i := 199) (by decide +kernel), fun _ h => absurd h List.not_mem_nil⟩⟩⟩⟩⟩
theorem zdX2_takeSetEnd : yX2_takeSetEnd.cls ≠ "java/lang/invoke/MethodHandle" ∧ yX2_takeSetEnd.cls ≠ "java/lang/invoke/VarHandle" ∧ (parseMethodDescriptor yX2_takeSetEnd.desc).map (fun d => d.parameters.length) = some 1 := by decide +kernel
theorem zwX2_79 : ∀ w ∈ ([.methodLink RX2 79 yX2_takeSetEnd, .instanceMethod yX2_takeSetEnd, .selects yX2_takeSetEnd.cls yX2_takeSetEnd yX2_takeSetEnd, .initialized yX2_takeSetEnd.cls, .code yX2_takeSetEnd cX2_takeSetEnd 2 (some .boolean)] : List Cond), w ∈ wsL_law := List.forall_mem_cons.mpr ⟨List.mem_of_getElem? (i := 200) (by decide +kernel), List.forall_mem_cons.mpr ⟨List.mem_of_getElem? (i := 201) (by decide +kernel), List.forall_mem_cons.mpr ⟨List.mem_of_getElem? (i := 202) (by decide +kernel), List.forall_mem_cons.mpr ⟨List.mem_of_getElem? (i := 17) (by decide +kernel), List.forall_mem_cons.mpr ⟨List.mem_of_getElem? (i := 203) (by decide +kernel), fun _ h => absurd h List.not_mem_nil⟩⟩⟩⟩⟩
theorem zdX5_isLetter : yX5_isLetter.cls ≠ "java/lang/invoke/MethodHandle" ∧ yX5_isLetter.cls ≠ "java/lang/invoke/VarHandle" ∧ (parseMethodDescriptor yX5_isLetter.desc).map (fun d => d.parameters.length) = some 1 := by decide +kernel
theorem znX2_82 : (RX2, 82, yX5_isLetter) ∈ zNM := List.mem_of_getElem? (i := 9) (by decide +kernel)
theorem zwX2_82 : ∀ w ∈ ([.static yX5_isLetter, .initialized yX5_isLetter.cls, .code yX5_isLetter cX5_isLetter 1 (some .boolean)] : List Cond), w ∈ wsL_law := List.forall_mem_cons.mpr ⟨List.mem_of_getElem? (i := 139) (by decide +kernel), List.forall_mem_cons.mpr ⟨List.mem_of_getElem? (i := 2) (by decide +kernel), List.forall_mem_cons.mpr ⟨List.mem_of_getElem? (i := 140) (by decide +kernel), fun _ h => absurd h List.not_mem_nil⟩⟩⟩
theorem zdX2_bitOf : yX2_bitOf.cls ≠ "java/lang/invoke/MethodHandle" ∧ yX2_bitOf.cls ≠ "java/lang/invoke/VarHandle" ∧ (parseMethodDescriptor yX2_bitOf.desc).map (fun d => d.parameters.length) = some 1 := by decide +kernel
theorem zwX2_85 : ∀ w ∈ ([.methodLink RX2 85 yX2_bitOf, .static yX2_bitOf, .initialized yX2_bitOf.cls, .code yX2_bitOf cX2_bitOf 1 (some .int)] : List Cond), w ∈ wsL_law := List.forall_mem_cons.mpr ⟨List.mem_of_getElem? (i := 141) (by decide +kernel), List.forall_mem_cons.mpr ⟨List.mem_of_getElem? (i := 142) (by decide +kernel), List.forall_mem_cons.mpr ⟨List.mem_of_getElem? (i := 17) (by decide +kernel), List.forall_mem_cons.mpr ⟨List.mem_of_getElem? (i := 143) (by decide +kernel), fun _ h => absurd h List.not_mem_nil⟩⟩⟩⟩
theorem zdX2_endAtom : yX2_endAtom.cls ≠ "java/lang/invoke/MethodHandle" ∧ yX2_endAtom.cls ≠ "java/lang/invoke/VarHandle" ∧ (parseMethodDescriptor yX2_endAtom.desc).map (fun d => d.parameters.length) = some 1 := by decide +kernel
theorem zwX2_89 : ∀ w ∈ ([.methodLink RX2 89 yX2_endAtom, .instanceMethod yX2_endAtom, .selects yX2_endAtom.cls yX2_endAtom yX2_endAtom, .initialized yX2_endAtom.cls, .code yX2_endAtom cX2_endAtom 2 none] : List Cond), w ∈ wsL_law := List.forall_mem_cons.mpr ⟨List.mem_of_getElem? (i := 144) (by decide +kernel), List.forall_mem_cons.mpr ⟨List.mem_of_getElem? (i := 145) (by decide +kernel), List.forall_mem_cons.mpr ⟨List.mem_of_getElem? (i := 146) (by decide +kernel), List.forall_mem_cons.mpr ⟨List.mem_of_getElem? (i := 17) (by decide +kernel), List.forall_mem_cons.mpr ⟨List.mem_of_getElem? (i := 147) (by decide +kernel), fun _ h => absurd h List.not_mem_nil⟩⟩⟩⟩⟩
theorem zdX2_takeOpening : yX2_takeOpening.cls ≠ "java/lang/invoke/MethodHandle" ∧ yX2_takeOpening.cls ≠ "java/lang/invoke/VarHandle" ∧ (parseMethodDescriptor yX2_takeOpening.desc).map (fun d => d.parameters.length) = some 0 := by decide +kernel
theorem zwX2_94 : ∀ w ∈ ([.methodLink RX2 94 yX2_takeOpening, .instanceMethod yX2_takeOpening, .selects yX2_takeOpening.cls yX2_takeOpening yX2_takeOpening, .initialized yX2_takeOpening.cls, .code yX2_takeOpening cX2_takeOpening 1 (some .boolean)] : List Cond), w ∈ wsL_law := List.forall_mem_cons.mpr ⟨List.mem_of_getElem? (i := 151) (by decide +kernel), List.forall_mem_cons.mpr ⟨List.mem_of_getElem? (i := 152) (by decide +kernel), List.forall_mem_cons.mpr ⟨List.mem_of_getElem? (i := 153) (by decide +kernel), List.forall_mem_cons.mpr ⟨List.mem_of_getElem? (i := 17) (by decide +kernel), List.forall_mem_cons.mpr ⟨List.mem_of_getElem? (i := 154) (by decide +kernel), fun _ h => absurd h List.not_mem_nil⟩⟩⟩⟩⟩
theorem zdX5_isDigit : yX5_isDigit.cls ≠ "java/lang/invoke/MethodHandle" ∧ yX5_isDigit.cls ≠ "java/lang/invoke/VarHandle" ∧ (parseMethodDescriptor yX5_isDigit.desc).map (fun d => d.parameters.length) = some 1 := by decide +kernel
theorem znX2_98 : (RX2, 98, yX5_isDigit) ∈ zNM := List.mem_of_getElem? (i := 11) (by decide +kernel)
theorem zwX2_98 : ∀ w ∈ ([.static yX5_isDigit, .initialized yX5_isDigit.cls, .code yX5_isDigit cX5_isDigit 1 (some .boolean)] : List Cond), w ∈ wsL_law := List.forall_mem_cons.mpr ⟨List.mem_of_getElem? (i := 159) (by decide +kernel), List.forall_mem_cons.mpr ⟨List.mem_of_getElem? (i := 2) (by decide +kernel), List.forall_mem_cons.mpr ⟨List.mem_of_getElem? (i := 160) (by decide +kernel), fun _ h => absurd h List.not_mem_nil⟩⟩⟩
theorem zdX2_endSuffix : yX2_endSuffix.cls ≠ "java/lang/invoke/MethodHandle" ∧ yX2_endSuffix.cls ≠ "java/lang/invoke/VarHandle" ∧ (parseMethodDescriptor yX2_endSuffix.desc).map (fun d => d.parameters.length) = some 2 := by decide +kernel
theorem zwX2_101 : ∀ w ∈ ([.methodLink RX2 101 yX2_endSuffix, .instanceMethod yX2_endSuffix, .selects yX2_endSuffix.cls yX2_endSuffix yX2_endSuffix, .initialized yX2_endSuffix.cls, .code yX2_endSuffix cX2_endSuffix 3 none] : List Cond), w ∈ wsL_law := List.forall_mem_cons.mpr ⟨List.mem_of_getElem? (i := 161) (by decide +kernel), List.forall_mem_cons.mpr ⟨List.mem_of_getElem? (i := 162) (by decide +kernel), List.forall_mem_cons.mpr ⟨List.mem_of_getElem? (i := 163) (by decide +kernel), List.forall_mem_cons.mpr ⟨List.mem_of_getElem? (i := 17) (by decide +kernel), List.forall_mem_cons.mpr ⟨List.mem_of_getElem? (i := 164) (by decide +kernel), fun _ h => absurd h List.not_mem_nil⟩⟩⟩⟩⟩
theorem zdX4_changeValue : yX4_changeValue.cls ≠ "java/lang/invoke/MethodHandle" ∧ yX4_changeValue.cls ≠ "java/lang/invoke/VarHandle" ∧ (parseMethodDescriptor yX4_changeValue.desc).map (fun d => d.parameters.length) = some 2 := by decide +kernel
theorem znX2_105 : (RX2, 105, yX4_changeValue) ∈ zNM := List.mem_of_getElem? (i := 12) (by decide +kernel)
theorem zwX2_105 : ∀ w ∈ ([.instanceMethod yX4_changeValue, .selects yX4_changeValue.cls yX4_changeValue yX4_changeValue, .initialized yX4_changeValue.cls, .code yX4_changeValue cX4_changeValue 3 none] : List Cond), w ∈ wsL_law := List.forall_mem_cons.mpr ⟨List.mem_of_getElem? (i := 169) (by decide +kernel), List.forall_mem_cons.mpr ⟨List.mem_of_getElem? (i := 170) (by decide +kernel), List.forall_mem_cons.mpr ⟨List.mem_of_getElem? (i := 21) (by decide +kernel), List.forall_mem_cons.mpr ⟨List.mem_of_getElem? (i := 171) (by decide +kernel), fun _ h => absurd h List.not_mem_nil⟩⟩⟩⟩
theorem zdX2_takeSuffix : yX2_takeSuffix.cls ≠ "java/lang/invoke/MethodHandle" ∧ yX2_takeSuffix.cls ≠ "java/lang/invoke/VarHandle" ∧ (parseMethodDescriptor yX2_takeSuffix.desc).map (fun d => d.parameters.length) = some 1 := by decide +kernel
theorem zwX2_108 : ∀ w ∈ ([.methodLink RX2 108 yX2_takeSuffix, .instanceMethod yX2_takeSuffix, .selects yX2_takeSuffix.cls yX2_takeSuffix yX2_takeSuffix, .initialized yX2_takeSuffix.cls, .code yX2_takeSuffix cX2_takeSuffix 2 (some .boolean)] : List Cond), w ∈ wsL_law := List.forall_mem_cons.mpr ⟨List.mem_of_getElem? (i := 176) (by decide +kernel), List.forall_mem_cons.mpr ⟨List.mem_of_getElem? (i := 177) (by decide +kernel), List.forall_mem_cons.mpr ⟨List.mem_of_getElem? (i := 178) (by decide +kernel), List.forall_mem_cons.mpr ⟨List.mem_of_getElem? (i := 17) (by decide +kernel), List.forall_mem_cons.mpr ⟨List.mem_of_getElem? (i := 179) (by decide +kernel), fun _ h => absurd h List.not_mem_nil⟩⟩⟩⟩⟩
theorem zdX2_takeClosing : yX2_takeClosing.cls ≠ "java/lang/invoke/MethodHandle" ∧ yX2_takeClosing.cls ≠ "java/lang/invoke/VarHandle" ∧ (parseMethodDescriptor yX2_takeClosing.desc).map (fun d => d.parameters.length) = some 0 := by decide +kernel
theorem zwX2_111 : ∀ w ∈ ([.methodLink RX2 111 yX2_takeClosing, .instanceMethod yX2_takeClosing, .selects yX2_takeClosing.cls yX2_takeClosing yX2_takeClosing, .initialized yX2_takeClosing.cls, .code yX2_takeClosing cX2_takeClosing 2 (some .boolean)] : List Cond), w ∈ wsL_law := List.forall_mem_cons.mpr ⟨List.mem_of_getElem? (i := 188) (by decide +kernel), List.forall_mem_cons.mpr ⟨List.mem_of_getElem? (i := 189) (by decide +kernel), List.forall_mem_cons.mpr ⟨List.mem_of_getElem? (i := 190) (by decide +kernel), List.forall_mem_cons.mpr ⟨List.mem_of_getElem? (i := 17) (by decide +kernel), List.forall_mem_cons.mpr ⟨List.mem_of_getElem? (i := 191) (by decide +kernel), fun _ h => absurd h List.not_mem_nil⟩⟩⟩⟩⟩
theorem zdX4_put : yX4_put.cls ≠ "java/lang/invoke/MethodHandle" ∧ yX4_put.cls ≠ "java/lang/invoke/VarHandle" ∧ (parseMethodDescriptor yX4_put.desc).map (fun d => d.parameters.length) = some 4 := by decide +kernel
theorem znX2_114 : (RX2, 114, yX4_put) ∈ zNM := List.mem_of_getElem? (i := 10) (by decide +kernel)
theorem zwX2_114 : ∀ w ∈ ([.instanceMethod yX4_put, .selects yX4_put.cls yX4_put yX4_put, .initialized yX4_put.cls, .code yX4_put cX4_put 6 (some .int)] : List Cond), w ∈ wsL_law := List.forall_mem_cons.mpr ⟨List.mem_of_getElem? (i := 148) (by decide +kernel), List.forall_mem_cons.mpr ⟨List.mem_of_getElem? (i := 149) (by decide +kernel), List.forall_mem_cons.mpr ⟨List.mem_of_getElem? (i := 21) (by decide +kernel), List.forall_mem_cons.mpr ⟨List.mem_of_getElem? (i := 150) (by decide +kernel), fun _ h => absurd h List.not_mem_nil⟩⟩⟩⟩
theorem zdX3_clear : yX3_clear.cls ≠ "java/lang/invoke/MethodHandle" ∧ yX3_clear.cls ≠ "java/lang/invoke/VarHandle" ∧ (parseMethodDescriptor yX3_clear.desc).map (fun d => d.parameters.length) = some 0 := by decide +kernel
theorem zwX3_19 : ∀ w ∈ ([.methodLink RX3 19 yX3_clear, .instanceMethod yX3_clear, .selects yX3_clear.cls yX3_clear yX3_clear, .initialized yX3_clear.cls, .code yX3_clear cX3_clear 1 none] : List Cond), w ∈ wsL_law := List.forall_mem_cons.mpr ⟨List.mem_of_getElem? (i := 475) (by decide +kernel), List.forall_mem_cons.mpr ⟨List.mem_of_getElem? (i := 322) (by decide +kernel), List.forall_mem_cons.mpr ⟨List.mem_of_getElem? (i := 323) (by decide +kernel), List.forall_mem_cons.mpr ⟨List.mem_of_getElem? (i := 25) (by decide +kernel), List.forall_mem_cons.mpr ⟨List.mem_of_getElem? (i := 324) (by decide +kernel), fun _ h => absurd h List.not_mem_nil⟩⟩⟩⟩⟩
theorem zwX3_22 : ∀ w ∈ ([.methodLink RX3 22 yX3_letterAt, .instanceMethod yX3_letterAt, .selects yX3_letterAt.cls yX3_letterAt yX3_letterAt, .initialized yX3_letterAt.cls, .code yX3_letterAt cX3_letterAt 2 (some .char)] : List Cond), w ∈ wsL_law := List.forall_mem_cons.mpr ⟨List.mem_of_getElem? (i := 471) (by decide +kernel), List.forall_mem_cons.mpr ⟨List.mem_of_getElem? (i := 349) (by decide +kernel), List.forall_mem_cons.mpr ⟨List.mem_of_getElem? (i := 350) (by decide +kernel), List.forall_mem_cons.mpr ⟨List.mem_of_getElem? (i := 25) (by decide +kernel), List.forall_mem_cons.mpr ⟨List.mem_of_getElem? (i := 351) (by decide +kernel), fun _ h => absurd h List.not_mem_nil⟩⟩⟩⟩⟩
theorem zdX3_append : yX3_append.cls ≠ "java/lang/invoke/MethodHandle" ∧ yX3_append.cls ≠ "java/lang/invoke/VarHandle" ∧ (parseMethodDescriptor yX3_append.desc).map (fun d => d.parameters.length) = some 1 := by decide +kernel
theorem zwX3_26 : ∀ w ∈ ([.methodLink RX3 26 yX3_append, .instanceMethod yX3_append, .selects yX3_append.cls yX3_append yX3_append, .initialized yX3_append.cls, .code yX3_append cX3_append 2 none] : List Cond), w ∈ wsL_law := List.forall_mem_cons.mpr ⟨List.mem_of_getElem? (i := 476) (by decide +kernel), List.forall_mem_cons.mpr ⟨List.mem_of_getElem? (i := 310) (by decide +kernel), List.forall_mem_cons.mpr ⟨List.mem_of_getElem? (i := 311) (by decide +kernel), List.forall_mem_cons.mpr ⟨List.mem_of_getElem? (i := 25) (by decide +kernel), List.forall_mem_cons.mpr ⟨List.mem_of_getElem? (i := 312) (by decide +kernel), fun _ h => absurd h List.not_mem_nil⟩⟩⟩⟩⟩
theorem zwX3_30 : ∀ w ∈ ([.methodLink RX3 30 Lib.Math.min.name, .static Lib.Math.min.name, .initialized "java/lang/Math", .code Lib.Math.min.name Lib.Math.min.code 2 (some .int)] : List Cond), w ∈ wsL_law := List.forall_mem_cons.mpr ⟨List.mem_of_getElem? (i := 470) (by decide +kernel), List.forall_mem_cons.mpr ⟨List.mem_of_getElem? (i := 208) (by decide +kernel), List.forall_mem_cons.mpr ⟨List.mem_of_getElem? (i := 209) (by decide +kernel), List.forall_mem_cons.mpr ⟨List.mem_of_getElem? (i := 210) (by decide +kernel), fun _ h => absurd h List.not_mem_nil⟩⟩⟩⟩
theorem zwX4_28 : ∀ w ∈ ([.methodLink RX4 28 yX4_clear, .instanceMethod yX4_clear, .selects yX4_clear.cls yX4_clear yX4_clear, .initialized yX4_clear.cls, .code yX4_clear cX4_clear 1 none] : List Cond), w ∈ wsL_law := List.forall_mem_cons.mpr ⟨List.mem_of_getElem? (i := 211) (by decide +kernel), List.forall_mem_cons.mpr ⟨List.mem_of_getElem? (i := 123) (by decide +kernel), List.forall_mem_cons.mpr ⟨List.mem_of_getElem? (i := 124) (by decide +kernel), List.forall_mem_cons.mpr ⟨List.mem_of_getElem? (i := 21) (by decide +kernel), List.forall_mem_cons.mpr ⟨List.mem_of_getElem? (i := 125) (by decide +kernel), fun _ h => absurd h List.not_mem_nil⟩⟩⟩⟩⟩
theorem zwX4_31 : ∀ w ∈ ([.methodLink RX4 31 Lib.Math.min.name, .static Lib.Math.min.name, .initialized "java/lang/Math", .code Lib.Math.min.name Lib.Math.min.code 2 (some .int)] : List Cond), w ∈ wsL_law := List.forall_mem_cons.mpr ⟨List.mem_of_getElem? (i := 207) (by decide +kernel), List.forall_mem_cons.mpr ⟨List.mem_of_getElem? (i := 208) (by decide +kernel), List.forall_mem_cons.mpr ⟨List.mem_of_getElem? (i := 209) (by decide +kernel), List.forall_mem_cons.mpr ⟨List.mem_of_getElem? (i := 210) (by decide +kernel), fun _ h => absurd h List.not_mem_nil⟩⟩⟩⟩
theorem zwX4_37 : ∀ w ∈ ([.methodLink RX4 37 yX4_put, .instanceMethod yX4_put, .selects yX4_put.cls yX4_put yX4_put, .initialized yX4_put.cls, .code yX4_put cX4_put 6 (some .int)] : List Cond), w ∈ wsL_law := List.forall_mem_cons.mpr ⟨List.mem_of_getElem? (i := 212) (by decide +kernel), List.forall_mem_cons.mpr ⟨List.mem_of_getElem? (i := 148) (by decide +kernel), List.forall_mem_cons.mpr ⟨List.mem_of_getElem? (i := 149) (by decide +kernel), List.forall_mem_cons.mpr ⟨List.mem_of_getElem? (i := 21) (by decide +kernel), List.forall_mem_cons.mpr ⟨List.mem_of_getElem? (i := 150) (by decide +kernel), fun _ h => absurd h List.not_mem_nil⟩⟩⟩⟩⟩
theorem zdX2_read : yX2_read.cls ≠ "java/lang/invoke/MethodHandle" ∧ yX2_read.cls ≠ "java/lang/invoke/VarHandle" ∧ (parseMethodDescriptor yX2_read.desc).map (fun d => d.parameters.length) = some 2 := by decide +kernel
theorem znX5_61 : (RX5, 61, yX2_read) ∈ zNM := List.mem_of_getElem? (i := 7) (by decide +kernel)
theorem zwX5_61 : ∀ w ∈ ([.instanceMethod yX2_read, .selects yX2_read.cls yX2_read yX2_read, .initialized yX2_read.cls, .code yX2_read cX2_read 4 (some .int)] : List Cond), w ∈ wsL_law := List.forall_mem_cons.mpr ⟨List.mem_of_getElem? (i := 120) (by decide +kernel), List.forall_mem_cons.mpr ⟨List.mem_of_getElem? (i := 121) (by decide +kernel), List.forall_mem_cons.mpr ⟨List.mem_of_getElem? (i := 17) (by decide +kernel), List.forall_mem_cons.mpr ⟨List.mem_of_getElem? (i := 122) (by decide +kernel), fun _ h => absurd h List.not_mem_nil⟩⟩⟩⟩
theorem zdX4_copyFrom : yX4_copyFrom.cls ≠ "java/lang/invoke/MethodHandle" ∧ yX4_copyFrom.cls ≠ "java/lang/invoke/VarHandle" ∧ (parseMethodDescriptor yX4_copyFrom.desc).map (fun d => d.parameters.length) = some 1 := by decide +kernel
theorem znX5_71 : (RX5, 71, yX4_copyFrom) ∈ zNM := List.mem_of_getElem? (i := 13) (by decide +kernel)
theorem zwX5_71 : ∀ w ∈ ([.instanceMethod yX4_copyFrom, .selects yX4_copyFrom.cls yX4_copyFrom yX4_copyFrom, .initialized yX4_copyFrom.cls, .code yX4_copyFrom cX4_copyFrom 4 none] : List Cond), w ∈ wsL_law := List.forall_mem_cons.mpr ⟨List.mem_of_getElem? (i := 204) (by decide +kernel), List.forall_mem_cons.mpr ⟨List.mem_of_getElem? (i := 205) (by decide +kernel), List.forall_mem_cons.mpr ⟨List.mem_of_getElem? (i := 21) (by decide +kernel), List.forall_mem_cons.mpr ⟨List.mem_of_getElem? (i := 206) (by decide +kernel), fun _ h => absurd h List.not_mem_nil⟩⟩⟩⟩
theorem znX5_75 : (RX5, 75, yX0_forget) ∈ zNM := List.mem_of_getElem? (i := 14) (by decide +kernel)
theorem zwX5_75 : ∀ w ∈ ([.instanceMethod yX0_forget, .selects yX0_forget.cls yX0_forget yX0_forget, .initialized yX0_forget.cls, .code yX0_forget cX0_forget 1 none] : List Cond), w ∈ wsL_law := List.forall_mem_cons.mpr ⟨List.mem_of_getElem? (i := 213) (by decide +kernel), List.forall_mem_cons.mpr ⟨List.mem_of_getElem? (i := 214) (by decide +kernel), List.forall_mem_cons.mpr ⟨List.mem_of_getElem? (i := 29) (by decide +kernel), List.forall_mem_cons.mpr ⟨List.mem_of_getElem? (i := 215) (by decide +kernel), fun _ h => absurd h List.not_mem_nil⟩⟩⟩⟩
theorem zdX5_forgetMatch : yX5_forgetMatch.cls ≠ "java/lang/invoke/MethodHandle" ∧ yX5_forgetMatch.cls ≠ "java/lang/invoke/VarHandle" ∧ (parseMethodDescriptor yX5_forgetMatch.desc).map (fun d => d.parameters.length) = some 0 := by decide +kernel
theorem zwX5_78 : ∀ w ∈ ([.methodLink RX5 78 yX5_forgetMatch, .instanceMethod yX5_forgetMatch, .selects yX5_forgetMatch.cls yX5_forgetMatch yX5_forgetMatch, .initialized yX5_forgetMatch.cls, .code yX5_forgetMatch cX5_forgetMatch 1 none] : List Cond), w ∈ wsL_law := List.forall_mem_cons.mpr ⟨List.mem_of_getElem? (i := 216) (by decide +kernel), List.forall_mem_cons.mpr ⟨List.mem_of_getElem? (i := 217) (by decide +kernel), List.forall_mem_cons.mpr ⟨List.mem_of_getElem? (i := 218) (by decide +kernel), List.forall_mem_cons.mpr ⟨List.mem_of_getElem? (i := 2) (by decide +kernel), List.forall_mem_cons.mpr ⟨List.mem_of_getElem? (i := 219) (by decide +kernel), fun _ h => absurd h List.not_mem_nil⟩⟩⟩⟩⟩
theorem zdX5_isWeight : yX5_isWeight.cls ≠ "java/lang/invoke/MethodHandle" ∧ yX5_isWeight.cls ≠ "java/lang/invoke/VarHandle" ∧ (parseMethodDescriptor yX5_isWeight.desc).map (fun d => d.parameters.length) = some 1 := by decide +kernel
theorem zwX5_81 : ∀ w ∈ ([.methodLink RX5 81 yX5_isWeight, .static yX5_isWeight, .initialized yX5_isWeight.cls, .code yX5_isWeight cX5_isWeight 1 (some .boolean)] : List Cond), w ∈ wsL_law := List.forall_mem_cons.mpr ⟨List.mem_of_getElem? (i := 285) (by decide +kernel), List.forall_mem_cons.mpr ⟨List.mem_of_getElem? (i := 286) (by decide +kernel), List.forall_mem_cons.mpr ⟨List.mem_of_getElem? (i := 2) (by decide +kernel), List.forall_mem_cons.mpr ⟨List.mem_of_getElem? (i := 287) (by decide +kernel), fun _ h => absurd h List.not_mem_nil⟩⟩⟩⟩
theorem zdX0_weigh : yX0_weigh.cls ≠ "java/lang/invoke/MethodHandle" ∧ yX0_weigh.cls ≠ "java/lang/invoke/VarHandle" ∧ (parseMethodDescriptor yX0_weigh.desc).map (fun d => d.parameters.length) = some 3 := by decide +kernel
theorem znX5_85 : (RX5, 85, yX0_weigh) ∈ zNM := List.mem_of_getElem? (i := 15) (by decide +kernel)
theorem zwX5_85 : ∀ w ∈ ([.instanceMethod yX0_weigh, .selects yX0_weigh.cls yX0_weigh yX0_weigh, .initialized yX0_weigh.cls, .code yX0_weigh cX0_weigh 4 none] : List Cond), w ∈ wsL_law := List.forall_mem_cons.mpr ⟨List.mem_of_getElem? (i := 288) (by decide +kernel), List.forall_mem_cons.mpr ⟨List.mem_of_getElem? (i := 289) (by decide +kernel), List.forall_mem_cons.mpr ⟨List.mem_of_getElem? (i := 29) (by decide +kernel), List.forall_mem_cons.mpr ⟨List.mem_of_getElem? (i := 290) (by decide +kernel), fun _ h => absurd h List.not_mem_nil⟩⟩⟩⟩
theorem zwX5_89 : ∀ w ∈ ([.methodLink RX5 89 yX5_isLetter, .static yX5_isLetter, .initialized yX5_isLetter.cls, .code yX5_isLetter cX5_isLetter 1 (some .boolean)] : List Cond), w ∈ wsL_law := List.forall_mem_cons.mpr ⟨List.mem_of_getElem? (i := 309) (by decide +kernel), List.forall_mem_cons.mpr ⟨List.mem_of_getElem? (i := 139) (by decide +kernel), List.forall_mem_cons.mpr ⟨List.mem_of_getElem? (i := 2) (by decide +kernel), List.forall_mem_cons.mpr ⟨List.mem_of_getElem? (i := 140) (by decide +kernel), fun _ h => absurd h List.not_mem_nil⟩⟩⟩⟩
theorem znX5_94 : (RX5, 94, yX3_append) ∈ zNM := List.mem_of_getElem? (i := 16) (by decide +kernel)
theorem zwX5_94 : ∀ w ∈ ([.instanceMethod yX3_append, .selects yX3_append.cls yX3_append yX3_append, .initialized yX3_append.cls, .code yX3_append cX3_append 2 none] : List Cond), w ∈ wsL_law := List.forall_mem_cons.mpr ⟨List.mem_of_getElem? (i := 310) (by decide +kernel), List.forall_mem_cons.mpr ⟨List.mem_of_getElem? (i := 311) (by decide +kernel), List.forall_mem_cons.mpr ⟨List.mem_of_getElem? (i := 25) (by decide +kernel), List.forall_mem_cons.mpr ⟨List.mem_of_getElem? (i := 312) (by decide +kernel), fun _ h => absurd h List.not_mem_nil⟩⟩⟩⟩
theorem znX5_98 : (RX5, 98, yX3_clear) ∈ zNM := List.mem_of_getElem? (i := 17) (by decide +kernel)
theorem zwX5_98 : ∀ w ∈ ([.instanceMethod yX3_clear, .selects yX3_clear.cls yX3_clear yX3_clear, .initialized yX3_clear.cls, .code yX3_clear cX3_clear 1 none] : List Cond), w ∈ wsL_law := List.forall_mem_cons.mpr ⟨List.mem_of_getElem? (i := 322) (by decide +kernel), List.forall_mem_cons.mpr ⟨List.mem_of_getElem? (i := 323) (by decide +kernel), List.forall_mem_cons.mpr ⟨List.mem_of_getElem? (i := 25) (by decide +kernel), List.forall_mem_cons.mpr ⟨List.mem_of_getElem? (i := 324) (by decide +kernel), fun _ h => absurd h List.not_mem_nil⟩⟩⟩⟩
theorem zdX0_learn : yX0_learn.cls ≠ "java/lang/invoke/MethodHandle" ∧ yX0_learn.cls ≠ "java/lang/invoke/VarHandle" ∧ (parseMethodDescriptor yX0_learn.desc).map (fun d => d.parameters.length) = some 2 := by decide +kernel
theorem znX5_101 : (RX5, 101, yX0_learn) ∈ zNM := List.mem_of_getElem? (i := 18) (by decide +kernel)
theorem zwX5_101 : ∀ w ∈ ([.instanceMethod yX0_learn, .selects yX0_learn.cls yX0_learn yX0_learn, .initialized yX0_learn.cls, .code yX0_learn cX0_learn 5 none] : List Cond), w ∈ wsL_law := List.forall_mem_cons.mpr ⟨List.mem_of_getElem? (i := 334) (by decide +kernel), List.forall_mem_cons.mpr ⟨List.mem_of_getElem? (i := 335) (by decide +kernel), List.forall_mem_cons.mpr ⟨List.mem_of_getElem? (i := 29) (by decide +kernel), List.forall_mem_cons.mpr ⟨List.mem_of_getElem? (i := 336) (by decide +kernel), fun _ h => absurd h List.not_mem_nil⟩⟩⟩⟩
theorem zdX0_ofWhole : yX0_ofWhole.cls ≠ "java/lang/invoke/MethodHandle" ∧ yX0_ofWhole.cls ≠ "java/lang/invoke/VarHandle" ∧ (parseMethodDescriptor yX0_ofWhole.desc).map (fun d => d.parameters.length) = some 3 := by decide +kernel
theorem znX5_105 : (RX5, 105, yX0_ofWhole) ∈ zNM := List.mem_of_getElem? (i := 20) (by decide +kernel)
theorem zwX5_105 : ∀ w ∈ ([.instanceMethod yX0_ofWhole, .selects yX0_ofWhole.cls yX0_ofWhole yX0_ofWhole, .initialized yX0_ofWhole.cls, .code yX0_ofWhole cX0_ofWhole 4 (some .int)] : List Cond), w ∈ wsL_law := List.forall_mem_cons.mpr ⟨List.mem_of_getElem? (i := 380) (by decide +kernel), List.forall_mem_cons.mpr ⟨List.mem_of_getElem? (i := 381) (by decide +kernel), List.forall_mem_cons.mpr ⟨List.mem_of_getElem? (i := 29) (by decide +kernel), List.forall_mem_cons.mpr ⟨List.mem_of_getElem? (i := 382) (by decide +kernel), fun _ h => absurd h List.not_mem_nil⟩⟩⟩⟩
theorem zdX1_keep : yX1_keep.cls ≠ "java/lang/invoke/MethodHandle" ∧ yX1_keep.cls ≠ "java/lang/invoke/VarHandle" ∧ (parseMethodDescriptor yX1_keep.desc).map (fun d => d.parameters.length) = some 1 := by decide +kernel
theorem znX5_110 : (RX5, 110, yX1_keep) ∈ zNM := List.mem_of_getElem? (i := 21) (by decide +kernel)
theorem zwX5_110 : ∀ w ∈ ([.instanceMethod yX1_keep, .selects yX1_keep.cls yX1_keep yX1_keep, .initialized yX1_keep.cls, .code yX1_keep cX1_keep 3 (some .int)] : List Cond), w ∈ wsL_law := List.forall_mem_cons.mpr ⟨List.mem_of_getElem? (i := 460) (by decide +kernel), List.forall_mem_cons.mpr ⟨List.mem_of_getElem? (i := 461) (by decide +kernel), List.forall_mem_cons.mpr ⟨List.mem_of_getElem? (i := 33) (by decide +kernel), List.forall_mem_cons.mpr ⟨List.mem_of_getElem? (i := 462) (by decide +kernel), fun _ h => absurd h List.not_mem_nil⟩⟩⟩⟩
theorem znX5_115 : (RX5, 115, yX1_distanceOf) ∈ zNM := List.mem_of_getElem? (i := 24) (by decide +kernel)
theorem zwX5_115 : ∀ w ∈ ([.instanceMethod yX1_distanceOf, .selects yX1_distanceOf.cls yX1_distanceOf yX1_distanceOf, .initialized yX1_distanceOf.cls, .code yX1_distanceOf cX1_distanceOf 7 (some .int)] : List Cond), w ∈ wsL_law := List.forall_mem_cons.mpr ⟨List.mem_of_getElem? (i := 502) (by decide +kernel), List.forall_mem_cons.mpr ⟨List.mem_of_getElem? (i := 503) (by decide +kernel), List.forall_mem_cons.mpr ⟨List.mem_of_getElem? (i := 33) (by decide +kernel), List.forall_mem_cons.mpr ⟨List.mem_of_getElem? (i := 504) (by decide +kernel), fun _ h => absurd h List.not_mem_nil⟩⟩⟩⟩
theorem zdX1_countWithin : yX1_countWithin.cls ≠ "java/lang/invoke/MethodHandle" ∧ yX1_countWithin.cls ≠ "java/lang/invoke/VarHandle" ∧ (parseMethodDescriptor yX1_countWithin.desc).map (fun d => d.parameters.length) = some 3 := by decide +kernel
theorem znX5_119 : (RX5, 119, yX1_countWithin) ∈ zNM := List.mem_of_getElem? (i := 26) (by decide +kernel)
theorem zwX5_119 : ∀ w ∈ ([.instanceMethod yX1_countWithin, .selects yX1_countWithin.cls yX1_countWithin yX1_countWithin, .initialized yX1_countWithin.cls, .code yX1_countWithin cX1_countWithin 6 (some .int)] : List Cond), w ∈ wsL_law := List.forall_mem_cons.mpr ⟨List.mem_of_getElem? (i := 521) (by decide +kernel), List.forall_mem_cons.mpr ⟨List.mem_of_getElem? (i := 522) (by decide +kernel), List.forall_mem_cons.mpr ⟨List.mem_of_getElem? (i := 33) (by decide +kernel), List.forall_mem_cons.mpr ⟨List.mem_of_getElem? (i := 523) (by decide +kernel), fun _ h => absurd h List.not_mem_nil⟩⟩⟩⟩
theorem zdX1_wordAtRank : yX1_wordAtRank.cls ≠ "java/lang/invoke/MethodHandle" ∧ yX1_wordAtRank.cls ≠ "java/lang/invoke/VarHandle" ∧ (parseMethodDescriptor yX1_wordAtRank.desc).map (fun d => d.parameters.length) = some 3 := by decide +kernel
theorem znX5_122 : (RX5, 122, yX1_wordAtRank) ∈ zNM := List.mem_of_getElem? (i := 27) (by decide +kernel)
theorem zwX5_122 : ∀ w ∈ ([.instanceMethod yX1_wordAtRank, .selects yX1_wordAtRank.cls yX1_wordAtRank yX1_wordAtRank, .initialized yX1_wordAtRank.cls, .code yX1_wordAtRank cX1_wordAtRank 5 (some .int)] : List Cond), w ∈ wsL_law := List.forall_mem_cons.mpr ⟨List.mem_of_getElem? (i := 533) (by decide +kernel), List.forall_mem_cons.mpr ⟨List.mem_of_getElem? (i := 534) (by decide +kernel), List.forall_mem_cons.mpr ⟨List.mem_of_getElem? (i := 33) (by decide +kernel), List.forall_mem_cons.mpr ⟨List.mem_of_getElem? (i := 535) (by decide +kernel), fun _ h => absurd h List.not_mem_nil⟩⟩⟩⟩
theorem zdX6_small : yX6_small.cls ≠ "java/lang/invoke/MethodHandle" ∧ yX6_small.cls ≠ "java/lang/invoke/VarHandle" ∧ (parseMethodDescriptor yX6_small.desc).map (fun d => d.parameters.length) = some 1 := by decide +kernel
theorem zwX6_71 : ∀ w ∈ ([.methodLink RX6 71 yX6_small, .static yX6_small, .initialized yX6_small.cls, .code yX6_small cX6_small 1 (some .boolean)] : List Cond), w ∈ wsL_law := List.forall_mem_cons.mpr ⟨List.mem_of_getElem? (i := 233) (by decide +kernel), List.forall_mem_cons.mpr ⟨List.mem_of_getElem? (i := 234) (by decide +kernel), List.forall_mem_cons.mpr ⟨List.mem_of_getElem? (i := 5) (by decide +kernel), List.forall_mem_cons.mpr ⟨List.mem_of_getElem? (i := 235) (by decide +kernel), fun _ h => absurd h List.not_mem_nil⟩⟩⟩⟩
theorem zdX6_next : yX6_next.cls ≠ "java/lang/invoke/MethodHandle" ∧ yX6_next.cls ≠ "java/lang/invoke/VarHandle" ∧ (parseMethodDescriptor yX6_next.desc).map (fun d => d.parameters.length) = some 3 := by decide +kernel
theorem zwX6_75 : ∀ w ∈ ([.methodLink RX6 75 yX6_next, .static yX6_next, .initialized yX6_next.cls, .code yX6_next cX6_next 4 (some .int)] : List Cond), w ∈ wsL_law := List.forall_mem_cons.mpr ⟨List.mem_of_getElem? (i := 230) (by decide +kernel), List.forall_mem_cons.mpr ⟨List.mem_of_getElem? (i := 231) (by decide +kernel), List.forall_mem_cons.mpr ⟨List.mem_of_getElem? (i := 5) (by decide +kernel), List.forall_mem_cons.mpr ⟨List.mem_of_getElem? (i := 232) (by decide +kernel), fun _ h => absurd h List.not_mem_nil⟩⟩⟩⟩
theorem zdX6_make : yX6_make.cls ≠ "java/lang/invoke/MethodHandle" ∧ yX6_make.cls ≠ "java/lang/invoke/VarHandle" ∧ (parseMethodDescriptor yX6_make.desc).map (fun d => d.parameters.length) = some 3 := by decide +kernel
theorem zwX6_88 : ∀ w ∈ ([.methodLink RX6 88 yX6_make, .instanceMethod yX6_make, .selects yX6_make.cls yX6_make yX6_make, .initialized yX6_make.cls, .code yX6_make cX6_make 4 none] : List Cond), w ∈ wsL_law := List.forall_mem_cons.mpr ⟨List.mem_of_getElem? (i := 248) (by decide +kernel), List.forall_mem_cons.mpr ⟨List.mem_of_getElem? (i := 249) (by decide +kernel), List.forall_mem_cons.mpr ⟨List.mem_of_getElem? (i := 250) (by decide +kernel), List.forall_mem_cons.mpr ⟨List.mem_of_getElem? (i := 5) (by decide +kernel), List.forall_mem_cons.mpr ⟨List.mem_of_getElem? (i := 251) (by decide +kernel), fun _ h => absurd h List.not_mem_nil⟩⟩⟩⟩⟩
theorem zdX6_join : yX6_join.cls ≠ "java/lang/invoke/MethodHandle" ∧ yX6_join.cls ≠ "java/lang/invoke/VarHandle" ∧ (parseMethodDescriptor yX6_join.desc).map (fun d => d.parameters.length) = some 1 := by decide +kernel
theorem zwX6_92 : ∀ w ∈ ([.methodLink RX6 92 yX6_join, .instanceMethod yX6_join, .selects yX6_join.cls yX6_join yX6_join, .initialized yX6_join.cls, .code yX6_join cX6_join 4 none] : List Cond), w ∈ wsL_law := List.forall_mem_cons.mpr ⟨List.mem_of_getElem? (i := 244) (by decide +kernel), List.forall_mem_cons.mpr ⟨List.mem_of_getElem? (i := 245) (by decide +kernel), List.forall_mem_cons.mpr ⟨List.mem_of_getElem? (i := 246) (by decide +kernel), List.forall_mem_cons.mpr ⟨List.mem_of_getElem? (i := 5) (by decide +kernel), List.forall_mem_cons.mpr ⟨List.mem_of_getElem? (i := 247) (by decide +kernel), fun _ h => absurd h List.not_mem_nil⟩⟩⟩⟩⟩
theorem zdX6_hold : yX6_hold.cls ≠ "java/lang/invoke/MethodHandle" ∧ yX6_hold.cls ≠ "java/lang/invoke/VarHandle" ∧ (parseMethodDescriptor yX6_hold.desc).map (fun d => d.parameters.length) = some 1 := by decide +kernel
theorem zwX6_96 : ∀ w ∈ ([.methodLink RX6 96 yX6_hold, .instanceMethod yX6_hold, .selects yX6_hold.cls yX6_hold yX6_hold, .initialized yX6_hold.cls, .code yX6_hold cX6_hold 2 none] : List Cond), w ∈ wsL_law := List.forall_mem_cons.mpr ⟨List.mem_of_getElem? (i := 252) (by decide +kernel), List.forall_mem_cons.mpr ⟨List.mem_of_getElem? (i := 253) (by decide +kernel), List.forall_mem_cons.mpr ⟨List.mem_of_getElem? (i := 254) (by decide +kernel), List.forall_mem_cons.mpr ⟨List.mem_of_getElem? (i := 5) (by decide +kernel), List.forall_mem_cons.mpr ⟨List.mem_of_getElem? (i := 255) (by decide +kernel), fun _ h => absurd h List.not_mem_nil⟩⟩⟩⟩⟩
theorem zdX6_item : yX6_item.cls ≠ "java/lang/invoke/MethodHandle" ∧ yX6_item.cls ≠ "java/lang/invoke/VarHandle" ∧ (parseMethodDescriptor yX6_item.desc).map (fun d => d.parameters.length) = some 1 := by decide +kernel
theorem zwX6_103 : ∀ w ∈ ([.methodLink RX6 103 yX6_item, .instanceMethod yX6_item, .selects yX6_item.cls yX6_item yX6_item, .initialized yX6_item.cls, .code yX6_item cX6_item 2 none] : List Cond), w ∈ wsL_law := List.forall_mem_cons.mpr ⟨List.mem_of_getElem? (i := 256) (by decide +kernel), List.forall_mem_cons.mpr ⟨List.mem_of_getElem? (i := 257) (by decide +kernel), List.forall_mem_cons.mpr ⟨List.mem_of_getElem? (i := 258) (by decide +kernel), List.forall_mem_cons.mpr ⟨List.mem_of_getElem? (i := 5) (by decide +kernel), List.forall_mem_cons.mpr ⟨List.mem_of_getElem? (i := 259) (by decide +kernel), fun _ h => absurd h List.not_mem_nil⟩⟩⟩⟩⟩
theorem zdX6_suffix : yX6_suffix.cls ≠ "java/lang/invoke/MethodHandle" ∧ yX6_suffix.cls ≠ "java/lang/invoke/VarHandle" ∧ (parseMethodDescriptor yX6_suffix.desc).map (fun d => d.parameters.length) = some 2 := by decide +kernel
theorem zwX6_107 : ∀ w ∈ ([.methodLink RX6 107 yX6_suffix, .instanceMethod yX6_suffix, .selects yX6_suffix.cls yX6_suffix yX6_suffix, .initialized yX6_suffix.cls, .code yX6_suffix cX6_suffix 3 none] : List Cond), w ∈ wsL_law := List.forall_mem_cons.mpr ⟨List.mem_of_getElem? (i := 260) (by decide +kernel), List.forall_mem_cons.mpr ⟨List.mem_of_getElem? (i := 261) (by decide +kernel), List.forall_mem_cons.mpr ⟨List.mem_of_getElem? (i := 262) (by decide +kernel), List.forall_mem_cons.mpr ⟨List.mem_of_getElem? (i := 5) (by decide +kernel), List.forall_mem_cons.mpr ⟨List.mem_of_getElem? (i := 263) (by decide +kernel), fun _ h => absurd h List.not_mem_nil⟩⟩⟩⟩⟩
theorem zdX6_set : yX6_set.cls ≠ "java/lang/invoke/MethodHandle" ∧ yX6_set.cls ≠ "java/lang/invoke/VarHandle" ∧ (parseMethodDescriptor yX6_set.desc).map (fun d => d.parameters.length) = some 1 := by decide +kernel
theorem zwX6_111 : ∀ w ∈ ([.methodLink RX6 111 yX6_set, .instanceMethod yX6_set, .selects yX6_set.cls yX6_set yX6_set, .initialized yX6_set.cls, .code yX6_set cX6_set 4 (some .int)] : List Cond), w ∈ wsL_law := List.forall_mem_cons.mpr ⟨List.mem_of_getElem? (i := 264) (by decide +kernel), List.forall_mem_cons.mpr ⟨List.mem_of_getElem? (i := 265) (by decide +kernel), List.forall_mem_cons.mpr ⟨List.mem_of_getElem? (i := 266) (by decide +kernel), List.forall_mem_cons.mpr ⟨List.mem_of_getElem? (i := 5) (by decide +kernel), List.forall_mem_cons.mpr ⟨List.mem_of_getElem? (i := 267) (by decide +kernel), fun _ h => absurd h List.not_mem_nil⟩⟩⟩⟩⟩
theorem zdX6_fault : yX6_fault.cls ≠ "java/lang/invoke/MethodHandle" ∧ yX6_fault.cls ≠ "java/lang/invoke/VarHandle" ∧ (parseMethodDescriptor yX6_fault.desc).map (fun d => d.parameters.length) = some 0 := by decide +kernel
theorem zwX6_115 : ∀ w ∈ ([.methodLink RX6 115 yX6_fault, .instanceMethod yX6_fault, .selects yX6_fault.cls yX6_fault yX6_fault, .initialized yX6_fault.cls, .code yX6_fault cX6_fault 6 (some .int)] : List Cond), w ∈ wsL_law := List.forall_mem_cons.mpr ⟨List.mem_of_getElem? (i := 226) (by decide +kernel), List.forall_mem_cons.mpr ⟨List.mem_of_getElem? (i := 227) (by decide +kernel), List.forall_mem_cons.mpr ⟨List.mem_of_getElem? (i := 228) (by decide +kernel), List.forall_mem_cons.mpr ⟨List.mem_of_getElem? (i := 5) (by decide +kernel), List.forall_mem_cons.mpr ⟨List.mem_of_getElem? (i := 229) (by decide +kernel), fun _ h => absurd h List.not_mem_nil⟩⟩⟩⟩⟩
theorem zdX6_read : yX6_read.cls ≠ "java/lang/invoke/MethodHandle" ∧ yX6_read.cls ≠ "java/lang/invoke/VarHandle" ∧ (parseMethodDescriptor yX6_read.desc).map (fun d => d.parameters.length) = some 0 := by decide +kernel
theorem zwX6_119 : ∀ w ∈ ([.methodLink RX6 119 yX6_read, .instanceMethod yX6_read, .selects yX6_read.cls yX6_read yX6_read, .initialized yX6_read.cls, .code yX6_read cX6_read 5 none] : List Cond), w ∈ wsL_law := List.forall_mem_cons.mpr ⟨List.mem_of_getElem? (i := 236) (by decide +kernel), List.forall_mem_cons.mpr ⟨List.mem_of_getElem? (i := 237) (by decide +kernel), List.forall_mem_cons.mpr ⟨List.mem_of_getElem? (i := 238) (by decide +kernel), List.forall_mem_cons.mpr ⟨List.mem_of_getElem? (i := 5) (by decide +kernel), List.forall_mem_cons.mpr ⟨List.mem_of_getElem? (i := 239) (by decide +kernel), fun _ h => absurd h List.not_mem_nil⟩⟩⟩⟩⟩
theorem zdX6_changed : yX6_changed.cls ≠ "java/lang/invoke/MethodHandle" ∧ yX6_changed.cls ≠ "java/lang/invoke/VarHandle" ∧ (parseMethodDescriptor yX6_changed.desc).map (fun d => d.parameters.length) = some 0 := by decide +kernel
theorem zwX6_125 : ∀ w ∈ ([.methodLink RX6 125 yX6_changed, .instanceMethod yX6_changed, .selects yX6_changed.cls yX6_changed yX6_changed, .initialized yX6_changed.cls, .code yX6_changed cX6_changed 1 none] : List Cond), w ∈ wsL_law := List.forall_mem_cons.mpr ⟨List.mem_of_getElem? (i := 268) (by decide +kernel), List.forall_mem_cons.mpr ⟨List.mem_of_getElem? (i := 269) (by decide +kernel), List.forall_mem_cons.mpr ⟨List.mem_of_getElem? (i := 270) (by decide +kernel), List.forall_mem_cons.mpr ⟨List.mem_of_getElem? (i := 5) (by decide +kernel), List.forall_mem_cons.mpr ⟨List.mem_of_getElem? (i := 271) (by decide +kernel), fun _ h => absurd h List.not_mem_nil⟩⟩⟩⟩⟩
theorem zdX6_costOf : yX6_costOf.cls ≠ "java/lang/invoke/MethodHandle" ∧ yX6_costOf.cls ≠ "java/lang/invoke/VarHandle" ∧ (parseMethodDescriptor yX6_costOf.desc).map (fun d => d.parameters.length) = some 3 := by decide +kernel
theorem zwX6_139 : ∀ w ∈ ([.methodLink RX6 139 yX6_costOf, .instanceMethod yX6_costOf, .selects yX6_costOf.cls yX6_costOf yX6_costOf, .initialized yX6_costOf.cls, .code yX6_costOf cX6_costOf 4 (some .int)] : List Cond), w ∈ wsL_law := List.forall_mem_cons.mpr ⟨List.mem_of_getElem? (i := 404) (by decide +kernel), List.forall_mem_cons.mpr ⟨List.mem_of_getElem? (i := 405) (by decide +kernel), List.forall_mem_cons.mpr ⟨List.mem_of_getElem? (i := 406) (by decide +kernel), List.forall_mem_cons.mpr ⟨List.mem_of_getElem? (i := 5) (by decide +kernel), List.forall_mem_cons.mpr ⟨List.mem_of_getElem? (i := 407) (by decide +kernel), fun _ h => absurd h List.not_mem_nil⟩⟩⟩⟩⟩
theorem zdX6_sum : yX6_sum.cls ≠ "java/lang/invoke/MethodHandle" ∧ yX6_sum.cls ≠ "java/lang/invoke/VarHandle" ∧ (parseMethodDescriptor yX6_sum.desc).map (fun d => d.parameters.length) = some 2 := by decide +kernel
theorem zwX6_142 : ∀ w ∈ ([.methodLink RX6 142 yX6_sum, .static yX6_sum, .initialized yX6_sum.cls, .code yX6_sum cX6_sum 2 (some .int)] : List Cond), w ∈ wsL_law := List.forall_mem_cons.mpr ⟨List.mem_of_getElem? (i := 408) (by decide +kernel), List.forall_mem_cons.mpr ⟨List.mem_of_getElem? (i := 409) (by decide +kernel), List.forall_mem_cons.mpr ⟨List.mem_of_getElem? (i := 5) (by decide +kernel), List.forall_mem_cons.mpr ⟨List.mem_of_getElem? (i := 410) (by decide +kernel), fun _ h => absurd h List.not_mem_nil⟩⟩⟩⟩
theorem zdX6_ofSet : yX6_ofSet.cls ≠ "java/lang/invoke/MethodHandle" ∧ yX6_ofSet.cls ≠ "java/lang/invoke/VarHandle" ∧ (parseMethodDescriptor yX6_ofSet.desc).map (fun d => d.parameters.length) = some 3 := by decide +kernel
theorem zwX6_146 : ∀ w ∈ ([.methodLink RX6 146 yX6_ofSet, .instanceMethod yX6_ofSet, .selects yX6_ofSet.cls yX6_ofSet yX6_ofSet, .initialized yX6_ofSet.cls, .code yX6_ofSet cX6_ofSet 8 (some .int)] : List Cond), w ∈ wsL_law := List.forall_mem_cons.mpr ⟨List.mem_of_getElem? (i := 396) (by decide +kernel), List.forall_mem_cons.mpr ⟨List.mem_of_getElem? (i := 397) (by decide +kernel), List.forall_mem_cons.mpr ⟨List.mem_of_getElem? (i := 398) (by decide +kernel), List.forall_mem_cons.mpr ⟨List.mem_of_getElem? (i := 5) (by decide +kernel), List.forall_mem_cons.mpr ⟨List.mem_of_getElem? (i := 399) (by decide +kernel), fun _ h => absurd h List.not_mem_nil⟩⟩⟩⟩⟩
theorem zdX6_ofRow : yX6_ofRow.cls ≠ "java/lang/invoke/MethodHandle" ∧ yX6_ofRow.cls ≠ "java/lang/invoke/VarHandle" ∧ (parseMethodDescriptor yX6_ofRow.desc).map (fun d => d.parameters.length) = some 4 := by decide +kernel
theorem zwX6_149 : ∀ w ∈ ([.methodLink RX6 149 yX6_ofRow, .instanceMethod yX6_ofRow, .selects yX6_ofRow.cls yX6_ofRow yX6_ofRow, .initialized yX6_ofRow.cls, .code yX6_ofRow cX6_ofRow 8 (some .int)] : List Cond), w ∈ wsL_law := List.forall_mem_cons.mpr ⟨List.mem_of_getElem? (i := 400) (by decide +kernel), List.forall_mem_cons.mpr ⟨List.mem_of_getElem? (i := 401) (by decide +kernel), List.forall_mem_cons.mpr ⟨List.mem_of_getElem? (i := 402) (by decide +kernel), List.forall_mem_cons.mpr ⟨List.mem_of_getElem? (i := 5) (by decide +kernel), List.forall_mem_cons.mpr ⟨List.mem_of_getElem? (i := 403) (by decide +kernel), fun _ h => absurd h List.not_mem_nil⟩⟩⟩⟩⟩
theorem zdX6_ofPlus : yX6_ofPlus.cls ≠ "java/lang/invoke/MethodHandle" ∧ yX6_ofPlus.cls ≠ "java/lang/invoke/VarHandle" ∧ (parseMethodDescriptor yX6_ofPlus.desc).map (fun d => d.parameters.length) = some 4 := by decide +kernel
theorem zwX6_153 : ∀ w ∈ ([.methodLink RX6 153 yX6_ofPlus, .instanceMethod yX6_ofPlus, .selects yX6_ofPlus.cls yX6_ofPlus yX6_ofPlus, .initialized yX6_ofPlus.cls, .code yX6_ofPlus cX6_ofPlus 8 (some .int)] : List Cond), w ∈ wsL_law := List.forall_mem_cons.mpr ⟨List.mem_of_getElem? (i := 411) (by decide +kernel), List.forall_mem_cons.mpr ⟨List.mem_of_getElem? (i := 412) (by decide +kernel), List.forall_mem_cons.mpr ⟨List.mem_of_getElem? (i := 413) (by decide +kernel), List.forall_mem_cons.mpr ⟨List.mem_of_getElem? (i := 5) (by decide +kernel), List.forall_mem_cons.mpr ⟨List.mem_of_getElem? (i := 414) (by decide +kernel), fun _ h => absurd h List.not_mem_nil⟩⟩⟩⟩⟩
theorem zdX6_ofNode : yX6_ofNode.cls ≠ "java/lang/invoke/MethodHandle" ∧ yX6_ofNode.cls ≠ "java/lang/invoke/VarHandle" ∧ (parseMethodDescriptor yX6_ofNode.desc).map (fun d => d.parameters.length) = some 3 := by decide +kernel
theorem zwX6_156 : ∀ w ∈ ([.methodLink RX6 156 yX6_ofNode, .instanceMethod yX6_ofNode, .selects yX6_ofNode.cls yX6_ofNode yX6_ofNode, .initialized yX6_ofNode.cls, .code yX6_ofNode cX6_ofNode 6 (some .int)] : List Cond), w ∈ wsL_law := List.forall_mem_cons.mpr ⟨List.mem_of_getElem? (i := 392) (by decide +kernel), List.forall_mem_cons.mpr ⟨List.mem_of_getElem? (i := 393) (by decide +kernel), List.forall_mem_cons.mpr ⟨List.mem_of_getElem? (i := 394) (by decide +kernel), List.forall_mem_cons.mpr ⟨List.mem_of_getElem? (i := 5) (by decide +kernel), List.forall_mem_cons.mpr ⟨List.mem_of_getElem? (i := 395) (by decide +kernel), fun _ h => absurd h List.not_mem_nil⟩⟩⟩⟩⟩
theorem zdX6_work : yX6_work.cls ≠ "java/lang/invoke/MethodHandle" ∧ yX6_work.cls ≠ "java/lang/invoke/VarHandle" ∧ (parseMethodDescriptor yX6_work.desc).map (fun d => d.parameters.length) = some 0 := by decide +kernel
theorem zwX6_159 : ∀ w ∈ ([.methodLink RX6 159 yX6_work, .instanceMethod yX6_work, .selects yX6_work.cls yX6_work yX6_work, .initialized yX6_work.cls, .code yX6_work cX6_work 5 none] : List Cond), w ∈ wsL_law := List.forall_mem_cons.mpr ⟨List.mem_of_getElem? (i := 388) (by decide +kernel), List.forall_mem_cons.mpr ⟨List.mem_of_getElem? (i := 389) (by decide +kernel), List.forall_mem_cons.mpr ⟨List.mem_of_getElem? (i := 390) (by decide +kernel), List.forall_mem_cons.mpr ⟨List.mem_of_getElem? (i := 5) (by decide +kernel), List.forall_mem_cons.mpr ⟨List.mem_of_getElem? (i := 391) (by decide +kernel), fun _ h => absurd h List.not_mem_nil⟩⟩⟩⟩⟩
theorem zdX6_cost : yX6_cost.cls ≠ "java/lang/invoke/MethodHandle" ∧ yX6_cost.cls ≠ "java/lang/invoke/VarHandle" ∧ (parseMethodDescriptor yX6_cost.desc).map (fun d => d.parameters.length) = some 2 := by decide +kernel
theorem zwX6_162 : ∀ w ∈ ([.methodLink RX6 162 yX6_cost, .instanceMethod yX6_cost, .selects yX6_cost.cls yX6_cost yX6_cost, .initialized yX6_cost.cls, .code yX6_cost cX6_cost 4 (some .int)] : List Cond), w ∈ wsL_law := List.forall_mem_cons.mpr ⟨List.mem_of_getElem? (i := 427) (by decide +kernel), List.forall_mem_cons.mpr ⟨List.mem_of_getElem? (i := 384) (by decide +kernel), List.forall_mem_cons.mpr ⟨List.mem_of_getElem? (i := 385) (by decide +kernel), List.forall_mem_cons.mpr ⟨List.mem_of_getElem? (i := 5) (by decide +kernel), List.forall_mem_cons.mpr ⟨List.mem_of_getElem? (i := 386) (by decide +kernel), fun _ h => absurd h List.not_mem_nil⟩⟩⟩⟩⟩
theorem zdX6_matches : yX6_matches.cls ≠ "java/lang/invoke/MethodHandle" ∧ yX6_matches.cls ≠ "java/lang/invoke/VarHandle" ∧ (parseMethodDescriptor yX6_matches.desc).map (fun d => d.parameters.length) = some 2 := by decide +kernel
theorem zwX6_165 : ∀ w ∈ ([.methodLink RX6 165 yX6_matches, .instanceMethod yX6_matches, .selects yX6_matches.cls yX6_matches yX6_matches, .initialized yX6_matches.cls, .code yX6_matches cX6_matches 4 (some .boolean)] : List Cond), w ∈ wsL_law := List.forall_mem_cons.mpr ⟨List.mem_of_getElem? (i := 423) (by decide +kernel), List.forall_mem_cons.mpr ⟨List.mem_of_getElem? (i := 424) (by decide +kernel), List.forall_mem_cons.mpr ⟨List.mem_of_getElem? (i := 425) (by decide +kernel), List.forall_mem_cons.mpr ⟨List.mem_of_getElem? (i := 5) (by decide +kernel), List.forall_mem_cons.mpr ⟨List.mem_of_getElem? (i := 426) (by decide +kernel), fun _ h => absurd h List.not_mem_nil⟩⟩⟩⟩⟩
theorem zdX6_before : yX6_before.cls ≠ "java/lang/invoke/MethodHandle" ∧ yX6_before.cls ≠ "java/lang/invoke/VarHandle" ∧ (parseMethodDescriptor yX6_before.desc).map (fun d => d.parameters.length) = some 5 := by decide +kernel
theorem zwX6_169 : ∀ w ∈ ([.methodLink RX6 169 yX6_before, .instanceMethod yX6_before, .selects yX6_before.cls yX6_before yX6_before, .initialized yX6_before.cls, .code yX6_before cX6_before 8 (some .boolean)] : List Cond), w ∈ wsL_law := List.forall_mem_cons.mpr ⟨List.mem_of_getElem? (i := 428) (by decide +kernel), List.forall_mem_cons.mpr ⟨List.mem_of_getElem? (i := 429) (by decide +kernel), List.forall_mem_cons.mpr ⟨List.mem_of_getElem? (i := 430) (by decide +kernel), List.forall_mem_cons.mpr ⟨List.mem_of_getElem? (i := 5) (by decide +kernel), List.forall_mem_cons.mpr ⟨List.mem_of_getElem? (i := 431) (by decide +kernel), fun _ h => absurd h List.not_mem_nil⟩⟩⟩⟩⟩
theorem zdX6_distance : yX6_distance.cls ≠ "java/lang/invoke/MethodHandle" ∧ yX6_distance.cls ≠ "java/lang/invoke/VarHandle" ∧ (parseMethodDescriptor yX6_distance.desc).map (fun d => d.parameters.length) = some 2 := by decide +kernel
theorem zwX6_176 : ∀ w ∈ ([.methodLink RX6 176 yX6_distance, .instanceMethod yX6_distance, .selects yX6_distance.cls yX6_distance yX6_distance, .initialized yX6_distance.cls, .code yX6_distance cX6_distance 5 (some .int)] : List Cond), w ∈ wsL_law := List.forall_mem_cons.mpr ⟨List.mem_of_getElem? (i := 482) (by decide +kernel), List.forall_mem_cons.mpr ⟨List.mem_of_getElem? (i := 483) (by decide +kernel), List.forall_mem_cons.mpr ⟨List.mem_of_getElem? (i := 484) (by decide +kernel), List.forall_mem_cons.mpr ⟨List.mem_of_getElem? (i := 5) (by decide +kernel), List.forall_mem_cons.mpr ⟨List.mem_of_getElem? (i := 485) (by decide +kernel), fun _ h => absurd h List.not_mem_nil⟩⟩⟩⟩⟩
theorem zdX6_step : yX6_step.cls ≠ "java/lang/invoke/MethodHandle" ∧ yX6_step.cls ≠ "java/lang/invoke/VarHandle" ∧ (parseMethodDescriptor yX6_step.desc).map (fun d => d.parameters.length) = some 4 := by decide +kernel
theorem zwX6_180 : ∀ w ∈ ([.methodLink RX6 180 yX6_step, .instanceMethod yX6_step, .selects yX6_step.cls yX6_step yX6_step, .initialized yX6_step.cls, .code yX6_step cX6_step 8 (some .int)] : List Cond), w ∈ wsL_law := List.forall_mem_cons.mpr ⟨List.mem_of_getElem? (i := 486) (by decide +kernel), List.forall_mem_cons.mpr ⟨List.mem_of_getElem? (i := 487) (by decide +kernel), List.forall_mem_cons.mpr ⟨List.mem_of_getElem? (i := 488) (by decide +kernel), List.forall_mem_cons.mpr ⟨List.mem_of_getElem? (i := 5) (by decide +kernel), List.forall_mem_cons.mpr ⟨List.mem_of_getElem? (i := 489) (by decide +kernel), fun _ h => absurd h List.not_mem_nil⟩⟩⟩⟩⟩
theorem zdX6_earlier : yX6_earlier.cls ≠ "java/lang/invoke/MethodHandle" ∧ yX6_earlier.cls ≠ "java/lang/invoke/VarHandle" ∧ (parseMethodDescriptor yX6_earlier.desc).map (fun d => d.parameters.length) = some 2 := by decide +kernel
theorem zwX6_184 : ∀ w ∈ ([.methodLink RX6 184 yX6_earlier, .instanceMethod yX6_earlier, .selects yX6_earlier.cls yX6_earlier yX6_earlier, .initialized yX6_earlier.cls, .code yX6_earlier cX6_earlier 4 (some .boolean)] : List Cond), w ∈ wsL_law := List.forall_mem_cons.mpr ⟨List.mem_of_getElem? (i := 548) (by decide +kernel), List.forall_mem_cons.mpr ⟨List.mem_of_getElem? (i := 549) (by decide +kernel), List.forall_mem_cons.mpr ⟨List.mem_of_getElem? (i := 550) (by decide +kernel), List.forall_mem_cons.mpr ⟨List.mem_of_getElem? (i := 5) (by decide +kernel), List.forall_mem_cons.mpr ⟨List.mem_of_getElem? (i := 551) (by decide +kernel), fun _ h => absurd h List.not_mem_nil⟩⟩⟩⟩⟩
theorem zxX2_93 : Cond.constant RX2 93 (67108863) ∈ wsL_law := List.mem_of_getElem? (i := 138) (by decide +kernel)
theorem zxX6_102 : Cond.constant RX6 102 (67108863) ∈ wsL_law := List.mem_of_getElem? (i := 242) (by decide +kernel)
theorem zxX5_109 : Cond.constant RX5 109 (268435456) ∈ wsL_law := List.mem_of_getElem? (i := 333) (by decide +kernel)
theorem zxX0_48 : Cond.constant RX0 48 (268435456) ∈ wsL_law := List.mem_of_getElem? (i := 359) (by decide +kernel)
theorem zxX6_138 : Cond.constant RX6 138 (1000000) ∈ wsL_law := List.mem_of_getElem? (i := 387) (by decide +kernel)
end
section
theorem dX6_init_0 : decode cX6_init 0 = .ok (.aload_n 0, 1) := by decide +kernel
theorem dX6_init_1 : decode cX6_init 1 = .ok (.invokespecial 1, 3) := by decide +kernel
theorem dX6_init_4 : decode cX6_init 4 = .ok (.aload_n 0, 1) := by decide +kernel
theorem dX6_init_5 : decode cX6_init 5 = .ok (.bipush 40, 2) := by decide +kernel
theorem dX6_init_7 : decode cX6_init 7 = .ok (.newarray .int, 2) := by decide +kernel
theorem dX6_init_9 : decode cX6_init 9 = .ok (.putfield 7, 3) := by decide +kernel
theorem dX6_init_12 : decode cX6_init 12 = .ok (.aload_n 0, 1) := by decide +kernel
theorem dX6_init_13 : decode cX6_init 13 = .ok (.bipush 24, 2) := by decide +kernel
theorem dX6_init_15 : decode cX6_init 15 = .ok (.newarray .int, 2) := by decide +kernel
theorem dX6_init_17 : decode cX6_init 17 = .ok (.putfield 13, 3) := by decide +kernel
theorem dX6_init_20 : decode cX6_init 20 = .ok (.aload_n 0, 1) := by decide +kernel
theorem dX6_init_21 : decode cX6_init 21 = .ok (.bipush 24, 2) := by decide +kernel
theorem dX6_init_23 : decode cX6_init 23 = .ok (.newarray .int, 2) := by decide +kernel
theorem dX6_init_25 : decode cX6_init 25 = .ok (.putfield 16, 3) := by decide +kernel
theorem dX6_init_28 : decode cX6_init 28 = .ok (.aload_n 0, 1) := by decide +kernel
theorem dX6_init_29 : decode cX6_init 29 = .ok (.bipush 24, 2) := by decide +kernel
theorem dX6_init_31 : decode cX6_init 31 = .ok (.newarray .int, 2) := by decide +kernel
theorem dX6_init_33 : decode cX6_init 33 = .ok (.putfield 19, 3) := by decide +kernel
theorem dX6_init_36 : decode cX6_init 36 = .ok (.aload_n 0, 1) := by decide +kernel
theorem dX6_init_37 : decode cX6_init 37 = .ok (.bipush 80, 2) := by decide +kernel
theorem dX6_init_39 : decode cX6_init 39 = .ok (.newarray .int, 2) := by decide +kernel
theorem dX6_init_41 : decode cX6_init 41 = .ok (.putfield 22, 3) := by decide +kernel
theorem dX6_init_44 : decode cX6_init 44 = .ok (.aload_n 0, 1) := by decide +kernel
theorem dX6_init_45 : decode cX6_init 45 = .ok (.bipush 80, 2) := by decide +kernel
theorem dX6_init_47 : decode cX6_init 47 = .ok (.newarray .int, 2) := by decide +kernel
theorem dX6_init_49 : decode cX6_init 49 = .ok (.putfield 25, 3) := by decide +kernel
theorem dX6_init_52 : decode cX6_init 52 = .ok (.aload_n 0, 1) := by decide +kernel
theorem dX6_init_53 : decode cX6_init 53 = .ok (.bipush 80, 2) := by decide +kernel
theorem dX6_init_55 : decode cX6_init 55 = .ok (.newarray .int, 2) := by decide +kernel
theorem dX6_init_57 : decode cX6_init 57 = .ok (.putfield 28, 3) := by decide +kernel
theorem dX6_init_60 : decode cX6_init 60 = .ok (.aload_n 0, 1) := by decide +kernel
theorem dX6_init_61 : decode cX6_init 61 = .ok (.bipush 80, 2) := by decide +kernel
theorem dX6_init_63 : decode cX6_init 63 = .ok (.newarray .int, 2) := by decide +kernel
theorem dX6_init_65 : decode cX6_init 65 = .ok (.putfield 31, 3) := by decide +kernel
theorem dX6_init_68 : decode cX6_init 68 = .ok (.aload_n 0, 1) := by decide +kernel
theorem dX6_init_69 : decode cX6_init 69 = .ok (.bipush 80, 2) := by decide +kernel
theorem dX6_init_71 : decode cX6_init 71 = .ok (.newarray .int, 2) := by decide +kernel
theorem dX6_init_73 : decode cX6_init 73 = .ok (.putfield 34, 3) := by decide +kernel
theorem dX6_init_76 : decode cX6_init 76 = .ok (.aload_n 0, 1) := by decide +kernel
theorem dX6_init_77 : decode cX6_init 77 = .ok (.iconst 1, 1) := by decide +kernel
theorem dX6_init_78 : decode cX6_init 78 = .ok (.putfield 37, 3) := by decide +kernel
theorem dX6_init_81 : decode cX6_init 81 = .ok (.aload_n 0, 1) := by decide +kernel
theorem dX6_init_82 : decode cX6_init 82 = .ok (.iconst 1, 1) := by decide +kernel
theorem dX6_init_83 : decode cX6_init 83 = .ok (.putfield 41, 3) := by decide +kernel
theorem dX6_init_86 : decode cX6_init 86 = .ok (.aload_n 0, 1) := by decide +kernel
theorem dX6_init_87 : decode cX6_init 87 = .ok (.iconst 1, 1) := by decide +kernel
theorem dX6_init_88 : decode cX6_init 88 = .ok (.putfield 44, 3) := by decide +kernel
theorem dX6_init_91 : decode cX6_init 91 = .ok (.aload_n 0, 1) := by decide +kernel
theorem dX6_init_92 : decode cX6_init 92 = .ok (.bipush 24, 2) := by decide +kernel
theorem dX6_init_94 : decode cX6_init 94 = .ok (.newarray .int, 2) := by decide +kernel
theorem dX6_init_96 : decode cX6_init 96 = .ok (.putfield 47, 3) := by decide +kernel
theorem dX6_init_99 : decode cX6_init 99 = .ok (.aload_n 0, 1) := by decide +kernel
theorem dX6_init_100 : decode cX6_init 100 = .ok (.sipush 15000, 3) := by decide +kernel
theorem dX6_init_103 : decode cX6_init 103 = .ok (.newarray .int, 2) := by decide +kernel
theorem dX6_init_105 : decode cX6_init 105 = .ok (.putfield 50, 3) := by decide +kernel
theorem dX6_init_108 : decode cX6_init 108 = .ok (.aload_n 0, 1) := by decide +kernel
theorem dX6_init_109 : decode cX6_init 109 = .ok (.iconst (-1), 1) := by decide +kernel
theorem dX6_init_110 : decode cX6_init 110 = .ok (.putfield 53, 3) := by decide +kernel
theorem dX6_init_113 : decode cX6_init 113 = .ok (.aload_n 0, 1) := by decide +kernel
theorem dX6_init_114 : decode cX6_init 114 = .ok (.iconst (-1), 1) := by decide +kernel
theorem dX6_init_115 : decode cX6_init 115 = .ok (.putfield 56, 3) := by decide +kernel
theorem dX6_init_118 : decode cX6_init 118 = .ok (.aload_n 0, 1) := by decide +kernel
theorem dX6_init_119 : decode cX6_init 119 = .ok (.bipush 20, 2) := by decide +kernel
theorem dX6_init_121 : decode cX6_init 121 = .ok (.newarray .int, 2) := by decide +kernel
theorem dX6_init_123 : decode cX6_init 123 = .ok (.putfield 59, 3) := by decide +kernel
theorem dX6_init_126 : decode cX6_init 126 = .ok (.aload_n 0, 1) := by decide +kernel
theorem dX6_init_127 : decode cX6_init 127 = .ok (.sipush 240, 3) := by decide +kernel
theorem dX6_init_130 : decode cX6_init 130 = .ok (.newarray .int, 2) := by decide +kernel
theorem dX6_init_132 : decode cX6_init 132 = .ok (.putfield 62, 3) := by decide +kernel
theorem dX6_init_135 : decode cX6_init 135 = .ok (.aload_n 0, 1) := by decide +kernel
theorem dX6_init_136 : decode cX6_init 136 = .ok (.sipush 325, 3) := by decide +kernel
theorem dX6_init_139 : decode cX6_init 139 = .ok (.newarray .int, 2) := by decide +kernel
theorem dX6_init_141 : decode cX6_init 141 = .ok (.putfield 65, 3) := by decide +kernel
theorem dX6_init_144 : decode cX6_init 144 = .ok (.return_, 1) := by decide +kernel
theorem dX6_type_0 : decode cX6_type 0 = .ok (.iload_n 1, 1) := by decide +kernel
theorem dX6_type_1 : decode cX6_type 1 = .ok (.bipush 33, 2) := by decide +kernel
theorem dX6_type_3 : decode cX6_type 3 = .ok (.if_icmp .lt 18, 3) := by decide +kernel
theorem dX6_type_6 : decode cX6_type 6 = .ok (.iload_n 1, 1) := by decide +kernel
theorem dX6_type_7 : decode cX6_type 7 = .ok (.bipush 126, 2) := by decide +kernel
theorem dX6_type_9 : decode cX6_type 9 = .ok (.if_icmp .gt 12, 3) := by decide +kernel
theorem dX6_type_12 : decode cX6_type 12 = .ok (.aload_n 0, 1) := by decide +kernel
theorem dX6_type_13 : decode cX6_type 13 = .ok (.getfield 68, 3) := by decide +kernel
theorem dX6_type_16 : decode cX6_type 16 = .ok (.bipush 40, 2) := by decide +kernel
theorem dX6_type_18 : decode cX6_type 18 = .ok (.if_icmp .ne 5, 3) := by decide +kernel
theorem dX6_type_21 : decode cX6_type 21 = .ok (.iconst 0, 1) := by decide +kernel
theorem dX6_type_22 : decode cX6_type 22 = .ok (.ireturn, 1) := by decide +kernel
theorem dX6_type_23 : decode cX6_type 23 = .ok (.aload_n 0, 1) := by decide +kernel
theorem dX6_type_24 : decode cX6_type 24 = .ok (.getfield 7, 3) := by decide +kernel
theorem dX6_type_27 : decode cX6_type 27 = .ok (.aload_n 0, 1) := by decide +kernel
theorem dX6_type_28 : decode cX6_type 28 = .ok (.getfield 68, 3) := by decide +kernel
theorem dX6_type_31 : decode cX6_type 31 = .ok (.iload_n 1, 1) := by decide +kernel
theorem dX6_type_32 : decode cX6_type 32 = .ok (.iastore, 1) := by decide +kernel
theorem dX6_type_33 : decode cX6_type 33 = .ok (.aload_n 0, 1) := by decide +kernel
theorem dX6_type_34 : decode cX6_type 34 = .ok (.dup, 1) := by decide +kernel
theorem dX6_type_35 : decode cX6_type 35 = .ok (.getfield 68, 3) := by decide +kernel
theorem dX6_type_38 : decode cX6_type 38 = .ok (.iconst 1, 1) := by decide +kernel
theorem dX6_type_39 : decode cX6_type 39 = .ok (.iadd, 1) := by decide +kernel
theorem dX6_type_40 : decode cX6_type 40 = .ok (.putfield 68, 3) := by decide +kernel
theorem dX6_type_43 : decode cX6_type 43 = .ok (.iconst 1, 1) := by decide +kernel
theorem dX6_type_44 : decode cX6_type 44 = .ok (.ireturn, 1) := by decide +kernel
theorem dX6_small_0 : decode cX6_small 0 = .ok (.iload_n 0, 1) := by decide +kernel
theorem dX6_small_1 : decode cX6_small 1 = .ok (.bipush 97, 2) := by decide +kernel
theorem dX6_small_3 : decode cX6_small 3 = .ok (.if_icmp .lt 13, 3) := by decide +kernel
theorem dX6_small_6 : decode cX6_small 6 = .ok (.iload_n 0, 1) := by decide +kernel
theorem dX6_small_7 : decode cX6_small 7 = .ok (.bipush 122, 2) := by decide +kernel
theorem dX6_small_9 : decode cX6_small 9 = .ok (.if_icmp .gt 7, 3) := by decide +kernel
theorem dX6_small_12 : decode cX6_small 12 = .ok (.iconst 1, 1) := by decide +kernel
theorem dX6_small_13 : decode cX6_small 13 = .ok (.goto 4, 3) := by decide +kernel
theorem dX6_small_16 : decode cX6_small 16 = .ok (.iconst 0, 1) := by decide +kernel
theorem dX6_small_17 : decode cX6_small 17 = .ok (.ireturn, 1) := by decide +kernel
theorem dX6_next_0 : decode cX6_next 0 = .ok (.iload_n 0, 1) := by decide +kernel
theorem dX6_next_1 : decode cX6_next 1 = .ok (.iconst 2, 1) := by decide +kernel
theorem dX6_next_2 : decode cX6_next 2 = .ok (.if_icmp .eq 13, 3) := by decide +kernel
theorem dX6_next_5 : decode cX6_next 5 = .ok (.iload_n 0, 1) := by decide +kernel
theorem dX6_next_6 : decode cX6_next 6 = .ok (.iconst 3, 1) := by decide +kernel
theorem dX6_next_7 : decode cX6_next 7 = .ok (.if_icmp .eq 8, 3) := by decide +kernel
theorem dX6_next_10 : decode cX6_next 10 = .ok (.iload_n 0, 1) := by decide +kernel
theorem dX6_next_11 : decode cX6_next 11 = .ok (.iconst 4, 1) := by decide +kernel
theorem dX6_next_12 : decode cX6_next 12 = .ok (.if_icmp .ne 46, 3) := by decide +kernel
theorem dX6_next_15 : decode cX6_next 15 = .ok (.iload_n 1, 1) := by decide +kernel
theorem dX6_next_16 : decode cX6_next 16 = .ok (.invokestatic 71, 3) := by decide +kernel
theorem dX6_next_19 : decode cX6_next 19 = .ok (.ifCond .eq 7, 3) := by decide +kernel
theorem dX6_next_22 : decode cX6_next 22 = .ok (.iconst 4, 1) := by decide +kernel
theorem dX6_next_23 : decode cX6_next 23 = .ok (.goto 34, 3) := by decide +kernel
theorem dX6_next_26 : decode cX6_next 26 = .ok (.iload_n 0, 1) := by decide +kernel
theorem dX6_next_27 : decode cX6_next 27 = .ok (.iconst 2, 1) := by decide +kernel
theorem dX6_next_28 : decode cX6_next 28 = .ok (.if_icmp .ne 13, 3) := by decide +kernel
theorem dX6_next_31 : decode cX6_next 31 = .ok (.iload_n 1, 1) := by decide +kernel
theorem dX6_next_32 : decode cX6_next 32 = .ok (.bipush 94, 2) := by decide +kernel
theorem dX6_next_34 : decode cX6_next 34 = .ok (.if_icmp .ne 7, 3) := by decide +kernel
theorem dX6_next_37 : decode cX6_next 37 = .ok (.iconst 3, 1) := by decide +kernel
theorem dX6_next_38 : decode cX6_next 38 = .ok (.goto 19, 3) := by decide +kernel
theorem dX6_next_41 : decode cX6_next 41 = .ok (.iload_n 0, 1) := by decide +kernel
theorem dX6_next_42 : decode cX6_next 42 = .ok (.iconst 4, 1) := by decide +kernel
theorem dX6_next_43 : decode cX6_next 43 = .ok (.if_icmp .ne 13, 3) := by decide +kernel
theorem dX6_next_46 : decode cX6_next 46 = .ok (.iload_n 1, 1) := by decide +kernel
theorem dX6_next_47 : decode cX6_next 47 = .ok (.bipush 93, 2) := by decide +kernel
theorem dX6_next_49 : decode cX6_next 49 = .ok (.if_icmp .ne 7, 3) := by decide +kernel
theorem dX6_next_52 : decode cX6_next 52 = .ok (.iconst 1, 1) := by decide +kernel
theorem dX6_next_53 : decode cX6_next 53 = .ok (.goto 4, 3) := by decide +kernel
theorem dX6_next_56 : decode cX6_next 56 = .ok (.iconst (-1), 1) := by decide +kernel
theorem dX6_next_57 : decode cX6_next 57 = .ok (.ireturn, 1) := by decide +kernel
theorem dX6_next_58 : decode cX6_next 58 = .ok (.iload_n 1, 1) := by decide +kernel
theorem dX6_next_59 : decode cX6_next 59 = .ok (.bipush 48, 2) := by decide +kernel
theorem dX6_next_61 : decode cX6_next 61 = .ok (.if_icmp .lt 13, 3) := by decide +kernel
theorem dX6_next_64 : decode cX6_next 64 = .ok (.iload_n 1, 1) := by decide +kernel
theorem dX6_next_65 : decode cX6_next 65 = .ok (.bipush 57, 2) := by decide +kernel
theorem dX6_next_67 : decode cX6_next 67 = .ok (.if_icmp .gt 7, 3) := by decide +kernel
theorem dX6_next_70 : decode cX6_next 70 = .ok (.iconst 1, 1) := by decide +kernel
theorem dX6_next_71 : decode cX6_next 71 = .ok (.goto 4, 3) := by decide +kernel
theorem dX6_next_74 : decode cX6_next 74 = .ok (.iconst 0, 1) := by decide +kernel
theorem dX6_next_75 : decode cX6_next 75 = .ok (.istore_n 3, 1) := by decide +kernel
theorem dX6_next_76 : decode cX6_next 76 = .ok (.iload_n 0, 1) := by decide +kernel
theorem dX6_next_77 : decode cX6_next 77 = .ok (.iconst 5, 1) := by decide +kernel
theorem dX6_next_78 : decode cX6_next 78 = .ok (.if_icmp .ne 14, 3) := by decide +kernel
theorem dX6_next_81 : decode cX6_next 81 = .ok (.iload_n 3, 1) := by decide +kernel
theorem dX6_next_82 : decode cX6_next 82 = .ok (.ifCond .eq 8, 3) := by decide +kernel
theorem dX6_next_85 : decode cX6_next 85 = .ok (.bipush 6, 2) := by decide +kernel
theorem dX6_next_87 : decode cX6_next 87 = .ok (.goto 4, 3) := by decide +kernel
theorem dX6_next_90 : decode cX6_next 90 = .ok (.iconst (-1), 1) := by decide +kernel
theorem dX6_next_91 : decode cX6_next 91 = .ok (.ireturn, 1) := by decide +kernel
theorem dX6_next_92 : decode cX6_next 92 = .ok (.iload_n 0, 1) := by decide +kernel
theorem dX6_next_93 : decode cX6_next 93 = .ok (.bipush 6, 2) := by decide +kernel
theorem dX6_next_95 : decode cX6_next 95 = .ok (.if_icmp .ne 9, 3) := by decide +kernel
theorem dX6_next_98 : decode cX6_next 98 = .ok (.iload_n 3, 1) := by decide +kernel
theorem dX6_next_99 : decode cX6_next 99 = .ok (.ifCond .eq 5, 3) := by decide +kernel
theorem dX6_next_102 : decode cX6_next 102 = .ok (.iconst 1, 1) := by decide +kernel
theorem dX6_next_103 : decode cX6_next 103 = .ok (.ireturn, 1) := by decide +kernel
theorem dX6_next_104 : decode cX6_next 104 = .ok (.iload_n 1, 1) := by decide +kernel
theorem dX6_next_105 : decode cX6_next 105 = .ok (.invokestatic 71, 3) := by decide +kernel
theorem dX6_next_108 : decode cX6_next 108 = .ok (.ifCond .ne 9, 3) := by decide +kernel
theorem dX6_next_111 : decode cX6_next 111 = .ok (.iload_n 1, 1) := by decide +kernel
theorem dX6_next_112 : decode cX6_next 112 = .ok (.bipush 46, 2) := by decide +kernel
theorem dX6_next_114 : decode cX6_next 114 = .ok (.if_icmp .ne 5, 3) := by decide +kernel
theorem dX6_next_117 : decode cX6_next 117 = .ok (.iconst 1, 1) := by decide +kernel
theorem dX6_next_118 : decode cX6_next 118 = .ok (.ireturn, 1) := by decide +kernel
theorem dX6_next_119 : decode cX6_next 119 = .ok (.iload_n 1, 1) := by decide +kernel
theorem dX6_next_120 : decode cX6_next 120 = .ok (.bipush 91, 2) := by decide +kernel
theorem dX6_next_122 : decode cX6_next 122 = .ok (.if_icmp .ne 5, 3) := by decide +kernel
theorem dX6_next_125 : decode cX6_next 125 = .ok (.iconst 2, 1) := by decide +kernel
theorem dX6_next_126 : decode cX6_next 126 = .ok (.ireturn, 1) := by decide +kernel
theorem dX6_next_127 : decode cX6_next 127 = .ok (.iload_n 1, 1) := by decide +kernel
theorem dX6_next_128 : decode cX6_next 128 = .ok (.bipush 40, 2) := by decide +kernel
theorem dX6_next_130 : decode cX6_next 130 = .ok (.if_icmp .ne 15, 3) := by decide +kernel
theorem dX6_next_133 : decode cX6_next 133 = .ok (.iload_n 2, 1) := by decide +kernel
theorem dX6_next_134 : decode cX6_next 134 = .ok (.bipush 6, 2) := by decide +kernel
theorem dX6_next_136 : decode cX6_next 136 = .ok (.if_icmp .ge 7, 3) := by decide +kernel
theorem dX6_next_139 : decode cX6_next 139 = .ok (.iconst 0, 1) := by decide +kernel
theorem dX6_next_140 : decode cX6_next 140 = .ok (.goto 4, 3) := by decide +kernel
theorem dX6_next_143 : decode cX6_next 143 = .ok (.iconst (-1), 1) := by decide +kernel
theorem dX6_next_144 : decode cX6_next 144 = .ok (.ireturn, 1) := by decide +kernel
theorem dX6_next_145 : decode cX6_next 145 = .ok (.iload_n 0, 1) := by decide +kernel
theorem dX6_next_146 : decode cX6_next 146 = .ok (.ifCond .ne 5, 3) := by decide +kernel
theorem dX6_next_149 : decode cX6_next 149 = .ok (.iconst (-1), 1) := by decide +kernel
theorem dX6_next_150 : decode cX6_next 150 = .ok (.ireturn, 1) := by decide +kernel
theorem dX6_next_151 : decode cX6_next 151 = .ok (.iload_n 1, 1) := by decide +kernel
theorem dX6_next_152 : decode cX6_next 152 = .ok (.bipush 42, 2) := by decide +kernel
theorem dX6_next_154 : decode cX6_next 154 = .ok (.if_icmp .eq 15, 3) := by decide +kernel
theorem dX6_next_157 : decode cX6_next 157 = .ok (.iload_n 1, 1) := by decide +kernel
theorem dX6_next_158 : decode cX6_next 158 = .ok (.bipush 43, 2) := by decide +kernel
theorem dX6_next_160 : decode cX6_next 160 = .ok (.if_icmp .eq 9, 3) := by decide +kernel
theorem dX6_next_163 : decode cX6_next 163 = .ok (.iload_n 1, 1) := by decide +kernel
theorem dX6_next_164 : decode cX6_next 164 = .ok (.bipush 63, 2) := by decide +kernel
theorem dX6_next_166 : decode cX6_next 166 = .ok (.if_icmp .ne 5, 3) := by decide +kernel
theorem dX6_next_169 : decode cX6_next 169 = .ok (.iconst 1, 1) := by decide +kernel
theorem dX6_next_170 : decode cX6_next 170 = .ok (.ireturn, 1) := by decide +kernel
theorem dX6_next_171 : decode cX6_next 171 = .ok (.iload_n 1, 1) := by decide +kernel
theorem dX6_next_172 : decode cX6_next 172 = .ok (.bipush 60, 2) := by decide +kernel
theorem dX6_next_174 : decode cX6_next 174 = .ok (.if_icmp .ne 7, 3) := by decide +kernel
theorem dX6_next_177 : decode cX6_next 177 = .ok (.iconst 5, 1) := by decide +kernel
theorem dX6_next_178 : decode cX6_next 178 = .ok (.goto 28, 3) := by decide +kernel
theorem dX6_next_181 : decode cX6_next 181 = .ok (.iload_n 1, 1) := by decide +kernel
theorem dX6_next_182 : decode cX6_next 182 = .ok (.bipush 124, 2) := by decide +kernel
theorem dX6_next_184 : decode cX6_next 184 = .ok (.if_icmp .ne 7, 3) := by decide +kernel
theorem dX6_next_187 : decode cX6_next 187 = .ok (.iconst 0, 1) := by decide +kernel
theorem dX6_next_188 : decode cX6_next 188 = .ok (.goto 18, 3) := by decide +kernel
theorem dX6_next_191 : decode cX6_next 191 = .ok (.iload_n 1, 1) := by decide +kernel
theorem dX6_next_192 : decode cX6_next 192 = .ok (.bipush 41, 2) := by decide +kernel
theorem dX6_next_194 : decode cX6_next 194 = .ok (.if_icmp .ne 11, 3) := by decide +kernel
theorem dX6_next_197 : decode cX6_next 197 = .ok (.iload_n 2, 1) := by decide +kernel
theorem dX6_next_198 : decode cX6_next 198 = .ok (.ifCond .le 7, 3) := by decide +kernel
theorem dX6_next_201 : decode cX6_next 201 = .ok (.iconst 1, 1) := by decide +kernel
theorem dX6_next_202 : decode cX6_next 202 = .ok (.goto 4, 3) := by decide +kernel
theorem dX6_next_205 : decode cX6_next 205 = .ok (.iconst (-1), 1) := by decide +kernel
theorem dX6_next_206 : decode cX6_next 206 = .ok (.ireturn, 1) := by decide +kernel
theorem dX6_fault_0 : decode cX6_fault 0 = .ok (.iconst 0, 1) := by decide +kernel
theorem dX6_fault_1 : decode cX6_fault 1 = .ok (.istore_n 1, 1) := by decide +kernel
theorem dX6_fault_2 : decode cX6_fault 2 = .ok (.iconst 0, 1) := by decide +kernel
theorem dX6_fault_3 : decode cX6_fault 3 = .ok (.istore_n 2, 1) := by decide +kernel
theorem dX6_fault_4 : decode cX6_fault 4 = .ok (.iconst 0, 1) := by decide +kernel
theorem dX6_fault_5 : decode cX6_fault 5 = .ok (.istore_n 3, 1) := by decide +kernel
theorem dX6_fault_6 : decode cX6_fault 6 = .ok (.iload_n 3, 1) := by decide +kernel
theorem dX6_fault_7 : decode cX6_fault 7 = .ok (.aload_n 0, 1) := by decide +kernel
theorem dX6_fault_8 : decode cX6_fault 8 = .ok (.getfield 68, 3) := by decide +kernel
theorem dX6_fault_11 : decode cX6_fault 11 = .ok (.if_icmp .ge 93, 3) := by decide +kernel
theorem dX6_fault_14 : decode cX6_fault 14 = .ok (.iload_n 1, 1) := by decide +kernel
theorem dX6_fault_15 : decode cX6_fault 15 = .ok (.istore 4, 2) := by decide +kernel
theorem dX6_fault_17 : decode cX6_fault 17 = .ok (.iload_n 1, 1) := by decide +kernel
theorem dX6_fault_18 : decode cX6_fault 18 = .ok (.aload_n 0, 1) := by decide +kernel
theorem dX6_fault_19 : decode cX6_fault 19 = .ok (.getfield 7, 3) := by decide +kernel
theorem dX6_fault_22 : decode cX6_fault 22 = .ok (.iload_n 3, 1) := by decide +kernel
theorem dX6_fault_23 : decode cX6_fault 23 = .ok (.iaload, 1) := by decide +kernel
theorem dX6_fault_24 : decode cX6_fault 24 = .ok (.iload_n 2, 1) := by decide +kernel
theorem dX6_fault_25 : decode cX6_fault 25 = .ok (.invokestatic 75, 3) := by decide +kernel
theorem dX6_fault_28 : decode cX6_fault 28 = .ok (.istore_n 1, 1) := by decide +kernel
theorem dX6_fault_29 : decode cX6_fault 29 = .ok (.iload_n 1, 1) := by decide +kernel
theorem dX6_fault_30 : decode cX6_fault 30 = .ok (.ifCond .ge 5, 3) := by decide +kernel
theorem dX6_fault_33 : decode cX6_fault 33 = .ok (.iload_n 3, 1) := by decide +kernel
theorem dX6_fault_34 : decode cX6_fault 34 = .ok (.ireturn, 1) := by decide +kernel
theorem dX6_fault_35 : decode cX6_fault 35 = .ok (.iload 4, 2) := by decide +kernel
theorem dX6_fault_37 : decode cX6_fault 37 = .ok (.iconst 2, 1) := by decide +kernel
theorem dX6_fault_38 : decode cX6_fault 38 = .ok (.if_icmp .lt 9, 3) := by decide +kernel
theorem dX6_fault_41 : decode cX6_fault 41 = .ok (.iload 4, 2) := by decide +kernel
theorem dX6_fault_43 : decode cX6_fault 43 = .ok (.iconst 4, 1) := by decide +kernel
theorem dX6_fault_44 : decode cX6_fault 44 = .ok (.if_icmp .le 7, 3) := by decide +kernel
theorem dX6_fault_47 : decode cX6_fault 47 = .ok (.iconst 1, 1) := by decide +kernel
theorem dX6_fault_48 : decode cX6_fault 48 = .ok (.goto 4, 3) := by decide +kernel
theorem dX6_fault_51 : decode cX6_fault 51 = .ok (.iconst 0, 1) := by decide +kernel
theorem dX6_fault_52 : decode cX6_fault 52 = .ok (.istore 5, 2) := by decide +kernel
theorem dX6_fault_54 : decode cX6_fault 54 = .ok (.iload_n 2, 1) := by decide +kernel
theorem dX6_fault_55 : decode cX6_fault 55 = .ok (.iload 5, 2) := by decide +kernel
theorem dX6_fault_57 : decode cX6_fault 57 = .ok (.ifCond .eq 18, 3) := by decide +kernel
theorem dX6_fault_60 : decode cX6_fault 60 = .ok (.aload_n 0, 1) := by decide +kernel
theorem dX6_fault_61 : decode cX6_fault 61 = .ok (.getfield 7, 3) := by decide +kernel
theorem dX6_fault_64 : decode cX6_fault 64 = .ok (.iload_n 3, 1) := by decide +kernel
theorem dX6_fault_65 : decode cX6_fault 65 = .ok (.iaload, 1) := by decide +kernel
theorem dX6_fault_66 : decode cX6_fault 66 = .ok (.bipush 40, 2) := by decide +kernel
theorem dX6_fault_68 : decode cX6_fault 68 = .ok (.if_icmp .ne 7, 3) := by decide +kernel
theorem dX6_fault_71 : decode cX6_fault 71 = .ok (.iconst 1, 1) := by decide +kernel
theorem dX6_fault_72 : decode cX6_fault 72 = .ok (.goto 24, 3) := by decide +kernel
theorem dX6_fault_75 : decode cX6_fault 75 = .ok (.iload 5, 2) := by decide +kernel
theorem dX6_fault_77 : decode cX6_fault 77 = .ok (.ifCond .eq 18, 3) := by decide +kernel
theorem dX6_fault_80 : decode cX6_fault 80 = .ok (.aload_n 0, 1) := by decide +kernel
theorem dX6_fault_81 : decode cX6_fault 81 = .ok (.getfield 7, 3) := by decide +kernel
theorem dX6_fault_84 : decode cX6_fault 84 = .ok (.iload_n 3, 1) := by decide +kernel
theorem dX6_fault_85 : decode cX6_fault 85 = .ok (.iaload, 1) := by decide +kernel
theorem dX6_fault_86 : decode cX6_fault 86 = .ok (.bipush 41, 2) := by decide +kernel
theorem dX6_fault_88 : decode cX6_fault 88 = .ok (.if_icmp .ne 7, 3) := by decide +kernel
theorem dX6_fault_91 : decode cX6_fault 91 = .ok (.iconst (-1), 1) := by decide +kernel
theorem dX6_fault_92 : decode cX6_fault 92 = .ok (.goto 4, 3) := by decide +kernel
theorem dX6_fault_95 : decode cX6_fault 95 = .ok (.iconst 0, 1) := by decide +kernel
theorem dX6_fault_96 : decode cX6_fault 96 = .ok (.iadd, 1) := by decide +kernel
theorem dX6_fault_97 : decode cX6_fault 97 = .ok (.istore_n 2, 1) := by decide +kernel
theorem dX6_fault_98 : decode cX6_fault 98 = .ok (.iinc 3 1, 3) := by decide +kernel
theorem dX6_fault_101 : decode cX6_fault 101 = .ok (.goto (-95), 3) := by decide +kernel
theorem dX6_fault_104 : decode cX6_fault 104 = .ok (.iload_n 2, 1) := by decide +kernel
theorem dX6_fault_105 : decode cX6_fault 105 = .ok (.ifCond .ne 18, 3) := by decide +kernel
theorem dX6_fault_108 : decode cX6_fault 108 = .ok (.iload_n 1, 1) := by decide +kernel
theorem dX6_fault_109 : decode cX6_fault 109 = .ok (.iconst 1, 1) := by decide +kernel
theorem dX6_fault_110 : decode cX6_fault 110 = .ok (.if_icmp .eq 9, 3) := by decide +kernel
theorem dX6_fault_113 : decode cX6_fault 113 = .ok (.iload_n 1, 1) := by decide +kernel
theorem dX6_fault_114 : decode cX6_fault 114 = .ok (.bipush 6, 2) := by decide +kernel
theorem dX6_fault_116 : decode cX6_fault 116 = .ok (.if_icmp .ne 7, 3) := by decide +kernel
theorem dX6_fault_119 : decode cX6_fault 119 = .ok (.iconst (-1), 1) := by decide +kernel
theorem dX6_fault_120 : decode cX6_fault 120 = .ok (.goto 7, 3) := by decide +kernel
theorem dX6_fault_123 : decode cX6_fault 123 = .ok (.aload_n 0, 1) := by decide +kernel
theorem dX6_fault_124 : decode cX6_fault 124 = .ok (.getfield 68, 3) := by decide +kernel
theorem dX6_fault_127 : decode cX6_fault 127 = .ok (.ireturn, 1) := by decide +kernel
theorem dX6_make_0 : decode cX6_make 0 = .ok (.aload_n 0, 1) := by decide +kernel
theorem dX6_make_1 : decode cX6_make 1 = .ok (.getfield 22, 3) := by decide +kernel
theorem dX6_make_4 : decode cX6_make 4 = .ok (.aload_n 0, 1) := by decide +kernel
theorem dX6_make_5 : decode cX6_make 5 = .ok (.getfield 79, 3) := by decide +kernel
theorem dX6_make_8 : decode cX6_make 8 = .ok (.iload_n 1, 1) := by decide +kernel
theorem dX6_make_9 : decode cX6_make 9 = .ok (.iastore, 1) := by decide +kernel
theorem dX6_make_10 : decode cX6_make 10 = .ok (.aload_n 0, 1) := by decide +kernel
theorem dX6_make_11 : decode cX6_make 11 = .ok (.getfield 25, 3) := by decide +kernel
theorem dX6_make_14 : decode cX6_make 14 = .ok (.aload_n 0, 1) := by decide +kernel
theorem dX6_make_15 : decode cX6_make 15 = .ok (.getfield 79, 3) := by decide +kernel
theorem dX6_make_18 : decode cX6_make 18 = .ok (.iload_n 2, 1) := by decide +kernel
theorem dX6_make_19 : decode cX6_make 19 = .ok (.iastore, 1) := by decide +kernel
theorem dX6_make_20 : decode cX6_make 20 = .ok (.aload_n 0, 1) := by decide +kernel
theorem dX6_make_21 : decode cX6_make 21 = .ok (.getfield 28, 3) := by decide +kernel
theorem dX6_make_24 : decode cX6_make 24 = .ok (.aload_n 0, 1) := by decide +kernel
theorem dX6_make_25 : decode cX6_make 25 = .ok (.getfield 79, 3) := by decide +kernel
theorem dX6_make_28 : decode cX6_make 28 = .ok (.iload_n 3, 1) := by decide +kernel
theorem dX6_make_29 : decode cX6_make 29 = .ok (.iastore, 1) := by decide +kernel
theorem dX6_make_30 : decode cX6_make 30 = .ok (.aload_n 0, 1) := by decide +kernel
theorem dX6_make_31 : decode cX6_make 31 = .ok (.getfield 34, 3) := by decide +kernel
theorem dX6_make_34 : decode cX6_make 34 = .ok (.aload_n 0, 1) := by decide +kernel
theorem dX6_make_35 : decode cX6_make 35 = .ok (.getfield 82, 3) := by decide +kernel
theorem dX6_make_38 : decode cX6_make 38 = .ok (.aload_n 0, 1) := by decide +kernel
theorem dX6_make_39 : decode cX6_make 39 = .ok (.getfield 79, 3) := by decide +kernel
theorem dX6_make_42 : decode cX6_make 42 = .ok (.iastore, 1) := by decide +kernel
theorem dX6_make_43 : decode cX6_make 43 = .ok (.aload_n 0, 1) := by decide +kernel
theorem dX6_make_44 : decode cX6_make 44 = .ok (.dup, 1) := by decide +kernel
theorem dX6_make_45 : decode cX6_make 45 = .ok (.getfield 82, 3) := by decide +kernel
theorem dX6_make_48 : decode cX6_make 48 = .ok (.iconst 1, 1) := by decide +kernel
theorem dX6_make_49 : decode cX6_make 49 = .ok (.iadd, 1) := by decide +kernel
theorem dX6_make_50 : decode cX6_make 50 = .ok (.putfield 82, 3) := by decide +kernel
theorem dX6_make_53 : decode cX6_make 53 = .ok (.aload_n 0, 1) := by decide +kernel
theorem dX6_make_54 : decode cX6_make 54 = .ok (.dup, 1) := by decide +kernel
theorem dX6_make_55 : decode cX6_make 55 = .ok (.getfield 79, 3) := by decide +kernel
theorem dX6_make_58 : decode cX6_make 58 = .ok (.iconst 1, 1) := by decide +kernel
theorem dX6_make_59 : decode cX6_make 59 = .ok (.iadd, 1) := by decide +kernel
theorem dX6_make_60 : decode cX6_make 60 = .ok (.putfield 79, 3) := by decide +kernel
theorem dX6_make_63 : decode cX6_make 63 = .ok (.return_, 1) := by decide +kernel
theorem dX6_join_0 : decode cX6_join 0 = .ok (.aload_n 0, 1) := by decide +kernel
theorem dX6_join_1 : decode cX6_join 1 = .ok (.getfield 85, 3) := by decide +kernel
theorem dX6_join_4 : decode cX6_join 4 = .ok (.ifCond .le 99, 3) := by decide +kernel
theorem dX6_join_7 : decode cX6_join 7 = .ok (.aload_n 0, 1) := by decide +kernel
theorem dX6_join_8 : decode cX6_join 8 = .ok (.getfield 31, 3) := by decide +kernel
theorem dX6_join_11 : decode cX6_join 11 = .ok (.aload_n 0, 1) := by decide +kernel
theorem dX6_join_12 : decode cX6_join 12 = .ok (.getfield 85, 3) := by decide +kernel
theorem dX6_join_15 : decode cX6_join 15 = .ok (.iconst 1, 1) := by decide +kernel
theorem dX6_join_16 : decode cX6_join 16 = .ok (.isub, 1) := by decide +kernel
theorem dX6_join_17 : decode cX6_join 17 = .ok (.iaload, 1) := by decide +kernel
theorem dX6_join_18 : decode cX6_join 18 = .ok (.bipush 7, 2) := by decide +kernel
theorem dX6_join_20 : decode cX6_join 20 = .ok (.if_icmp .eq 83, 3) := by decide +kernel
theorem dX6_join_23 : decode cX6_join 23 = .ok (.aload_n 0, 1) := by decide +kernel
theorem dX6_join_24 : decode cX6_join 24 = .ok (.getfield 31, 3) := by decide +kernel
theorem dX6_join_27 : decode cX6_join 27 = .ok (.aload_n 0, 1) := by decide +kernel
theorem dX6_join_28 : decode cX6_join 28 = .ok (.getfield 85, 3) := by decide +kernel
theorem dX6_join_31 : decode cX6_join 31 = .ok (.iconst 1, 1) := by decide +kernel
theorem dX6_join_32 : decode cX6_join 32 = .ok (.isub, 1) := by decide +kernel
theorem dX6_join_33 : decode cX6_join 33 = .ok (.iaload, 1) := by decide +kernel
theorem dX6_join_34 : decode cX6_join 34 = .ok (.iconst 1, 1) := by decide +kernel
theorem dX6_join_35 : decode cX6_join 35 = .ok (.if_icmp .eq 8, 3) := by decide +kernel
theorem dX6_join_38 : decode cX6_join 38 = .ok (.iload_n 1, 1) := by decide +kernel
theorem dX6_join_39 : decode cX6_join 39 = .ok (.iconst 2, 1) := by decide +kernel
theorem dX6_join_40 : decode cX6_join 40 = .ok (.if_icmp .ne 63, 3) := by decide +kernel
theorem dX6_join_43 : decode cX6_join 43 = .ok (.aload_n 0, 1) := by decide +kernel
theorem dX6_join_44 : decode cX6_join 44 = .ok (.dup, 1) := by decide +kernel
theorem dX6_join_45 : decode cX6_join 45 = .ok (.getfield 82, 3) := by decide +kernel
theorem dX6_join_48 : decode cX6_join 48 = .ok (.iconst 2, 1) := by decide +kernel
theorem dX6_join_49 : decode cX6_join 49 = .ok (.isub, 1) := by decide +kernel
theorem dX6_join_50 : decode cX6_join 50 = .ok (.putfield 82, 3) := by decide +kernel
theorem dX6_join_53 : decode cX6_join 53 = .ok (.aload_n 0, 1) := by decide +kernel
theorem dX6_join_54 : decode cX6_join 54 = .ok (.getfield 34, 3) := by decide +kernel
theorem dX6_join_57 : decode cX6_join 57 = .ok (.aload_n 0, 1) := by decide +kernel
theorem dX6_join_58 : decode cX6_join 58 = .ok (.getfield 82, 3) := by decide +kernel
theorem dX6_join_61 : decode cX6_join 61 = .ok (.iaload, 1) := by decide +kernel
theorem dX6_join_62 : decode cX6_join 62 = .ok (.istore_n 2, 1) := by decide +kernel
theorem dX6_join_63 : decode cX6_join 63 = .ok (.aload_n 0, 1) := by decide +kernel
theorem dX6_join_64 : decode cX6_join 64 = .ok (.getfield 34, 3) := by decide +kernel
theorem dX6_join_67 : decode cX6_join 67 = .ok (.aload_n 0, 1) := by decide +kernel
theorem dX6_join_68 : decode cX6_join 68 = .ok (.getfield 82, 3) := by decide +kernel
theorem dX6_join_71 : decode cX6_join 71 = .ok (.iconst 1, 1) := by decide +kernel
theorem dX6_join_72 : decode cX6_join 72 = .ok (.iadd, 1) := by decide +kernel
theorem dX6_join_73 : decode cX6_join 73 = .ok (.iaload, 1) := by decide +kernel
theorem dX6_join_74 : decode cX6_join 74 = .ok (.istore_n 3, 1) := by decide +kernel
theorem dX6_join_75 : decode cX6_join 75 = .ok (.aload_n 0, 1) := by decide +kernel
theorem dX6_join_76 : decode cX6_join 76 = .ok (.dup, 1) := by decide +kernel
theorem dX6_join_77 : decode cX6_join 77 = .ok (.getfield 85, 3) := by decide +kernel
theorem dX6_join_80 : decode cX6_join 80 = .ok (.iconst 1, 1) := by decide +kernel
theorem dX6_join_81 : decode cX6_join 81 = .ok (.isub, 1) := by decide +kernel
theorem dX6_join_82 : decode cX6_join 82 = .ok (.putfield 85, 3) := by decide +kernel
theorem dX6_join_85 : decode cX6_join 85 = .ok (.aload_n 0, 1) := by decide +kernel
theorem dX6_join_86 : decode cX6_join 86 = .ok (.aload_n 0, 1) := by decide +kernel
theorem dX6_join_87 : decode cX6_join 87 = .ok (.getfield 31, 3) := by decide +kernel
theorem dX6_join_90 : decode cX6_join 90 = .ok (.aload_n 0, 1) := by decide +kernel
theorem dX6_join_91 : decode cX6_join 91 = .ok (.getfield 85, 3) := by decide +kernel
theorem dX6_join_94 : decode cX6_join 94 = .ok (.iaload, 1) := by decide +kernel
theorem dX6_join_95 : decode cX6_join 95 = .ok (.iload_n 2, 1) := by decide +kernel
theorem dX6_join_96 : decode cX6_join 96 = .ok (.iload_n 3, 1) := by decide +kernel
theorem dX6_join_97 : decode cX6_join 97 = .ok (.invokevirtual 88, 3) := by decide +kernel
theorem dX6_join_100 : decode cX6_join 100 = .ok (.goto (-100), 3) := by decide +kernel
theorem dX6_join_103 : decode cX6_join 103 = .ok (.return_, 1) := by decide +kernel
theorem dX6_hold_0 : decode cX6_hold 0 = .ok (.aload_n 0, 1) := by decide +kernel
theorem dX6_hold_1 : decode cX6_hold 1 = .ok (.getfield 31, 3) := by decide +kernel
theorem dX6_hold_4 : decode cX6_hold 4 = .ok (.aload_n 0, 1) := by decide +kernel
theorem dX6_hold_5 : decode cX6_hold 5 = .ok (.getfield 85, 3) := by decide +kernel
theorem dX6_hold_8 : decode cX6_hold 8 = .ok (.iload_n 1, 1) := by decide +kernel
theorem dX6_hold_9 : decode cX6_hold 9 = .ok (.iastore, 1) := by decide +kernel
theorem dX6_hold_10 : decode cX6_hold 10 = .ok (.aload_n 0, 1) := by decide +kernel
theorem dX6_hold_11 : decode cX6_hold 11 = .ok (.dup, 1) := by decide +kernel
theorem dX6_hold_12 : decode cX6_hold 12 = .ok (.getfield 85, 3) := by decide +kernel
theorem dX6_hold_15 : decode cX6_hold 15 = .ok (.iconst 1, 1) := by decide +kernel
theorem dX6_hold_16 : decode cX6_hold 16 = .ok (.iadd, 1) := by decide +kernel
theorem dX6_hold_17 : decode cX6_hold 17 = .ok (.putfield 85, 3) := by decide +kernel
theorem dX6_hold_20 : decode cX6_hold 20 = .ok (.return_, 1) := by decide +kernel
theorem dX6_suffix_0 : decode cX6_suffix 0 = .ok (.aload_n 0, 1) := by decide +kernel
theorem dX6_suffix_1 : decode cX6_suffix 1 = .ok (.dup, 1) := by decide +kernel
theorem dX6_suffix_2 : decode cX6_suffix 2 = .ok (.getfield 82, 3) := by decide +kernel
theorem dX6_suffix_5 : decode cX6_suffix 5 = .ok (.iconst 1, 1) := by decide +kernel
theorem dX6_suffix_6 : decode cX6_suffix 6 = .ok (.isub, 1) := by decide +kernel
theorem dX6_suffix_7 : decode cX6_suffix 7 = .ok (.putfield 82, 3) := by decide +kernel
theorem dX6_suffix_10 : decode cX6_suffix 10 = .ok (.aload_n 0, 1) := by decide +kernel
theorem dX6_suffix_11 : decode cX6_suffix 11 = .ok (.iload_n 1, 1) := by decide +kernel
theorem dX6_suffix_12 : decode cX6_suffix 12 = .ok (.aload_n 0, 1) := by decide +kernel
theorem dX6_suffix_13 : decode cX6_suffix 13 = .ok (.getfield 34, 3) := by decide +kernel
theorem dX6_suffix_16 : decode cX6_suffix 16 = .ok (.aload_n 0, 1) := by decide +kernel
theorem dX6_suffix_17 : decode cX6_suffix 17 = .ok (.getfield 82, 3) := by decide +kernel
theorem dX6_suffix_20 : decode cX6_suffix 20 = .ok (.iaload, 1) := by decide +kernel
theorem dX6_suffix_21 : decode cX6_suffix 21 = .ok (.iload_n 2, 1) := by decide +kernel
theorem dX6_suffix_22 : decode cX6_suffix 22 = .ok (.invokevirtual 88, 3) := by decide +kernel
theorem dX6_suffix_25 : decode cX6_suffix 25 = .ok (.return_, 1) := by decide +kernel
theorem dX6_item_0 : decode cX6_item 0 = .ok (.iload_n 1, 1) := by decide +kernel
theorem dX6_item_1 : decode cX6_item 1 = .ok (.ifCond .eq 13, 3) := by decide +kernel
theorem dX6_item_4 : decode cX6_item 4 = .ok (.aload_n 0, 1) := by decide +kernel
theorem dX6_item_5 : decode cX6_item 5 = .ok (.iconst 1, 1) := by decide +kernel
theorem dX6_item_6 : decode cX6_item 6 = .ok (.invokevirtual 92, 3) := by decide +kernel
theorem dX6_item_9 : decode cX6_item 9 = .ok (.aload_n 0, 1) := by decide +kernel
theorem dX6_item_10 : decode cX6_item 10 = .ok (.iconst 1, 1) := by decide +kernel
theorem dX6_item_11 : decode cX6_item 11 = .ok (.invokevirtual 96, 3) := by decide +kernel
theorem dX6_item_14 : decode cX6_item 14 = .ok (.return_, 1) := by decide +kernel
theorem dX6_set_0 : decode cX6_set 0 = .ok (.iload_n 1, 1) := by decide +kernel
theorem dX6_set_1 : decode cX6_set 1 = .ok (.iconst 1, 1) := by decide +kernel
theorem dX6_set_2 : decode cX6_set 2 = .ok (.iadd, 1) := by decide +kernel
theorem dX6_set_3 : decode cX6_set 3 = .ok (.istore_n 2, 1) := by decide +kernel
theorem dX6_set_4 : decode cX6_set 4 = .ok (.aload_n 0, 1) := by decide +kernel
theorem dX6_set_5 : decode cX6_set 5 = .ok (.getfield 7, 3) := by decide +kernel
theorem dX6_set_8 : decode cX6_set 8 = .ok (.iload_n 2, 1) := by decide +kernel
theorem dX6_set_9 : decode cX6_set 9 = .ok (.iaload, 1) := by decide +kernel
theorem dX6_set_10 : decode cX6_set 10 = .ok (.bipush 94, 2) := by decide +kernel
theorem dX6_set_12 : decode cX6_set 12 = .ok (.if_icmp .ne 7, 3) := by decide +kernel
theorem dX6_set_15 : decode cX6_set 15 = .ok (.iconst 1, 1) := by decide +kernel
theorem dX6_set_16 : decode cX6_set 16 = .ok (.goto 4, 3) := by decide +kernel
theorem dX6_set_19 : decode cX6_set 19 = .ok (.iconst 0, 1) := by decide +kernel
theorem dX6_set_20 : decode cX6_set 20 = .ok (.istore_n 3, 1) := by decide +kernel
theorem dX6_set_21 : decode cX6_set 21 = .ok (.iload_n 3, 1) := by decide +kernel
theorem dX6_set_22 : decode cX6_set 22 = .ok (.ifCond .eq 9, 3) := by decide +kernel
theorem dX6_set_25 : decode cX6_set 25 = .ok (.iload_n 2, 1) := by decide +kernel
theorem dX6_set_26 : decode cX6_set 26 = .ok (.iconst 1, 1) := by decide +kernel
theorem dX6_set_27 : decode cX6_set 27 = .ok (.iadd, 1) := by decide +kernel
theorem dX6_set_28 : decode cX6_set 28 = .ok (.goto 4, 3) := by decide +kernel
theorem dX6_set_31 : decode cX6_set 31 = .ok (.iload_n 2, 1) := by decide +kernel
theorem dX6_set_32 : decode cX6_set 32 = .ok (.istore_n 2, 1) := by decide +kernel
theorem dX6_set_33 : decode cX6_set 33 = .ok (.aload_n 0, 1) := by decide +kernel
theorem dX6_set_34 : decode cX6_set 34 = .ok (.iconst 0, 1) := by decide +kernel
theorem dX6_set_35 : decode cX6_set 35 = .ok (.putfield 99, 3) := by decide +kernel
theorem dX6_set_38 : decode cX6_set 38 = .ok (.aload_n 0, 1) := by decide +kernel
theorem dX6_set_39 : decode cX6_set 39 = .ok (.getfield 7, 3) := by decide +kernel
theorem dX6_set_42 : decode cX6_set 42 = .ok (.iload_n 2, 1) := by decide +kernel
theorem dX6_set_43 : decode cX6_set 43 = .ok (.iaload, 1) := by decide +kernel
theorem dX6_set_44 : decode cX6_set 44 = .ok (.bipush 93, 2) := by decide +kernel
theorem dX6_set_46 : decode cX6_set 46 = .ok (.if_icmp .eq 29, 3) := by decide +kernel
theorem dX6_set_49 : decode cX6_set 49 = .ok (.aload_n 0, 1) := by decide +kernel
theorem dX6_set_50 : decode cX6_set 50 = .ok (.dup, 1) := by decide +kernel
theorem dX6_set_51 : decode cX6_set 51 = .ok (.getfield 99, 3) := by decide +kernel
theorem dX6_set_54 : decode cX6_set 54 = .ok (.iconst 1, 1) := by decide +kernel
theorem dX6_set_55 : decode cX6_set 55 = .ok (.aload_n 0, 1) := by decide +kernel
theorem dX6_set_56 : decode cX6_set 56 = .ok (.getfield 7, 3) := by decide +kernel
theorem dX6_set_59 : decode cX6_set 59 = .ok (.iload_n 2, 1) := by decide +kernel
theorem dX6_set_60 : decode cX6_set 60 = .ok (.iaload, 1) := by decide +kernel
theorem dX6_set_61 : decode cX6_set 61 = .ok (.bipush 97, 2) := by decide +kernel
theorem dX6_set_63 : decode cX6_set 63 = .ok (.isub, 1) := by decide +kernel
theorem dX6_set_64 : decode cX6_set 64 = .ok (.ishl, 1) := by decide +kernel
theorem dX6_set_65 : decode cX6_set 65 = .ok (.ior, 1) := by decide +kernel
theorem dX6_set_66 : decode cX6_set 66 = .ok (.putfield 99, 3) := by decide +kernel
theorem dX6_set_69 : decode cX6_set 69 = .ok (.iinc 2 1, 3) := by decide +kernel
theorem dX6_set_72 : decode cX6_set 72 = .ok (.goto (-34), 3) := by decide +kernel
theorem dX6_set_75 : decode cX6_set 75 = .ok (.aload_n 0, 1) := by decide +kernel
theorem dX6_set_76 : decode cX6_set 76 = .ok (.iload_n 3, 1) := by decide +kernel
theorem dX6_set_77 : decode cX6_set 77 = .ok (.ifCond .eq 15, 3) := by decide +kernel
theorem dX6_set_80 : decode cX6_set 80 = .ok (.ldc 102, 2) := by decide +kernel
theorem dX6_set_82 : decode cX6_set 82 = .ok (.aload_n 0, 1) := by decide +kernel
theorem dX6_set_83 : decode cX6_set 83 = .ok (.getfield 99, 3) := by decide +kernel
theorem dX6_set_86 : decode cX6_set 86 = .ok (.iconst (-1), 1) := by decide +kernel
theorem dX6_set_87 : decode cX6_set 87 = .ok (.ixor, 1) := by decide +kernel
theorem dX6_set_88 : decode cX6_set 88 = .ok (.iand, 1) := by decide +kernel
theorem dX6_set_89 : decode cX6_set 89 = .ok (.goto 7, 3) := by decide +kernel
theorem dX6_set_92 : decode cX6_set 92 = .ok (.aload_n 0, 1) := by decide +kernel
theorem dX6_set_93 : decode cX6_set 93 = .ok (.getfield 99, 3) := by decide +kernel
theorem dX6_set_96 : decode cX6_set 96 = .ok (.putfield 99, 3) := by decide +kernel
theorem dX6_set_99 : decode cX6_set 99 = .ok (.iload_n 2, 1) := by decide +kernel
theorem dX6_set_100 : decode cX6_set 100 = .ok (.iconst 1, 1) := by decide +kernel
theorem dX6_set_101 : decode cX6_set 101 = .ok (.iadd, 1) := by decide +kernel
theorem dX6_set_102 : decode cX6_set 102 = .ok (.ireturn, 1) := by decide +kernel
theorem dX6_read_0 : decode cX6_read 0 = .ok (.aload_n 0, 1) := by decide +kernel
theorem dX6_read_1 : decode cX6_read 1 = .ok (.iconst 0, 1) := by decide +kernel
theorem dX6_read_2 : decode cX6_read 2 = .ok (.putfield 79, 3) := by decide +kernel
theorem dX6_read_5 : decode cX6_read 5 = .ok (.aload_n 0, 1) := by decide +kernel
theorem dX6_read_6 : decode cX6_read 6 = .ok (.iconst 0, 1) := by decide +kernel
theorem dX6_read_7 : decode cX6_read 7 = .ok (.putfield 85, 3) := by decide +kernel
theorem dX6_read_10 : decode cX6_read 10 = .ok (.aload_n 0, 1) := by decide +kernel
theorem dX6_read_11 : decode cX6_read 11 = .ok (.iconst 0, 1) := by decide +kernel
theorem dX6_read_12 : decode cX6_read 12 = .ok (.putfield 82, 3) := by decide +kernel
theorem dX6_read_15 : decode cX6_read 15 = .ok (.iconst 0, 1) := by decide +kernel
theorem dX6_read_16 : decode cX6_read 16 = .ok (.istore_n 1, 1) := by decide +kernel
theorem dX6_read_17 : decode cX6_read 17 = .ok (.iconst 0, 1) := by decide +kernel
theorem dX6_read_18 : decode cX6_read 18 = .ok (.istore_n 2, 1) := by decide +kernel
theorem dX6_read_19 : decode cX6_read 19 = .ok (.iload_n 2, 1) := by decide +kernel
theorem dX6_read_20 : decode cX6_read 20 = .ok (.aload_n 0, 1) := by decide +kernel
theorem dX6_read_21 : decode cX6_read 21 = .ok (.getfield 68, 3) := by decide +kernel
theorem dX6_read_24 : decode cX6_read 24 = .ok (.if_icmp .ge 293, 3) := by decide +kernel
theorem dX6_read_27 : decode cX6_read 27 = .ok (.aload_n 0, 1) := by decide +kernel
theorem dX6_read_28 : decode cX6_read 28 = .ok (.getfield 7, 3) := by decide +kernel
theorem dX6_read_31 : decode cX6_read 31 = .ok (.iload_n 2, 1) := by decide +kernel
theorem dX6_read_32 : decode cX6_read 32 = .ok (.iaload, 1) := by decide +kernel
theorem dX6_read_33 : decode cX6_read 33 = .ok (.istore_n 3, 1) := by decide +kernel
theorem dX6_read_34 : decode cX6_read 34 = .ok (.iinc 2 1, 3) := by decide +kernel
theorem dX6_read_37 : decode cX6_read 37 = .ok (.iload_n 3, 1) := by decide +kernel
theorem dX6_read_38 : decode cX6_read 38 = .ok (.bipush 124, 2) := by decide +kernel
theorem dX6_read_40 : decode cX6_read 40 = .ok (.if_icmp .ne 18, 3) := by decide +kernel
theorem dX6_read_43 : decode cX6_read 43 = .ok (.aload_n 0, 1) := by decide +kernel
theorem dX6_read_44 : decode cX6_read 44 = .ok (.iconst 2, 1) := by decide +kernel
theorem dX6_read_45 : decode cX6_read 45 = .ok (.invokevirtual 92, 3) := by decide +kernel
theorem dX6_read_48 : decode cX6_read 48 = .ok (.aload_n 0, 1) := by decide +kernel
theorem dX6_read_49 : decode cX6_read 49 = .ok (.iconst 2, 1) := by decide +kernel
theorem dX6_read_50 : decode cX6_read 50 = .ok (.invokevirtual 96, 3) := by decide +kernel
theorem dX6_read_53 : decode cX6_read 53 = .ok (.iconst 0, 1) := by decide +kernel
theorem dX6_read_54 : decode cX6_read 54 = .ok (.istore_n 1, 1) := by decide +kernel
theorem dX6_read_55 : decode cX6_read 55 = .ok (.goto 243, 3) := by decide +kernel
theorem dX6_read_58 : decode cX6_read 58 = .ok (.iload_n 3, 1) := by decide +kernel
theorem dX6_read_59 : decode cX6_read 59 = .ok (.bipush 40, 2) := by decide +kernel
theorem dX6_read_61 : decode cX6_read 61 = .ok (.if_icmp .ne 19, 3) := by decide +kernel
theorem dX6_read_64 : decode cX6_read 64 = .ok (.aload_n 0, 1) := by decide +kernel
theorem dX6_read_65 : decode cX6_read 65 = .ok (.iload_n 1, 1) := by decide +kernel
theorem dX6_read_66 : decode cX6_read 66 = .ok (.invokevirtual 103, 3) := by decide +kernel
theorem dX6_read_69 : decode cX6_read 69 = .ok (.aload_n 0, 1) := by decide +kernel
theorem dX6_read_70 : decode cX6_read 70 = .ok (.bipush 7, 2) := by decide +kernel
theorem dX6_read_72 : decode cX6_read 72 = .ok (.invokevirtual 96, 3) := by decide +kernel
theorem dX6_read_75 : decode cX6_read 75 = .ok (.iconst 0, 1) := by decide +kernel
theorem dX6_read_76 : decode cX6_read 76 = .ok (.istore_n 1, 1) := by decide +kernel
theorem dX6_read_77 : decode cX6_read 77 = .ok (.goto 221, 3) := by decide +kernel
theorem dX6_read_80 : decode cX6_read 80 = .ok (.iload_n 3, 1) := by decide +kernel
theorem dX6_read_81 : decode cX6_read 81 = .ok (.bipush 41, 2) := by decide +kernel
theorem dX6_read_83 : decode cX6_read 83 = .ok (.if_icmp .ne 21, 3) := by decide +kernel
theorem dX6_read_86 : decode cX6_read 86 = .ok (.aload_n 0, 1) := by decide +kernel
theorem dX6_read_87 : decode cX6_read 87 = .ok (.iconst 2, 1) := by decide +kernel
theorem dX6_read_88 : decode cX6_read 88 = .ok (.invokevirtual 92, 3) := by decide +kernel
theorem dX6_read_91 : decode cX6_read 91 = .ok (.aload_n 0, 1) := by decide +kernel
theorem dX6_read_92 : decode cX6_read 92 = .ok (.dup, 1) := by decide +kernel
theorem dX6_read_93 : decode cX6_read 93 = .ok (.getfield 85, 3) := by decide +kernel
theorem dX6_read_96 : decode cX6_read 96 = .ok (.iconst 1, 1) := by decide +kernel
theorem dX6_read_97 : decode cX6_read 97 = .ok (.isub, 1) := by decide +kernel
theorem dX6_read_98 : decode cX6_read 98 = .ok (.putfield 85, 3) := by decide +kernel
theorem dX6_read_101 : decode cX6_read 101 = .ok (.goto 197, 3) := by decide +kernel
theorem dX6_read_104 : decode cX6_read 104 = .ok (.iload_n 3, 1) := by decide +kernel
theorem dX6_read_105 : decode cX6_read 105 = .ok (.bipush 42, 2) := by decide +kernel
theorem dX6_read_107 : decode cX6_read 107 = .ok (.if_icmp .eq 15, 3) := by decide +kernel
theorem dX6_read_110 : decode cX6_read 110 = .ok (.iload_n 3, 1) := by decide +kernel
theorem dX6_read_111 : decode cX6_read 111 = .ok (.bipush 43, 2) := by decide +kernel
theorem dX6_read_113 : decode cX6_read 113 = .ok (.if_icmp .eq 9, 3) := by decide +kernel
theorem dX6_read_116 : decode cX6_read 116 = .ok (.iload_n 3, 1) := by decide +kernel
theorem dX6_read_117 : decode cX6_read 117 = .ok (.bipush 63, 2) := by decide +kernel
theorem dX6_read_119 : decode cX6_read 119 = .ok (.if_icmp .ne 32, 3) := by decide +kernel
theorem dX6_read_122 : decode cX6_read 122 = .ok (.aload_n 0, 1) := by decide +kernel
theorem dX6_read_123 : decode cX6_read 123 = .ok (.iload_n 3, 1) := by decide +kernel
theorem dX6_read_124 : decode cX6_read 124 = .ok (.bipush 42, 2) := by decide +kernel
theorem dX6_read_126 : decode cX6_read 126 = .ok (.if_icmp .ne 7, 3) := by decide +kernel
theorem dX6_read_129 : decode cX6_read 129 = .ok (.iconst 3, 1) := by decide +kernel
theorem dX6_read_130 : decode cX6_read 130 = .ok (.goto 14, 3) := by decide +kernel
theorem dX6_read_133 : decode cX6_read 133 = .ok (.iload_n 3, 1) := by decide +kernel
theorem dX6_read_134 : decode cX6_read 134 = .ok (.bipush 43, 2) := by decide +kernel
theorem dX6_read_136 : decode cX6_read 136 = .ok (.if_icmp .ne 7, 3) := by decide +kernel
theorem dX6_read_139 : decode cX6_read 139 = .ok (.iconst 4, 1) := by decide +kernel
theorem dX6_read_140 : decode cX6_read 140 = .ok (.goto 4, 3) := by decide +kernel
theorem dX6_read_143 : decode cX6_read 143 = .ok (.iconst 5, 1) := by decide +kernel
theorem dX6_read_144 : decode cX6_read 144 = .ok (.iconst 0, 1) := by decide +kernel
theorem dX6_read_145 : decode cX6_read 145 = .ok (.invokevirtual 107, 3) := by decide +kernel
theorem dX6_read_148 : decode cX6_read 148 = .ok (.goto 150, 3) := by decide +kernel
theorem dX6_read_151 : decode cX6_read 151 = .ok (.iload_n 3, 1) := by decide +kernel
theorem dX6_read_152 : decode cX6_read 152 = .ok (.bipush 60, 2) := by decide +kernel
theorem dX6_read_154 : decode cX6_read 154 = .ok (.if_icmp .ne 78, 3) := by decide +kernel
theorem dX6_read_157 : decode cX6_read 157 = .ok (.aload_n 0, 1) := by decide +kernel
theorem dX6_read_158 : decode cX6_read 158 = .ok (.getfield 7, 3) := by decide +kernel
theorem dX6_read_161 : decode cX6_read 161 = .ok (.iload_n 2, 1) := by decide +kernel
theorem dX6_read_162 : decode cX6_read 162 = .ok (.iaload, 1) := by decide +kernel
theorem dX6_read_163 : decode cX6_read 163 = .ok (.bipush 48, 2) := by decide +kernel
theorem dX6_read_165 : decode cX6_read 165 = .ok (.isub, 1) := by decide +kernel
theorem dX6_read_166 : decode cX6_read 166 = .ok (.istore 4, 2) := by decide +kernel
theorem dX6_read_168 : decode cX6_read 168 = .ok (.iinc 2 1, 3) := by decide +kernel
theorem dX6_read_171 : decode cX6_read 171 = .ok (.iload_n 2, 1) := by decide +kernel
theorem dX6_read_172 : decode cX6_read 172 = .ok (.aload_n 0, 1) := by decide +kernel
theorem dX6_read_173 : decode cX6_read 173 = .ok (.getfield 68, 3) := by decide +kernel
theorem dX6_read_176 : decode cX6_read 176 = .ok (.if_icmp .ge 45, 3) := by decide +kernel
theorem dX6_read_179 : decode cX6_read 179 = .ok (.aload_n 0, 1) := by decide +kernel
theorem dX6_read_180 : decode cX6_read 180 = .ok (.getfield 7, 3) := by decide +kernel
theorem dX6_read_183 : decode cX6_read 183 = .ok (.iload_n 2, 1) := by decide +kernel
theorem dX6_read_184 : decode cX6_read 184 = .ok (.iaload, 1) := by decide +kernel
theorem dX6_read_185 : decode cX6_read 185 = .ok (.bipush 48, 2) := by decide +kernel
theorem dX6_read_187 : decode cX6_read 187 = .ok (.if_icmp .lt 34, 3) := by decide +kernel
theorem dX6_read_190 : decode cX6_read 190 = .ok (.aload_n 0, 1) := by decide +kernel
theorem dX6_read_191 : decode cX6_read 191 = .ok (.getfield 7, 3) := by decide +kernel
theorem dX6_read_194 : decode cX6_read 194 = .ok (.iload_n 2, 1) := by decide +kernel
theorem dX6_read_195 : decode cX6_read 195 = .ok (.iaload, 1) := by decide +kernel
theorem dX6_read_196 : decode cX6_read 196 = .ok (.bipush 57, 2) := by decide +kernel
theorem dX6_read_198 : decode cX6_read 198 = .ok (.if_icmp .gt 23, 3) := by decide +kernel
theorem dX6_read_201 : decode cX6_read 201 = .ok (.bipush 10, 2) := by decide +kernel
theorem dX6_read_203 : decode cX6_read 203 = .ok (.iload 4, 2) := by decide +kernel
theorem dX6_read_205 : decode cX6_read 205 = .ok (.imul, 1) := by decide +kernel
theorem dX6_read_206 : decode cX6_read 206 = .ok (.aload_n 0, 1) := by decide +kernel
theorem dX6_read_207 : decode cX6_read 207 = .ok (.getfield 7, 3) := by decide +kernel
theorem dX6_read_210 : decode cX6_read 210 = .ok (.iload_n 2, 1) := by decide +kernel
theorem dX6_read_211 : decode cX6_read 211 = .ok (.iaload, 1) := by decide +kernel
theorem dX6_read_212 : decode cX6_read 212 = .ok (.iadd, 1) := by decide +kernel
theorem dX6_read_213 : decode cX6_read 213 = .ok (.bipush 48, 2) := by decide +kernel
theorem dX6_read_215 : decode cX6_read 215 = .ok (.isub, 1) := by decide +kernel
theorem dX6_read_216 : decode cX6_read 216 = .ok (.istore 4, 2) := by decide +kernel
theorem dX6_read_218 : decode cX6_read 218 = .ok (.iinc 2 1, 3) := by decide +kernel
theorem dX6_read_221 : decode cX6_read 221 = .ok (.aload_n 0, 1) := by decide +kernel
theorem dX6_read_222 : decode cX6_read 222 = .ok (.bipush 6, 2) := by decide +kernel
theorem dX6_read_224 : decode cX6_read 224 = .ok (.iload 4, 2) := by decide +kernel
theorem dX6_read_226 : decode cX6_read 226 = .ok (.invokevirtual 107, 3) := by decide +kernel
theorem dX6_read_229 : decode cX6_read 229 = .ok (.goto 69, 3) := by decide +kernel
theorem dX6_read_232 : decode cX6_read 232 = .ok (.aload_n 0, 1) := by decide +kernel
theorem dX6_read_233 : decode cX6_read 233 = .ok (.iload_n 1, 1) := by decide +kernel
theorem dX6_read_234 : decode cX6_read 234 = .ok (.invokevirtual 103, 3) := by decide +kernel
theorem dX6_read_237 : decode cX6_read 237 = .ok (.aload_n 0, 1) := by decide +kernel
theorem dX6_read_238 : decode cX6_read 238 = .ok (.iload_n 3, 1) := by decide +kernel
theorem dX6_read_239 : decode cX6_read 239 = .ok (.bipush 46, 2) := by decide +kernel
theorem dX6_read_241 : decode cX6_read 241 = .ok (.if_icmp .ne 8, 3) := by decide +kernel
theorem dX6_read_244 : decode cX6_read 244 = .ok (.ldc 102, 2) := by decide +kernel
theorem dX6_read_246 : decode cX6_read 246 = .ok (.goto 19, 3) := by decide +kernel
theorem dX6_read_249 : decode cX6_read 249 = .ok (.iconst 1, 1) := by decide +kernel
theorem dX6_read_250 : decode cX6_read 250 = .ok (.iload_n 3, 1) := by decide +kernel
theorem dX6_read_251 : decode cX6_read 251 = .ok (.bipush 91, 2) := by decide +kernel
theorem dX6_read_253 : decode cX6_read 253 = .ok (.if_icmp .ne 7, 3) := by decide +kernel
theorem dX6_read_256 : decode cX6_read 256 = .ok (.iconst 0, 1) := by decide +kernel
theorem dX6_read_257 : decode cX6_read 257 = .ok (.goto 7, 3) := by decide +kernel
theorem dX6_read_260 : decode cX6_read 260 = .ok (.iload_n 3, 1) := by decide +kernel
theorem dX6_read_261 : decode cX6_read 261 = .ok (.bipush 97, 2) := by decide +kernel
theorem dX6_read_263 : decode cX6_read 263 = .ok (.isub, 1) := by decide +kernel
theorem dX6_read_264 : decode cX6_read 264 = .ok (.ishl, 1) := by decide +kernel
theorem dX6_read_265 : decode cX6_read 265 = .ok (.putfield 99, 3) := by decide +kernel
theorem dX6_read_268 : decode cX6_read 268 = .ok (.iload_n 3, 1) := by decide +kernel
theorem dX6_read_269 : decode cX6_read 269 = .ok (.bipush 91, 2) := by decide +kernel
theorem dX6_read_271 : decode cX6_read 271 = .ok (.if_icmp .ne 13, 3) := by decide +kernel
theorem dX6_read_274 : decode cX6_read 274 = .ok (.aload_n 0, 1) := by decide +kernel
theorem dX6_read_275 : decode cX6_read 275 = .ok (.iload_n 2, 1) := by decide +kernel
theorem dX6_read_276 : decode cX6_read 276 = .ok (.iconst 1, 1) := by decide +kernel
theorem dX6_read_277 : decode cX6_read 277 = .ok (.isub, 1) := by decide +kernel
theorem dX6_read_278 : decode cX6_read 278 = .ok (.invokevirtual 111, 3) := by decide +kernel
theorem dX6_read_281 : decode cX6_read 281 = .ok (.goto 4, 3) := by decide +kernel
theorem dX6_read_284 : decode cX6_read 284 = .ok (.iload_n 2, 1) := by decide +kernel
theorem dX6_read_285 : decode cX6_read 285 = .ok (.istore_n 2, 1) := by decide +kernel
theorem dX6_read_286 : decode cX6_read 286 = .ok (.aload_n 0, 1) := by decide +kernel
theorem dX6_read_287 : decode cX6_read 287 = .ok (.iconst 0, 1) := by decide +kernel
theorem dX6_read_288 : decode cX6_read 288 = .ok (.aload_n 0, 1) := by decide +kernel
theorem dX6_read_289 : decode cX6_read 289 = .ok (.getfield 99, 3) := by decide +kernel
theorem dX6_read_292 : decode cX6_read 292 = .ok (.iconst 0, 1) := by decide +kernel
theorem dX6_read_293 : decode cX6_read 293 = .ok (.invokevirtual 88, 3) := by decide +kernel
theorem dX6_read_296 : decode cX6_read 296 = .ok (.iconst 1, 1) := by decide +kernel
theorem dX6_read_297 : decode cX6_read 297 = .ok (.istore_n 1, 1) := by decide +kernel
theorem dX6_read_298 : decode cX6_read 298 = .ok (.iload_n 1, 1) := by decide +kernel
theorem dX6_read_299 : decode cX6_read 299 = .ok (.ifCond .ne 9, 3) := by decide +kernel
theorem dX6_read_302 : decode cX6_read 302 = .ok (.iload_n 3, 1) := by decide +kernel
theorem dX6_read_303 : decode cX6_read 303 = .ok (.bipush 41, 2) := by decide +kernel
theorem dX6_read_305 : decode cX6_read 305 = .ok (.if_icmp .ne 7, 3) := by decide +kernel
theorem dX6_read_308 : decode cX6_read 308 = .ok (.iconst 1, 1) := by decide +kernel
theorem dX6_read_309 : decode cX6_read 309 = .ok (.goto 4, 3) := by decide +kernel
theorem dX6_read_312 : decode cX6_read 312 = .ok (.iconst 0, 1) := by decide +kernel
theorem dX6_read_313 : decode cX6_read 313 = .ok (.istore_n 1, 1) := by decide +kernel
theorem dX6_read_314 : decode cX6_read 314 = .ok (.goto (-295), 3) := by decide +kernel
theorem dX6_read_317 : decode cX6_read 317 = .ok (.aload_n 0, 1) := by decide +kernel
theorem dX6_read_318 : decode cX6_read 318 = .ok (.iconst 2, 1) := by decide +kernel
theorem dX6_read_319 : decode cX6_read 319 = .ok (.invokevirtual 92, 3) := by decide +kernel
theorem dX6_read_322 : decode cX6_read 322 = .ok (.return_, 1) := by decide +kernel
theorem dX6_compile_0 : decode cX6_compile 0 = .ok (.aload_n 0, 1) := by decide +kernel
theorem dX6_compile_1 : decode cX6_compile 1 = .ok (.invokevirtual 115, 3) := by decide +kernel
theorem dX6_compile_4 : decode cX6_compile 4 = .ok (.istore_n 1, 1) := by decide +kernel
theorem dX6_compile_5 : decode cX6_compile 5 = .ok (.iload_n 1, 1) := by decide +kernel
theorem dX6_compile_6 : decode cX6_compile 6 = .ok (.iconst (-1), 1) := by decide +kernel
theorem dX6_compile_7 : decode cX6_compile 7 = .ok (.if_icmp .eq 10, 3) := by decide +kernel
theorem dX6_compile_10 : decode cX6_compile 10 = .ok (.aload_n 0, 1) := by decide +kernel
theorem dX6_compile_11 : decode cX6_compile 11 = .ok (.iconst 0, 1) := by decide +kernel
theorem dX6_compile_12 : decode cX6_compile 12 = .ok (.putfield 68, 3) := by decide +kernel
theorem dX6_compile_15 : decode cX6_compile 15 = .ok (.iload_n 1, 1) := by decide +kernel
theorem dX6_compile_16 : decode cX6_compile 16 = .ok (.ireturn, 1) := by decide +kernel
theorem dX6_compile_17 : decode cX6_compile 17 = .ok (.aload_n 0, 1) := by decide +kernel
theorem dX6_compile_18 : decode cX6_compile 18 = .ok (.invokevirtual 119, 3) := by decide +kernel
theorem dX6_compile_21 : decode cX6_compile 21 = .ok (.aload_n 0, 1) := by decide +kernel
theorem dX6_compile_22 : decode cX6_compile 22 = .ok (.iconst 0, 1) := by decide +kernel
theorem dX6_compile_23 : decode cX6_compile 23 = .ok (.putfield 68, 3) := by decide +kernel
theorem dX6_compile_26 : decode cX6_compile 26 = .ok (.aload_n 0, 1) := by decide +kernel
theorem dX6_compile_27 : decode cX6_compile 27 = .ok (.getfield 79, 3) := by decide +kernel
theorem dX6_compile_30 : decode cX6_compile 30 = .ok (.bipush 24, 2) := by decide +kernel
theorem dX6_compile_32 : decode cX6_compile 32 = .ok (.if_icmp .le 6, 3) := by decide +kernel
theorem dX6_compile_35 : decode cX6_compile 35 = .ok (.bipush (-2), 2) := by decide +kernel
theorem dX6_compile_37 : decode cX6_compile 37 = .ok (.ireturn, 1) := by decide +kernel
theorem dX6_compile_38 : decode cX6_compile 38 = .ok (.aload_n 0, 1) := by decide +kernel
theorem dX6_compile_39 : decode cX6_compile 39 = .ok (.aload_n 0, 1) := by decide +kernel
theorem dX6_compile_40 : decode cX6_compile 40 = .ok (.getfield 79, 3) := by decide +kernel
theorem dX6_compile_43 : decode cX6_compile 43 = .ok (.putfield 122, 3) := by decide +kernel
theorem dX6_compile_46 : decode cX6_compile 46 = .ok (.iconst 0, 1) := by decide +kernel
theorem dX6_compile_47 : decode cX6_compile 47 = .ok (.istore_n 2, 1) := by decide +kernel
theorem dX6_compile_48 : decode cX6_compile 48 = .ok (.iload_n 2, 1) := by decide +kernel
theorem dX6_compile_49 : decode cX6_compile 49 = .ok (.aload_n 0, 1) := by decide +kernel
theorem dX6_compile_50 : decode cX6_compile 50 = .ok (.getfield 122, 3) := by decide +kernel
theorem dX6_compile_53 : decode cX6_compile 53 = .ok (.if_icmp .ge 45, 3) := by decide +kernel
theorem dX6_compile_56 : decode cX6_compile 56 = .ok (.aload_n 0, 1) := by decide +kernel
theorem dX6_compile_57 : decode cX6_compile 57 = .ok (.getfield 13, 3) := by decide +kernel
theorem dX6_compile_60 : decode cX6_compile 60 = .ok (.iload_n 2, 1) := by decide +kernel
theorem dX6_compile_61 : decode cX6_compile 61 = .ok (.aload_n 0, 1) := by decide +kernel
theorem dX6_compile_62 : decode cX6_compile 62 = .ok (.getfield 22, 3) := by decide +kernel
theorem dX6_compile_65 : decode cX6_compile 65 = .ok (.iload_n 2, 1) := by decide +kernel
theorem dX6_compile_66 : decode cX6_compile 66 = .ok (.iaload, 1) := by decide +kernel
theorem dX6_compile_67 : decode cX6_compile 67 = .ok (.iastore, 1) := by decide +kernel
theorem dX6_compile_68 : decode cX6_compile 68 = .ok (.aload_n 0, 1) := by decide +kernel
theorem dX6_compile_69 : decode cX6_compile 69 = .ok (.getfield 16, 3) := by decide +kernel
theorem dX6_compile_72 : decode cX6_compile 72 = .ok (.iload_n 2, 1) := by decide +kernel
theorem dX6_compile_73 : decode cX6_compile 73 = .ok (.aload_n 0, 1) := by decide +kernel
theorem dX6_compile_74 : decode cX6_compile 74 = .ok (.getfield 25, 3) := by decide +kernel
theorem dX6_compile_77 : decode cX6_compile 77 = .ok (.iload_n 2, 1) := by decide +kernel
theorem dX6_compile_78 : decode cX6_compile 78 = .ok (.iaload, 1) := by decide +kernel
theorem dX6_compile_79 : decode cX6_compile 79 = .ok (.iastore, 1) := by decide +kernel
theorem dX6_compile_80 : decode cX6_compile 80 = .ok (.aload_n 0, 1) := by decide +kernel
theorem dX6_compile_81 : decode cX6_compile 81 = .ok (.getfield 19, 3) := by decide +kernel
theorem dX6_compile_84 : decode cX6_compile 84 = .ok (.iload_n 2, 1) := by decide +kernel
theorem dX6_compile_85 : decode cX6_compile 85 = .ok (.aload_n 0, 1) := by decide +kernel
theorem dX6_compile_86 : decode cX6_compile 86 = .ok (.getfield 28, 3) := by decide +kernel
theorem dX6_compile_89 : decode cX6_compile 89 = .ok (.iload_n 2, 1) := by decide +kernel
theorem dX6_compile_90 : decode cX6_compile 90 = .ok (.iaload, 1) := by decide +kernel
theorem dX6_compile_91 : decode cX6_compile 91 = .ok (.iastore, 1) := by decide +kernel
theorem dX6_compile_92 : decode cX6_compile 92 = .ok (.iinc 2 1, 3) := by decide +kernel
theorem dX6_compile_95 : decode cX6_compile 95 = .ok (.goto (-47), 3) := by decide +kernel
theorem dX6_compile_98 : decode cX6_compile 98 = .ok (.aload_n 0, 1) := by decide +kernel
theorem dX6_compile_99 : decode cX6_compile 99 = .ok (.invokevirtual 125, 3) := by decide +kernel
theorem dX6_compile_102 : decode cX6_compile 102 = .ok (.iconst (-1), 1) := by decide +kernel
theorem dX6_compile_103 : decode cX6_compile 103 = .ok (.ireturn, 1) := by decide +kernel
theorem dX6_nodes_0 : decode cX6_nodes 0 = .ok (.aload_n 0, 1) := by decide +kernel
theorem dX6_nodes_1 : decode cX6_nodes 1 = .ok (.getfield 122, 3) := by decide +kernel
theorem dX6_nodes_4 : decode cX6_nodes 4 = .ok (.ireturn, 1) := by decide +kernel
theorem dX6_changed_0 : decode cX6_changed 0 = .ok (.aload_n 0, 1) := by decide +kernel
theorem dX6_changed_1 : decode cX6_changed 1 = .ok (.iconst 0, 1) := by decide +kernel
theorem dX6_changed_2 : decode cX6_changed 2 = .ok (.putfield 128, 3) := by decide +kernel
theorem dX6_changed_5 : decode cX6_changed 5 = .ok (.aload_n 0, 1) := by decide +kernel
theorem dX6_changed_6 : decode cX6_changed 6 = .ok (.iconst (-1), 1) := by decide +kernel
theorem dX6_changed_7 : decode cX6_changed 7 = .ok (.putfield 53, 3) := by decide +kernel
theorem dX6_changed_10 : decode cX6_changed 10 = .ok (.aload_n 0, 1) := by decide +kernel
theorem dX6_changed_11 : decode cX6_changed 11 = .ok (.iconst (-1), 1) := by decide +kernel
theorem dX6_changed_12 : decode cX6_changed 12 = .ok (.putfield 56, 3) := by decide +kernel
theorem dX6_changed_15 : decode cX6_changed 15 = .ok (.return_, 1) := by decide +kernel
theorem dX6_weights_0 : decode cX6_weights 0 = .ok (.iload_n 1, 1) := by decide +kernel
theorem dX6_weights_1 : decode cX6_weights 1 = .ok (.ifCond .lt 29, 3) := by decide +kernel
theorem dX6_weights_4 : decode cX6_weights 4 = .ok (.iload_n 1, 1) := by decide +kernel
theorem dX6_weights_5 : decode cX6_weights 5 = .ok (.bipush 9, 2) := by decide +kernel
theorem dX6_weights_7 : decode cX6_weights 7 = .ok (.if_icmp .gt 23, 3) := by decide +kernel
theorem dX6_weights_10 : decode cX6_weights 10 = .ok (.iload_n 2, 1) := by decide +kernel
theorem dX6_weights_11 : decode cX6_weights 11 = .ok (.ifCond .lt 19, 3) := by decide +kernel
theorem dX6_weights_14 : decode cX6_weights 14 = .ok (.iload_n 2, 1) := by decide +kernel
theorem dX6_weights_15 : decode cX6_weights 15 = .ok (.bipush 9, 2) := by decide +kernel
theorem dX6_weights_17 : decode cX6_weights 17 = .ok (.if_icmp .gt 13, 3) := by decide +kernel
theorem dX6_weights_20 : decode cX6_weights 20 = .ok (.iload_n 3, 1) := by decide +kernel
theorem dX6_weights_21 : decode cX6_weights 21 = .ok (.ifCond .lt 9, 3) := by decide +kernel
theorem dX6_weights_24 : decode cX6_weights 24 = .ok (.iload_n 3, 1) := by decide +kernel
theorem dX6_weights_25 : decode cX6_weights 25 = .ok (.bipush 9, 2) := by decide +kernel
theorem dX6_weights_27 : decode cX6_weights 27 = .ok (.if_icmp .le 5, 3) := by decide +kernel
theorem dX6_weights_30 : decode cX6_weights 30 = .ok (.iconst 0, 1) := by decide +kernel
theorem dX6_weights_31 : decode cX6_weights 31 = .ok (.ireturn, 1) := by decide +kernel
theorem dX6_weights_32 : decode cX6_weights 32 = .ok (.aload_n 0, 1) := by decide +kernel
theorem dX6_weights_33 : decode cX6_weights 33 = .ok (.iload_n 1, 1) := by decide +kernel
theorem dX6_weights_34 : decode cX6_weights 34 = .ok (.putfield 37, 3) := by decide +kernel
theorem dX6_weights_37 : decode cX6_weights 37 = .ok (.aload_n 0, 1) := by decide +kernel
theorem dX6_weights_38 : decode cX6_weights 38 = .ok (.iload_n 2, 1) := by decide +kernel
theorem dX6_weights_39 : decode cX6_weights 39 = .ok (.putfield 41, 3) := by decide +kernel
theorem dX6_weights_42 : decode cX6_weights 42 = .ok (.aload_n 0, 1) := by decide +kernel
theorem dX6_weights_43 : decode cX6_weights 43 = .ok (.iload_n 3, 1) := by decide +kernel
theorem dX6_weights_44 : decode cX6_weights 44 = .ok (.putfield 44, 3) := by decide +kernel
theorem dX6_weights_47 : decode cX6_weights 47 = .ok (.aload_n 0, 1) := by decide +kernel
theorem dX6_weights_48 : decode cX6_weights 48 = .ok (.invokevirtual 125, 3) := by decide +kernel
theorem dX6_weights_51 : decode cX6_weights 51 = .ok (.iconst 1, 1) := by decide +kernel
theorem dX6_weights_52 : decode cX6_weights 52 = .ok (.ireturn, 1) := by decide +kernel
theorem dX6_bound_0 : decode cX6_bound 0 = .ok (.iload_n 1, 1) := by decide +kernel
theorem dX6_bound_1 : decode cX6_bound 1 = .ok (.ifCond .lt 10, 3) := by decide +kernel
theorem dX6_bound_4 : decode cX6_bound 4 = .ok (.iload_n 1, 1) := by decide +kernel
theorem dX6_bound_5 : decode cX6_bound 5 = .ok (.sipush 999, 3) := by decide +kernel
theorem dX6_bound_8 : decode cX6_bound 8 = .ok (.if_icmp .le 5, 3) := by decide +kernel
theorem dX6_bound_11 : decode cX6_bound 11 = .ok (.iconst 0, 1) := by decide +kernel
theorem dX6_bound_12 : decode cX6_bound 12 = .ok (.ireturn, 1) := by decide +kernel
theorem dX6_bound_13 : decode cX6_bound 13 = .ok (.aload_n 0, 1) := by decide +kernel
theorem dX6_bound_14 : decode cX6_bound 14 = .ok (.iload_n 1, 1) := by decide +kernel
theorem dX6_bound_15 : decode cX6_bound 15 = .ok (.putfield 132, 3) := by decide +kernel
theorem dX6_bound_18 : decode cX6_bound 18 = .ok (.aload_n 0, 1) := by decide +kernel
theorem dX6_bound_19 : decode cX6_bound 19 = .ok (.invokevirtual 125, 3) := by decide +kernel
theorem dX6_bound_22 : decode cX6_bound 22 = .ok (.iconst 1, 1) := by decide +kernel
theorem dX6_bound_23 : decode cX6_bound 23 = .ok (.ireturn, 1) := by decide +kernel
theorem dX6_write_0 : decode cX6_write 0 = .ok (.iload_n 1, 1) := by decide +kernel
theorem dX6_write_1 : decode cX6_write 1 = .ok (.invokestatic 71, 3) := by decide +kernel
theorem dX6_write_4 : decode cX6_write 4 = .ok (.ifCond .eq 12, 3) := by decide +kernel
theorem dX6_write_7 : decode cX6_write 7 = .ok (.aload_n 0, 1) := by decide +kernel
theorem dX6_write_8 : decode cX6_write 8 = .ok (.getfield 135, 3) := by decide +kernel
theorem dX6_write_11 : decode cX6_write 11 = .ok (.bipush 24, 2) := by decide +kernel
theorem dX6_write_13 : decode cX6_write 13 = .ok (.if_icmp .ne 5, 3) := by decide +kernel
theorem dX6_write_16 : decode cX6_write 16 = .ok (.iconst 0, 1) := by decide +kernel
theorem dX6_write_17 : decode cX6_write 17 = .ok (.ireturn, 1) := by decide +kernel
theorem dX6_write_18 : decode cX6_write 18 = .ok (.aload_n 0, 1) := by decide +kernel
theorem dX6_write_19 : decode cX6_write 19 = .ok (.getfield 47, 3) := by decide +kernel
theorem dX6_write_22 : decode cX6_write 22 = .ok (.aload_n 0, 1) := by decide +kernel
theorem dX6_write_23 : decode cX6_write 23 = .ok (.getfield 135, 3) := by decide +kernel
theorem dX6_write_26 : decode cX6_write 26 = .ok (.iload_n 1, 1) := by decide +kernel
theorem dX6_write_27 : decode cX6_write 27 = .ok (.iastore, 1) := by decide +kernel
theorem dX6_write_28 : decode cX6_write 28 = .ok (.aload_n 0, 1) := by decide +kernel
theorem dX6_write_29 : decode cX6_write 29 = .ok (.dup, 1) := by decide +kernel
theorem dX6_write_30 : decode cX6_write 30 = .ok (.getfield 135, 3) := by decide +kernel
theorem dX6_write_33 : decode cX6_write 33 = .ok (.iconst 1, 1) := by decide +kernel
theorem dX6_write_34 : decode cX6_write 34 = .ok (.iadd, 1) := by decide +kernel
theorem dX6_write_35 : decode cX6_write 35 = .ok (.putfield 135, 3) := by decide +kernel
theorem dX6_write_38 : decode cX6_write 38 = .ok (.aload_n 0, 1) := by decide +kernel
theorem dX6_write_39 : decode cX6_write 39 = .ok (.invokevirtual 125, 3) := by decide +kernel
theorem dX6_write_42 : decode cX6_write 42 = .ok (.iconst 1, 1) := by decide +kernel
theorem dX6_write_43 : decode cX6_write 43 = .ok (.ireturn, 1) := by decide +kernel
theorem dX6_erase_0 : decode cX6_erase 0 = .ok (.aload_n 0, 1) := by decide +kernel
theorem dX6_erase_1 : decode cX6_erase 1 = .ok (.iconst 0, 1) := by decide +kernel
theorem dX6_erase_2 : decode cX6_erase 2 = .ok (.putfield 135, 3) := by decide +kernel
theorem dX6_erase_5 : decode cX6_erase 5 = .ok (.aload_n 0, 1) := by decide +kernel
theorem dX6_erase_6 : decode cX6_erase 6 = .ok (.invokevirtual 125, 3) := by decide +kernel
theorem dX6_erase_9 : decode cX6_erase 9 = .ok (.return_, 1) := by decide +kernel
theorem dX6_costOf_0 : decode cX6_costOf 0 = .ok (.aload_n 0, 1) := by decide +kernel
theorem dX6_costOf_1 : decode cX6_costOf 1 = .ok (.getfield 50, 3) := by decide +kernel
theorem dX6_costOf_4 : decode cX6_costOf 4 = .ok (.sipush 625, 3) := by decide +kernel
theorem dX6_costOf_7 : decode cX6_costOf 7 = .ok (.iload_n 1, 1) := by decide +kernel
theorem dX6_costOf_8 : decode cX6_costOf 8 = .ok (.imul, 1) := by decide +kernel
theorem dX6_costOf_9 : decode cX6_costOf 9 = .ok (.bipush 25, 2) := by decide +kernel
theorem dX6_costOf_11 : decode cX6_costOf 11 = .ok (.iload_n 2, 1) := by decide +kernel
theorem dX6_costOf_12 : decode cX6_costOf 12 = .ok (.imul, 1) := by decide +kernel
theorem dX6_costOf_13 : decode cX6_costOf 13 = .ok (.iadd, 1) := by decide +kernel
theorem dX6_costOf_14 : decode cX6_costOf 14 = .ok (.iload_n 3, 1) := by decide +kernel
theorem dX6_costOf_15 : decode cX6_costOf 15 = .ok (.iadd, 1) := by decide +kernel
theorem dX6_costOf_16 : decode cX6_costOf 16 = .ok (.iaload, 1) := by decide +kernel
theorem dX6_costOf_17 : decode cX6_costOf 17 = .ok (.ireturn, 1) := by decide +kernel
theorem dX6_sum_0 : decode cX6_sum 0 = .ok (.iload_n 0, 1) := by decide +kernel
theorem dX6_sum_1 : decode cX6_sum 1 = .ok (.ldc 138, 2) := by decide +kernel
theorem dX6_sum_3 : decode cX6_sum 3 = .ok (.if_icmp .ge 9, 3) := by decide +kernel
theorem dX6_sum_6 : decode cX6_sum 6 = .ok (.iload_n 1, 1) := by decide +kernel
theorem dX6_sum_7 : decode cX6_sum 7 = .ok (.ldc 138, 2) := by decide +kernel
theorem dX6_sum_9 : decode cX6_sum 9 = .ok (.if_icmp .lt 8, 3) := by decide +kernel
theorem dX6_sum_12 : decode cX6_sum 12 = .ok (.ldc 138, 2) := by decide +kernel
theorem dX6_sum_14 : decode cX6_sum 14 = .ok (.goto 6, 3) := by decide +kernel
theorem dX6_sum_17 : decode cX6_sum 17 = .ok (.iload_n 0, 1) := by decide +kernel
theorem dX6_sum_18 : decode cX6_sum 18 = .ok (.iload_n 1, 1) := by decide +kernel
theorem dX6_sum_19 : decode cX6_sum 19 = .ok (.iadd, 1) := by decide +kernel
theorem dX6_sum_20 : decode cX6_sum 20 = .ok (.ireturn, 1) := by decide +kernel
theorem dX6_ofSet_0 : decode cX6_ofSet 0 = .ok (.iload_n 3, 1) := by decide +kernel
theorem dX6_ofSet_1 : decode cX6_ofSet 1 = .ok (.iload_n 2, 1) := by decide +kernel
theorem dX6_ofSet_2 : decode cX6_ofSet 2 = .ok (.isub, 1) := by decide +kernel
theorem dX6_ofSet_3 : decode cX6_ofSet 3 = .ok (.istore 4, 2) := by decide +kernel
theorem dX6_ofSet_5 : decode cX6_ofSet 5 = .ok (.aload_n 0, 1) := by decide +kernel
theorem dX6_ofSet_6 : decode cX6_ofSet 6 = .ok (.getfield 41, 3) := by decide +kernel
theorem dX6_ofSet_9 : decode cX6_ofSet 9 = .ok (.iload 4, 2) := by decide +kernel
theorem dX6_ofSet_11 : decode cX6_ofSet 11 = .ok (.aload_n 0, 1) := by decide +kernel
theorem dX6_ofSet_12 : decode cX6_ofSet 12 = .ok (.getfield 37, 3) := by decide +kernel
theorem dX6_ofSet_15 : decode cX6_ofSet 15 = .ok (.imul, 1) := by decide +kernel
theorem dX6_ofSet_16 : decode cX6_ofSet 16 = .ok (.iadd, 1) := by decide +kernel
theorem dX6_ofSet_17 : decode cX6_ofSet 17 = .ok (.istore 5, 2) := by decide +kernel
theorem dX6_ofSet_19 : decode cX6_ofSet 19 = .ok (.iload 4, 2) := by decide +kernel
theorem dX6_ofSet_21 : decode cX6_ofSet 21 = .ok (.ifCond .ne 6, 3) := by decide +kernel
theorem dX6_ofSet_24 : decode cX6_ofSet 24 = .ok (.iload 5, 2) := by decide +kernel
theorem dX6_ofSet_26 : decode cX6_ofSet 26 = .ok (.ireturn, 1) := by decide +kernel
theorem dX6_ofSet_27 : decode cX6_ofSet 27 = .ok (.iconst 0, 1) := by decide +kernel
theorem dX6_ofSet_28 : decode cX6_ofSet 28 = .ok (.istore 6, 2) := by decide +kernel
theorem dX6_ofSet_30 : decode cX6_ofSet 30 = .ok (.iload_n 2, 1) := by decide +kernel
theorem dX6_ofSet_31 : decode cX6_ofSet 31 = .ok (.istore 7, 2) := by decide +kernel
theorem dX6_ofSet_33 : decode cX6_ofSet 33 = .ok (.iload 7, 2) := by decide +kernel
theorem dX6_ofSet_35 : decode cX6_ofSet 35 = .ok (.iload_n 3, 1) := by decide +kernel
theorem dX6_ofSet_36 : decode cX6_ofSet 36 = .ok (.if_icmp .ge 39, 3) := by decide +kernel
theorem dX6_ofSet_39 : decode cX6_ofSet 39 = .ok (.iload 6, 2) := by decide +kernel
theorem dX6_ofSet_41 : decode cX6_ofSet 41 = .ok (.ifCond .ne 21, 3) := by decide +kernel
theorem dX6_ofSet_44 : decode cX6_ofSet 44 = .ok (.iload_n 1, 1) := by decide +kernel
theorem dX6_ofSet_45 : decode cX6_ofSet 45 = .ok (.aload_n 0, 1) := by decide +kernel
theorem dX6_ofSet_46 : decode cX6_ofSet 46 = .ok (.getfield 47, 3) := by decide +kernel
theorem dX6_ofSet_49 : decode cX6_ofSet 49 = .ok (.iload 7, 2) := by decide +kernel
theorem dX6_ofSet_51 : decode cX6_ofSet 51 = .ok (.iaload, 1) := by decide +kernel
theorem dX6_ofSet_52 : decode cX6_ofSet 52 = .ok (.bipush 97, 2) := by decide +kernel
theorem dX6_ofSet_54 : decode cX6_ofSet 54 = .ok (.isub, 1) := by decide +kernel
theorem dX6_ofSet_55 : decode cX6_ofSet 55 = .ok (.ishr, 1) := by decide +kernel
theorem dX6_ofSet_56 : decode cX6_ofSet 56 = .ok (.iconst 1, 1) := by decide +kernel
theorem dX6_ofSet_57 : decode cX6_ofSet 57 = .ok (.iand, 1) := by decide +kernel
theorem dX6_ofSet_58 : decode cX6_ofSet 58 = .ok (.iconst 1, 1) := by decide +kernel
theorem dX6_ofSet_59 : decode cX6_ofSet 59 = .ok (.if_icmp .ne 7, 3) := by decide +kernel
theorem dX6_ofSet_62 : decode cX6_ofSet 62 = .ok (.iconst 1, 1) := by decide +kernel
theorem dX6_ofSet_63 : decode cX6_ofSet 63 = .ok (.goto 4, 3) := by decide +kernel
theorem dX6_ofSet_66 : decode cX6_ofSet 66 = .ok (.iconst 0, 1) := by decide +kernel
theorem dX6_ofSet_67 : decode cX6_ofSet 67 = .ok (.istore 6, 2) := by decide +kernel
theorem dX6_ofSet_69 : decode cX6_ofSet 69 = .ok (.iinc 7 1, 3) := by decide +kernel
theorem dX6_ofSet_72 : decode cX6_ofSet 72 = .ok (.goto (-39), 3) := by decide +kernel
theorem dX6_ofSet_75 : decode cX6_ofSet 75 = .ok (.iload 4, 2) := by decide +kernel
theorem dX6_ofSet_77 : decode cX6_ofSet 77 = .ok (.iconst 1, 1) := by decide +kernel
theorem dX6_ofSet_78 : decode cX6_ofSet 78 = .ok (.isub, 1) := by decide +kernel
theorem dX6_ofSet_79 : decode cX6_ofSet 79 = .ok (.aload_n 0, 1) := by decide +kernel
theorem dX6_ofSet_80 : decode cX6_ofSet 80 = .ok (.getfield 37, 3) := by decide +kernel
theorem dX6_ofSet_83 : decode cX6_ofSet 83 = .ok (.imul, 1) := by decide +kernel
theorem dX6_ofSet_84 : decode cX6_ofSet 84 = .ok (.iload 6, 2) := by decide +kernel
theorem dX6_ofSet_86 : decode cX6_ofSet 86 = .ok (.ifCond .eq 7, 3) := by decide +kernel
theorem dX6_ofSet_89 : decode cX6_ofSet 89 = .ok (.iconst 0, 1) := by decide +kernel
theorem dX6_ofSet_90 : decode cX6_ofSet 90 = .ok (.goto 7, 3) := by decide +kernel
theorem dX6_ofSet_93 : decode cX6_ofSet 93 = .ok (.aload_n 0, 1) := by decide +kernel
theorem dX6_ofSet_94 : decode cX6_ofSet 94 = .ok (.getfield 44, 3) := by decide +kernel
theorem dX6_ofSet_97 : decode cX6_ofSet 97 = .ok (.iadd, 1) := by decide +kernel
theorem dX6_ofSet_98 : decode cX6_ofSet 98 = .ok (.istore 7, 2) := by decide +kernel
theorem dX6_ofSet_100 : decode cX6_ofSet 100 = .ok (.iload 5, 2) := by decide +kernel
theorem dX6_ofSet_102 : decode cX6_ofSet 102 = .ok (.iload 7, 2) := by decide +kernel
theorem dX6_ofSet_104 : decode cX6_ofSet 104 = .ok (.if_icmp .ge 8, 3) := by decide +kernel
theorem dX6_ofSet_107 : decode cX6_ofSet 107 = .ok (.iload 5, 2) := by decide +kernel
theorem dX6_ofSet_109 : decode cX6_ofSet 109 = .ok (.goto 5, 3) := by decide +kernel
theorem dX6_ofSet_112 : decode cX6_ofSet 112 = .ok (.iload 7, 2) := by decide +kernel
theorem dX6_ofSet_114 : decode cX6_ofSet 114 = .ok (.ireturn, 1) := by decide +kernel
theorem dX6_ofRow_0 : decode cX6_ofRow 0 = .ok (.ldc 138, 2) := by decide +kernel
theorem dX6_ofRow_2 : decode cX6_ofRow 2 = .ok (.istore 5, 2) := by decide +kernel
theorem dX6_ofRow_4 : decode cX6_ofRow 4 = .ok (.iload_n 3, 1) := by decide +kernel
theorem dX6_ofRow_5 : decode cX6_ofRow 5 = .ok (.istore 6, 2) := by decide +kernel
theorem dX6_ofRow_7 : decode cX6_ofRow 7 = .ok (.iload 6, 2) := by decide +kernel
theorem dX6_ofRow_9 : decode cX6_ofRow 9 = .ok (.iload 4, 2) := by decide +kernel
theorem dX6_ofRow_11 : decode cX6_ofRow 11 = .ok (.if_icmp .gt 47, 3) := by decide +kernel
theorem dX6_ofRow_14 : decode cX6_ofRow 14 = .ok (.aload_n 0, 1) := by decide +kernel
theorem dX6_ofRow_15 : decode cX6_ofRow 15 = .ok (.iload_n 1, 1) := by decide +kernel
theorem dX6_ofRow_16 : decode cX6_ofRow 16 = .ok (.iload_n 3, 1) := by decide +kernel
theorem dX6_ofRow_17 : decode cX6_ofRow 17 = .ok (.iload 6, 2) := by decide +kernel
theorem dX6_ofRow_19 : decode cX6_ofRow 19 = .ok (.invokevirtual 139, 3) := by decide +kernel
theorem dX6_ofRow_22 : decode cX6_ofRow 22 = .ok (.aload_n 0, 1) := by decide +kernel
theorem dX6_ofRow_23 : decode cX6_ofRow 23 = .ok (.iload_n 2, 1) := by decide +kernel
theorem dX6_ofRow_24 : decode cX6_ofRow 24 = .ok (.iload 6, 2) := by decide +kernel
theorem dX6_ofRow_26 : decode cX6_ofRow 26 = .ok (.iload 4, 2) := by decide +kernel
theorem dX6_ofRow_28 : decode cX6_ofRow 28 = .ok (.invokevirtual 139, 3) := by decide +kernel
theorem dX6_ofRow_31 : decode cX6_ofRow 31 = .ok (.invokestatic 142, 3) := by decide +kernel
theorem dX6_ofRow_34 : decode cX6_ofRow 34 = .ok (.istore 7, 2) := by decide +kernel
theorem dX6_ofRow_36 : decode cX6_ofRow 36 = .ok (.iload 7, 2) := by decide +kernel
theorem dX6_ofRow_38 : decode cX6_ofRow 38 = .ok (.iload 5, 2) := by decide +kernel
theorem dX6_ofRow_40 : decode cX6_ofRow 40 = .ok (.if_icmp .ge 8, 3) := by decide +kernel
theorem dX6_ofRow_43 : decode cX6_ofRow 43 = .ok (.iload 7, 2) := by decide +kernel
theorem dX6_ofRow_45 : decode cX6_ofRow 45 = .ok (.goto 5, 3) := by decide +kernel
theorem dX6_ofRow_48 : decode cX6_ofRow 48 = .ok (.iload 5, 2) := by decide +kernel
theorem dX6_ofRow_50 : decode cX6_ofRow 50 = .ok (.istore 5, 2) := by decide +kernel
theorem dX6_ofRow_52 : decode cX6_ofRow 52 = .ok (.iinc 6 1, 3) := by decide +kernel
theorem dX6_ofRow_55 : decode cX6_ofRow 55 = .ok (.goto (-48), 3) := by decide +kernel
theorem dX6_ofRow_58 : decode cX6_ofRow 58 = .ok (.iload 5, 2) := by decide +kernel
theorem dX6_ofRow_60 : decode cX6_ofRow 60 = .ok (.ireturn, 1) := by decide +kernel
theorem dX6_ofPlus_0 : decode cX6_ofPlus 0 = .ok (.aload_n 0, 1) := by decide +kernel
theorem dX6_ofPlus_1 : decode cX6_ofPlus 1 = .ok (.iload_n 2, 1) := by decide +kernel
theorem dX6_ofPlus_2 : decode cX6_ofPlus 2 = .ok (.iload_n 3, 1) := by decide +kernel
theorem dX6_ofPlus_3 : decode cX6_ofPlus 3 = .ok (.iload 4, 2) := by decide +kernel
theorem dX6_ofPlus_5 : decode cX6_ofPlus 5 = .ok (.invokevirtual 139, 3) := by decide +kernel
theorem dX6_ofPlus_8 : decode cX6_ofPlus 8 = .ok (.istore 5, 2) := by decide +kernel
theorem dX6_ofPlus_10 : decode cX6_ofPlus 10 = .ok (.iload_n 3, 1) := by decide +kernel
theorem dX6_ofPlus_11 : decode cX6_ofPlus 11 = .ok (.iconst 1, 1) := by decide +kernel
theorem dX6_ofPlus_12 : decode cX6_ofPlus 12 = .ok (.iadd, 1) := by decide +kernel
theorem dX6_ofPlus_13 : decode cX6_ofPlus 13 = .ok (.istore 6, 2) := by decide +kernel
theorem dX6_ofPlus_15 : decode cX6_ofPlus 15 = .ok (.iload 6, 2) := by decide +kernel
theorem dX6_ofPlus_17 : decode cX6_ofPlus 17 = .ok (.iload 4, 2) := by decide +kernel
theorem dX6_ofPlus_19 : decode cX6_ofPlus 19 = .ok (.if_icmp .ge 47, 3) := by decide +kernel
theorem dX6_ofPlus_22 : decode cX6_ofPlus 22 = .ok (.aload_n 0, 1) := by decide +kernel
theorem dX6_ofPlus_23 : decode cX6_ofPlus 23 = .ok (.iload_n 1, 1) := by decide +kernel
theorem dX6_ofPlus_24 : decode cX6_ofPlus 24 = .ok (.iload_n 3, 1) := by decide +kernel
theorem dX6_ofPlus_25 : decode cX6_ofPlus 25 = .ok (.iload 6, 2) := by decide +kernel
theorem dX6_ofPlus_27 : decode cX6_ofPlus 27 = .ok (.invokevirtual 139, 3) := by decide +kernel
theorem dX6_ofPlus_30 : decode cX6_ofPlus 30 = .ok (.aload_n 0, 1) := by decide +kernel
theorem dX6_ofPlus_31 : decode cX6_ofPlus 31 = .ok (.iload_n 2, 1) := by decide +kernel
theorem dX6_ofPlus_32 : decode cX6_ofPlus 32 = .ok (.iload 6, 2) := by decide +kernel
theorem dX6_ofPlus_34 : decode cX6_ofPlus 34 = .ok (.iload 4, 2) := by decide +kernel
theorem dX6_ofPlus_36 : decode cX6_ofPlus 36 = .ok (.invokevirtual 139, 3) := by decide +kernel
theorem dX6_ofPlus_39 : decode cX6_ofPlus 39 = .ok (.invokestatic 142, 3) := by decide +kernel
theorem dX6_ofPlus_42 : decode cX6_ofPlus 42 = .ok (.istore 7, 2) := by decide +kernel
theorem dX6_ofPlus_44 : decode cX6_ofPlus 44 = .ok (.iload 7, 2) := by decide +kernel
theorem dX6_ofPlus_46 : decode cX6_ofPlus 46 = .ok (.iload 5, 2) := by decide +kernel
theorem dX6_ofPlus_48 : decode cX6_ofPlus 48 = .ok (.if_icmp .ge 8, 3) := by decide +kernel
theorem dX6_ofPlus_51 : decode cX6_ofPlus 51 = .ok (.iload 7, 2) := by decide +kernel
theorem dX6_ofPlus_53 : decode cX6_ofPlus 53 = .ok (.goto 5, 3) := by decide +kernel
theorem dX6_ofPlus_56 : decode cX6_ofPlus 56 = .ok (.iload 5, 2) := by decide +kernel
theorem dX6_ofPlus_58 : decode cX6_ofPlus 58 = .ok (.istore 5, 2) := by decide +kernel
theorem dX6_ofPlus_60 : decode cX6_ofPlus 60 = .ok (.iinc 6 1, 3) := by decide +kernel
theorem dX6_ofPlus_63 : decode cX6_ofPlus 63 = .ok (.goto (-48), 3) := by decide +kernel
theorem dX6_ofPlus_66 : decode cX6_ofPlus 66 = .ok (.iload 5, 2) := by decide +kernel
theorem dX6_ofPlus_68 : decode cX6_ofPlus 68 = .ok (.ireturn, 1) := by decide +kernel
theorem dX6_ofNode_0 : decode cX6_ofNode 0 = .ok (.aload_n 0, 1) := by decide +kernel
theorem dX6_ofNode_1 : decode cX6_ofNode 1 = .ok (.getfield 16, 3) := by decide +kernel
theorem dX6_ofNode_4 : decode cX6_ofNode 4 = .ok (.iload_n 1, 1) := by decide +kernel
theorem dX6_ofNode_5 : decode cX6_ofNode 5 = .ok (.iaload, 1) := by decide +kernel
theorem dX6_ofNode_6 : decode cX6_ofNode 6 = .ok (.istore 4, 2) := by decide +kernel
theorem dX6_ofNode_8 : decode cX6_ofNode 8 = .ok (.aload_n 0, 1) := by decide +kernel
theorem dX6_ofNode_9 : decode cX6_ofNode 9 = .ok (.getfield 19, 3) := by decide +kernel
theorem dX6_ofNode_12 : decode cX6_ofNode 12 = .ok (.iload_n 1, 1) := by decide +kernel
theorem dX6_ofNode_13 : decode cX6_ofNode 13 = .ok (.iaload, 1) := by decide +kernel
theorem dX6_ofNode_14 : decode cX6_ofNode 14 = .ok (.istore 5, 2) := by decide +kernel
theorem dX6_ofNode_16 : decode cX6_ofNode 16 = .ok (.aload_n 0, 1) := by decide +kernel
theorem dX6_ofNode_17 : decode cX6_ofNode 17 = .ok (.getfield 13, 3) := by decide +kernel
theorem dX6_ofNode_20 : decode cX6_ofNode 20 = .ok (.iload_n 1, 1) := by decide +kernel
theorem dX6_ofNode_21 : decode cX6_ofNode 21 = .ok (.iaload, 1) := by decide +kernel
theorem dX6_ofNode_22 : decode cX6_ofNode 22 = .ok (.tableswitch 167 0 6 #[42, 51, 62, 167, 167, 101, 140], 42) := by decide +kernel
theorem dX6_ofNode_64 : decode cX6_ofNode 64 = .ok (.aload_n 0, 1) := by decide +kernel
theorem dX6_ofNode_65 : decode cX6_ofNode 65 = .ok (.iload 4, 2) := by decide +kernel
theorem dX6_ofNode_67 : decode cX6_ofNode 67 = .ok (.iload_n 2, 1) := by decide +kernel
theorem dX6_ofNode_68 : decode cX6_ofNode 68 = .ok (.iload_n 3, 1) := by decide +kernel
theorem dX6_ofNode_69 : decode cX6_ofNode 69 = .ok (.invokevirtual 146, 3) := by decide +kernel
theorem dX6_ofNode_72 : decode cX6_ofNode 72 = .ok (.ireturn, 1) := by decide +kernel
theorem dX6_ofNode_73 : decode cX6_ofNode 73 = .ok (.aload_n 0, 1) := by decide +kernel
theorem dX6_ofNode_74 : decode cX6_ofNode 74 = .ok (.iload 4, 2) := by decide +kernel
theorem dX6_ofNode_76 : decode cX6_ofNode 76 = .ok (.iload 5, 2) := by decide +kernel
theorem dX6_ofNode_78 : decode cX6_ofNode 78 = .ok (.iload_n 2, 1) := by decide +kernel
theorem dX6_ofNode_79 : decode cX6_ofNode 79 = .ok (.iload_n 3, 1) := by decide +kernel
theorem dX6_ofNode_80 : decode cX6_ofNode 80 = .ok (.invokevirtual 149, 3) := by decide +kernel
theorem dX6_ofNode_83 : decode cX6_ofNode 83 = .ok (.ireturn, 1) := by decide +kernel
theorem dX6_ofNode_84 : decode cX6_ofNode 84 = .ok (.aload_n 0, 1) := by decide +kernel
theorem dX6_ofNode_85 : decode cX6_ofNode 85 = .ok (.iload 4, 2) := by decide +kernel
theorem dX6_ofNode_87 : decode cX6_ofNode 87 = .ok (.iload_n 2, 1) := by decide +kernel
theorem dX6_ofNode_88 : decode cX6_ofNode 88 = .ok (.iload_n 3, 1) := by decide +kernel
theorem dX6_ofNode_89 : decode cX6_ofNode 89 = .ok (.invokevirtual 139, 3) := by decide +kernel
theorem dX6_ofNode_92 : decode cX6_ofNode 92 = .ok (.aload_n 0, 1) := by decide +kernel
theorem dX6_ofNode_93 : decode cX6_ofNode 93 = .ok (.iload 5, 2) := by decide +kernel
theorem dX6_ofNode_95 : decode cX6_ofNode 95 = .ok (.iload_n 2, 1) := by decide +kernel
theorem dX6_ofNode_96 : decode cX6_ofNode 96 = .ok (.iload_n 3, 1) := by decide +kernel
theorem dX6_ofNode_97 : decode cX6_ofNode 97 = .ok (.invokevirtual 139, 3) := by decide +kernel
theorem dX6_ofNode_100 : decode cX6_ofNode 100 = .ok (.if_icmp .ge 14, 3) := by decide +kernel
theorem dX6_ofNode_103 : decode cX6_ofNode 103 = .ok (.aload_n 0, 1) := by decide +kernel
theorem dX6_ofNode_104 : decode cX6_ofNode 104 = .ok (.iload 4, 2) := by decide +kernel
theorem dX6_ofNode_106 : decode cX6_ofNode 106 = .ok (.iload_n 2, 1) := by decide +kernel
theorem dX6_ofNode_107 : decode cX6_ofNode 107 = .ok (.iload_n 3, 1) := by decide +kernel
theorem dX6_ofNode_108 : decode cX6_ofNode 108 = .ok (.invokevirtual 139, 3) := by decide +kernel
theorem dX6_ofNode_111 : decode cX6_ofNode 111 = .ok (.goto 11, 3) := by decide +kernel
theorem dX6_ofNode_114 : decode cX6_ofNode 114 = .ok (.aload_n 0, 1) := by decide +kernel
theorem dX6_ofNode_115 : decode cX6_ofNode 115 = .ok (.iload 5, 2) := by decide +kernel
theorem dX6_ofNode_117 : decode cX6_ofNode 117 = .ok (.iload_n 2, 1) := by decide +kernel
theorem dX6_ofNode_118 : decode cX6_ofNode 118 = .ok (.iload_n 3, 1) := by decide +kernel
theorem dX6_ofNode_119 : decode cX6_ofNode 119 = .ok (.invokevirtual 139, 3) := by decide +kernel
theorem dX6_ofNode_122 : decode cX6_ofNode 122 = .ok (.ireturn, 1) := by decide +kernel
theorem dX6_ofNode_123 : decode cX6_ofNode 123 = .ok (.aload_n 0, 1) := by decide +kernel
theorem dX6_ofNode_124 : decode cX6_ofNode 124 = .ok (.iload 4, 2) := by decide +kernel
theorem dX6_ofNode_126 : decode cX6_ofNode 126 = .ok (.iload_n 2, 1) := by decide +kernel
theorem dX6_ofNode_127 : decode cX6_ofNode 127 = .ok (.iload_n 3, 1) := by decide +kernel
theorem dX6_ofNode_128 : decode cX6_ofNode 128 = .ok (.invokevirtual 139, 3) := by decide +kernel
theorem dX6_ofNode_131 : decode cX6_ofNode 131 = .ok (.iload_n 3, 1) := by decide +kernel
theorem dX6_ofNode_132 : decode cX6_ofNode 132 = .ok (.iload_n 2, 1) := by decide +kernel
theorem dX6_ofNode_133 : decode cX6_ofNode 133 = .ok (.isub, 1) := by decide +kernel
theorem dX6_ofNode_134 : decode cX6_ofNode 134 = .ok (.aload_n 0, 1) := by decide +kernel
theorem dX6_ofNode_135 : decode cX6_ofNode 135 = .ok (.getfield 37, 3) := by decide +kernel
theorem dX6_ofNode_138 : decode cX6_ofNode 138 = .ok (.imul, 1) := by decide +kernel
theorem dX6_ofNode_139 : decode cX6_ofNode 139 = .ok (.if_icmp .ge 14, 3) := by decide +kernel
theorem dX6_ofNode_142 : decode cX6_ofNode 142 = .ok (.aload_n 0, 1) := by decide +kernel
theorem dX6_ofNode_143 : decode cX6_ofNode 143 = .ok (.iload 4, 2) := by decide +kernel
theorem dX6_ofNode_145 : decode cX6_ofNode 145 = .ok (.iload_n 2, 1) := by decide +kernel
theorem dX6_ofNode_146 : decode cX6_ofNode 146 = .ok (.iload_n 3, 1) := by decide +kernel
theorem dX6_ofNode_147 : decode cX6_ofNode 147 = .ok (.invokevirtual 139, 3) := by decide +kernel
theorem dX6_ofNode_150 : decode cX6_ofNode 150 = .ok (.goto 11, 3) := by decide +kernel
theorem dX6_ofNode_153 : decode cX6_ofNode 153 = .ok (.iload_n 3, 1) := by decide +kernel
theorem dX6_ofNode_154 : decode cX6_ofNode 154 = .ok (.iload_n 2, 1) := by decide +kernel
theorem dX6_ofNode_155 : decode cX6_ofNode 155 = .ok (.isub, 1) := by decide +kernel
theorem dX6_ofNode_156 : decode cX6_ofNode 156 = .ok (.aload_n 0, 1) := by decide +kernel
theorem dX6_ofNode_157 : decode cX6_ofNode 157 = .ok (.getfield 37, 3) := by decide +kernel
theorem dX6_ofNode_160 : decode cX6_ofNode 160 = .ok (.imul, 1) := by decide +kernel
theorem dX6_ofNode_161 : decode cX6_ofNode 161 = .ok (.ireturn, 1) := by decide +kernel
theorem dX6_ofNode_162 : decode cX6_ofNode 162 = .ok (.aload_n 0, 1) := by decide +kernel
theorem dX6_ofNode_163 : decode cX6_ofNode 163 = .ok (.iload 4, 2) := by decide +kernel
theorem dX6_ofNode_165 : decode cX6_ofNode 165 = .ok (.iload_n 2, 1) := by decide +kernel
theorem dX6_ofNode_166 : decode cX6_ofNode 166 = .ok (.iload_n 3, 1) := by decide +kernel
theorem dX6_ofNode_167 : decode cX6_ofNode 167 = .ok (.invokevirtual 139, 3) := by decide +kernel
theorem dX6_ofNode_170 : decode cX6_ofNode 170 = .ok (.iload 5, 2) := by decide +kernel
theorem dX6_ofNode_172 : decode cX6_ofNode 172 = .ok (.if_icmp .gt 14, 3) := by decide +kernel
theorem dX6_ofNode_175 : decode cX6_ofNode 175 = .ok (.aload_n 0, 1) := by decide +kernel
theorem dX6_ofNode_176 : decode cX6_ofNode 176 = .ok (.iload 4, 2) := by decide +kernel
theorem dX6_ofNode_178 : decode cX6_ofNode 178 = .ok (.iload_n 2, 1) := by decide +kernel
theorem dX6_ofNode_179 : decode cX6_ofNode 179 = .ok (.iload_n 3, 1) := by decide +kernel
theorem dX6_ofNode_180 : decode cX6_ofNode 180 = .ok (.invokevirtual 139, 3) := by decide +kernel
theorem dX6_ofNode_183 : decode cX6_ofNode 183 = .ok (.goto 5, 3) := by decide +kernel
theorem dX6_ofNode_186 : decode cX6_ofNode 186 = .ok (.ldc 138, 2) := by decide +kernel
theorem dX6_ofNode_188 : decode cX6_ofNode 188 = .ok (.ireturn, 1) := by decide +kernel
theorem dX6_ofNode_189 : decode cX6_ofNode 189 = .ok (.aload_n 0, 1) := by decide +kernel
theorem dX6_ofNode_190 : decode cX6_ofNode 190 = .ok (.iload_n 1, 1) := by decide +kernel
theorem dX6_ofNode_191 : decode cX6_ofNode 191 = .ok (.iload 4, 2) := by decide +kernel
theorem dX6_ofNode_193 : decode cX6_ofNode 193 = .ok (.iload_n 2, 1) := by decide +kernel
theorem dX6_ofNode_194 : decode cX6_ofNode 194 = .ok (.iload_n 3, 1) := by decide +kernel
theorem dX6_ofNode_195 : decode cX6_ofNode 195 = .ok (.invokevirtual 153, 3) := by decide +kernel
theorem dX6_ofNode_198 : decode cX6_ofNode 198 = .ok (.ireturn, 1) := by decide +kernel
theorem dX6_work_0 : decode cX6_work 0 = .ok (.aload_n 0, 1) := by decide +kernel
theorem dX6_work_1 : decode cX6_work 1 = .ok (.getfield 128, 3) := by decide +kernel
theorem dX6_work_4 : decode cX6_work 4 = .ok (.ifCond .eq 4, 3) := by decide +kernel
theorem dX6_work_7 : decode cX6_work 7 = .ok (.return_, 1) := by decide +kernel
theorem dX6_work_8 : decode cX6_work 8 = .ok (.aload_n 0, 1) := by decide +kernel
theorem dX6_work_9 : decode cX6_work 9 = .ok (.iconst 1, 1) := by decide +kernel
theorem dX6_work_10 : decode cX6_work 10 = .ok (.putfield 128, 3) := by decide +kernel
theorem dX6_work_13 : decode cX6_work 13 = .ok (.iconst 0, 1) := by decide +kernel
theorem dX6_work_14 : decode cX6_work 14 = .ok (.istore_n 1, 1) := by decide +kernel
theorem dX6_work_15 : decode cX6_work 15 = .ok (.iload_n 1, 1) := by decide +kernel
theorem dX6_work_16 : decode cX6_work 16 = .ok (.aload_n 0, 1) := by decide +kernel
theorem dX6_work_17 : decode cX6_work 17 = .ok (.getfield 122, 3) := by decide +kernel
theorem dX6_work_20 : decode cX6_work 20 = .ok (.if_icmp .ge 158, 3) := by decide +kernel
theorem dX6_work_23 : decode cX6_work 23 = .ok (.iconst 0, 1) := by decide +kernel
theorem dX6_work_24 : decode cX6_work 24 = .ok (.istore_n 2, 1) := by decide +kernel
theorem dX6_work_25 : decode cX6_work 25 = .ok (.iload_n 2, 1) := by decide +kernel
theorem dX6_work_26 : decode cX6_work 26 = .ok (.aload_n 0, 1) := by decide +kernel
theorem dX6_work_27 : decode cX6_work 27 = .ok (.getfield 135, 3) := by decide +kernel
theorem dX6_work_30 : decode cX6_work 30 = .ok (.if_icmp .gt 49, 3) := by decide +kernel
theorem dX6_work_33 : decode cX6_work 33 = .ok (.iload_n 2, 1) := by decide +kernel
theorem dX6_work_34 : decode cX6_work 34 = .ok (.istore_n 3, 1) := by decide +kernel
theorem dX6_work_35 : decode cX6_work 35 = .ok (.iload_n 3, 1) := by decide +kernel
theorem dX6_work_36 : decode cX6_work 36 = .ok (.aload_n 0, 1) := by decide +kernel
theorem dX6_work_37 : decode cX6_work 37 = .ok (.getfield 135, 3) := by decide +kernel
theorem dX6_work_40 : decode cX6_work 40 = .ok (.if_icmp .gt 33, 3) := by decide +kernel
theorem dX6_work_43 : decode cX6_work 43 = .ok (.aload_n 0, 1) := by decide +kernel
theorem dX6_work_44 : decode cX6_work 44 = .ok (.getfield 50, 3) := by decide +kernel
theorem dX6_work_47 : decode cX6_work 47 = .ok (.sipush 625, 3) := by decide +kernel
theorem dX6_work_50 : decode cX6_work 50 = .ok (.iload_n 1, 1) := by decide +kernel
theorem dX6_work_51 : decode cX6_work 51 = .ok (.imul, 1) := by decide +kernel
theorem dX6_work_52 : decode cX6_work 52 = .ok (.bipush 25, 2) := by decide +kernel
theorem dX6_work_54 : decode cX6_work 54 = .ok (.iload_n 2, 1) := by decide +kernel
theorem dX6_work_55 : decode cX6_work 55 = .ok (.imul, 1) := by decide +kernel
theorem dX6_work_56 : decode cX6_work 56 = .ok (.iadd, 1) := by decide +kernel
theorem dX6_work_57 : decode cX6_work 57 = .ok (.iload_n 3, 1) := by decide +kernel
theorem dX6_work_58 : decode cX6_work 58 = .ok (.iadd, 1) := by decide +kernel
theorem dX6_work_59 : decode cX6_work 59 = .ok (.aload_n 0, 1) := by decide +kernel
theorem dX6_work_60 : decode cX6_work 60 = .ok (.iload_n 1, 1) := by decide +kernel
theorem dX6_work_61 : decode cX6_work 61 = .ok (.iload_n 2, 1) := by decide +kernel
theorem dX6_work_62 : decode cX6_work 62 = .ok (.iload_n 3, 1) := by decide +kernel
theorem dX6_work_63 : decode cX6_work 63 = .ok (.invokevirtual 156, 3) := by decide +kernel
theorem dX6_work_66 : decode cX6_work 66 = .ok (.iastore, 1) := by decide +kernel
theorem dX6_work_67 : decode cX6_work 67 = .ok (.iinc 3 1, 3) := by decide +kernel
theorem dX6_work_70 : decode cX6_work 70 = .ok (.goto (-35), 3) := by decide +kernel
theorem dX6_work_73 : decode cX6_work 73 = .ok (.iinc 2 1, 3) := by decide +kernel
theorem dX6_work_76 : decode cX6_work 76 = .ok (.goto (-51), 3) := by decide +kernel
theorem dX6_work_79 : decode cX6_work 79 = .ok (.iconst 0, 1) := by decide +kernel
theorem dX6_work_80 : decode cX6_work 80 = .ok (.istore_n 2, 1) := by decide +kernel
theorem dX6_work_81 : decode cX6_work 81 = .ok (.iload_n 2, 1) := by decide +kernel
theorem dX6_work_82 : decode cX6_work 82 = .ok (.aload_n 0, 1) := by decide +kernel
theorem dX6_work_83 : decode cX6_work 83 = .ok (.getfield 135, 3) := by decide +kernel
theorem dX6_work_86 : decode cX6_work 86 = .ok (.if_icmp .gt 86, 3) := by decide +kernel
theorem dX6_work_89 : decode cX6_work 89 = .ok (.aload_n 0, 1) := by decide +kernel
theorem dX6_work_90 : decode cX6_work 90 = .ok (.getfield 13, 3) := by decide +kernel
theorem dX6_work_93 : decode cX6_work 93 = .ok (.iload_n 1, 1) := by decide +kernel
theorem dX6_work_94 : decode cX6_work 94 = .ok (.iaload, 1) := by decide +kernel
theorem dX6_work_95 : decode cX6_work 95 = .ok (.iconst 3, 1) := by decide +kernel
theorem dX6_work_96 : decode cX6_work 96 = .ok (.if_icmp .ne 76, 3) := by decide +kernel
theorem dX6_work_99 : decode cX6_work 99 = .ok (.iload_n 2, 1) := by decide +kernel
theorem dX6_work_100 : decode cX6_work 100 = .ok (.istore_n 3, 1) := by decide +kernel
theorem dX6_work_101 : decode cX6_work 101 = .ok (.iload_n 3, 1) := by decide +kernel
theorem dX6_work_102 : decode cX6_work 102 = .ok (.aload_n 0, 1) := by decide +kernel
theorem dX6_work_103 : decode cX6_work 103 = .ok (.getfield 135, 3) := by decide +kernel
theorem dX6_work_106 : decode cX6_work 106 = .ok (.if_icmp .gt 60, 3) := by decide +kernel
theorem dX6_work_109 : decode cX6_work 109 = .ok (.iload_n 3, 1) := by decide +kernel
theorem dX6_work_110 : decode cX6_work 110 = .ok (.iload_n 2, 1) := by decide +kernel
theorem dX6_work_111 : decode cX6_work 111 = .ok (.isub, 1) := by decide +kernel
theorem dX6_work_112 : decode cX6_work 112 = .ok (.aload_n 0, 1) := by decide +kernel
theorem dX6_work_113 : decode cX6_work 113 = .ok (.getfield 37, 3) := by decide +kernel
theorem dX6_work_116 : decode cX6_work 116 = .ok (.imul, 1) := by decide +kernel
theorem dX6_work_117 : decode cX6_work 117 = .ok (.istore 4, 2) := by decide +kernel
theorem dX6_work_119 : decode cX6_work 119 = .ok (.aload_n 0, 1) := by decide +kernel
theorem dX6_work_120 : decode cX6_work 120 = .ok (.getfield 50, 3) := by decide +kernel
theorem dX6_work_123 : decode cX6_work 123 = .ok (.sipush 625, 3) := by decide +kernel
theorem dX6_work_126 : decode cX6_work 126 = .ok (.iload_n 1, 1) := by decide +kernel
theorem dX6_work_127 : decode cX6_work 127 = .ok (.imul, 1) := by decide +kernel
theorem dX6_work_128 : decode cX6_work 128 = .ok (.bipush 25, 2) := by decide +kernel
theorem dX6_work_130 : decode cX6_work 130 = .ok (.iload_n 2, 1) := by decide +kernel
theorem dX6_work_131 : decode cX6_work 131 = .ok (.imul, 1) := by decide +kernel
theorem dX6_work_132 : decode cX6_work 132 = .ok (.iadd, 1) := by decide +kernel
theorem dX6_work_133 : decode cX6_work 133 = .ok (.iload_n 3, 1) := by decide +kernel
theorem dX6_work_134 : decode cX6_work 134 = .ok (.iadd, 1) := by decide +kernel
theorem dX6_work_135 : decode cX6_work 135 = .ok (.aload_n 0, 1) := by decide +kernel
theorem dX6_work_136 : decode cX6_work 136 = .ok (.iload_n 1, 1) := by decide +kernel
theorem dX6_work_137 : decode cX6_work 137 = .ok (.iload_n 2, 1) := by decide +kernel
theorem dX6_work_138 : decode cX6_work 138 = .ok (.iload_n 3, 1) := by decide +kernel
theorem dX6_work_139 : decode cX6_work 139 = .ok (.invokevirtual 139, 3) := by decide +kernel
theorem dX6_work_142 : decode cX6_work 142 = .ok (.iload 4, 2) := by decide +kernel
theorem dX6_work_144 : decode cX6_work 144 = .ok (.if_icmp .ge 13, 3) := by decide +kernel
theorem dX6_work_147 : decode cX6_work 147 = .ok (.aload_n 0, 1) := by decide +kernel
theorem dX6_work_148 : decode cX6_work 148 = .ok (.iload_n 1, 1) := by decide +kernel
theorem dX6_work_149 : decode cX6_work 149 = .ok (.iload_n 2, 1) := by decide +kernel
theorem dX6_work_150 : decode cX6_work 150 = .ok (.iload_n 3, 1) := by decide +kernel
theorem dX6_work_151 : decode cX6_work 151 = .ok (.invokevirtual 139, 3) := by decide +kernel
theorem dX6_work_154 : decode cX6_work 154 = .ok (.goto 5, 3) := by decide +kernel
theorem dX6_work_157 : decode cX6_work 157 = .ok (.iload 4, 2) := by decide +kernel
theorem dX6_work_159 : decode cX6_work 159 = .ok (.iastore, 1) := by decide +kernel
theorem dX6_work_160 : decode cX6_work 160 = .ok (.iinc 3 1, 3) := by decide +kernel
theorem dX6_work_163 : decode cX6_work 163 = .ok (.goto (-62), 3) := by decide +kernel
theorem dX6_work_166 : decode cX6_work 166 = .ok (.iinc 2 1, 3) := by decide +kernel
theorem dX6_work_169 : decode cX6_work 169 = .ok (.goto (-88), 3) := by decide +kernel
theorem dX6_work_172 : decode cX6_work 172 = .ok (.iinc 1 1, 3) := by decide +kernel
theorem dX6_work_175 : decode cX6_work 175 = .ok (.goto (-160), 3) := by decide +kernel
theorem dX6_work_178 : decode cX6_work 178 = .ok (.return_, 1) := by decide +kernel
theorem dX6_cost_0 : decode cX6_cost 0 = .ok (.aload_n 0, 1) := by decide +kernel
theorem dX6_cost_1 : decode cX6_cost 1 = .ok (.getfield 122, 3) := by decide +kernel
theorem dX6_cost_4 : decode cX6_cost 4 = .ok (.ifCond .eq 20, 3) := by decide +kernel
theorem dX6_cost_7 : decode cX6_cost 7 = .ok (.iload_n 1, 1) := by decide +kernel
theorem dX6_cost_8 : decode cX6_cost 8 = .ok (.ifCond .lt 16, 3) := by decide +kernel
theorem dX6_cost_11 : decode cX6_cost 11 = .ok (.iload_n 2, 1) := by decide +kernel
theorem dX6_cost_12 : decode cX6_cost 12 = .ok (.iload_n 1, 1) := by decide +kernel
theorem dX6_cost_13 : decode cX6_cost 13 = .ok (.if_icmp .lt 11, 3) := by decide +kernel
theorem dX6_cost_16 : decode cX6_cost 16 = .ok (.iload_n 2, 1) := by decide +kernel
theorem dX6_cost_17 : decode cX6_cost 17 = .ok (.aload_n 0, 1) := by decide +kernel
theorem dX6_cost_18 : decode cX6_cost 18 = .ok (.getfield 135, 3) := by decide +kernel
theorem dX6_cost_21 : decode cX6_cost 21 = .ok (.if_icmp .le 5, 3) := by decide +kernel
theorem dX6_cost_24 : decode cX6_cost 24 = .ok (.iconst (-1), 1) := by decide +kernel
theorem dX6_cost_25 : decode cX6_cost 25 = .ok (.ireturn, 1) := by decide +kernel
theorem dX6_cost_26 : decode cX6_cost 26 = .ok (.aload_n 0, 1) := by decide +kernel
theorem dX6_cost_27 : decode cX6_cost 27 = .ok (.invokevirtual 159, 3) := by decide +kernel
theorem dX6_cost_30 : decode cX6_cost 30 = .ok (.aload_n 0, 1) := by decide +kernel
theorem dX6_cost_31 : decode cX6_cost 31 = .ok (.aload_n 0, 1) := by decide +kernel
theorem dX6_cost_32 : decode cX6_cost 32 = .ok (.getfield 122, 3) := by decide +kernel
theorem dX6_cost_35 : decode cX6_cost 35 = .ok (.iconst 1, 1) := by decide +kernel
theorem dX6_cost_36 : decode cX6_cost 36 = .ok (.isub, 1) := by decide +kernel
theorem dX6_cost_37 : decode cX6_cost 37 = .ok (.iload_n 1, 1) := by decide +kernel
theorem dX6_cost_38 : decode cX6_cost 38 = .ok (.iload_n 2, 1) := by decide +kernel
theorem dX6_cost_39 : decode cX6_cost 39 = .ok (.invokevirtual 139, 3) := by decide +kernel
theorem dX6_cost_42 : decode cX6_cost 42 = .ok (.istore_n 3, 1) := by decide +kernel
theorem dX6_cost_43 : decode cX6_cost 43 = .ok (.iload_n 3, 1) := by decide +kernel
theorem dX6_cost_44 : decode cX6_cost 44 = .ok (.ldc 138, 2) := by decide +kernel
theorem dX6_cost_46 : decode cX6_cost 46 = .ok (.if_icmp .lt 7, 3) := by decide +kernel
theorem dX6_cost_49 : decode cX6_cost 49 = .ok (.iconst (-1), 1) := by decide +kernel
theorem dX6_cost_50 : decode cX6_cost 50 = .ok (.goto 4, 3) := by decide +kernel
theorem dX6_cost_53 : decode cX6_cost 53 = .ok (.iload_n 3, 1) := by decide +kernel
theorem dX6_cost_54 : decode cX6_cost 54 = .ok (.ireturn, 1) := by decide +kernel
theorem dX6_matches_0 : decode cX6_matches 0 = .ok (.aload_n 0, 1) := by decide +kernel
theorem dX6_matches_1 : decode cX6_matches 1 = .ok (.iload_n 1, 1) := by decide +kernel
theorem dX6_matches_2 : decode cX6_matches 2 = .ok (.iload_n 2, 1) := by decide +kernel
theorem dX6_matches_3 : decode cX6_matches 3 = .ok (.invokevirtual 162, 3) := by decide +kernel
theorem dX6_matches_6 : decode cX6_matches 6 = .ok (.istore_n 3, 1) := by decide +kernel
theorem dX6_matches_7 : decode cX6_matches 7 = .ok (.iload_n 3, 1) := by decide +kernel
theorem dX6_matches_8 : decode cX6_matches 8 = .ok (.ifCond .lt 15, 3) := by decide +kernel
theorem dX6_matches_11 : decode cX6_matches 11 = .ok (.iload_n 3, 1) := by decide +kernel
theorem dX6_matches_12 : decode cX6_matches 12 = .ok (.aload_n 0, 1) := by decide +kernel
theorem dX6_matches_13 : decode cX6_matches 13 = .ok (.getfield 132, 3) := by decide +kernel
theorem dX6_matches_16 : decode cX6_matches 16 = .ok (.if_icmp .gt 7, 3) := by decide +kernel
theorem dX6_matches_19 : decode cX6_matches 19 = .ok (.iconst 1, 1) := by decide +kernel
theorem dX6_matches_20 : decode cX6_matches 20 = .ok (.goto 4, 3) := by decide +kernel
theorem dX6_matches_23 : decode cX6_matches 23 = .ok (.iconst 0, 1) := by decide +kernel
theorem dX6_matches_24 : decode cX6_matches 24 = .ok (.ireturn, 1) := by decide +kernel
theorem dX6_before_0 : decode cX6_before 0 = .ok (.aload_n 0, 1) := by decide +kernel
theorem dX6_before_1 : decode cX6_before 1 = .ok (.iload_n 2, 1) := by decide +kernel
theorem dX6_before_2 : decode cX6_before 2 = .ok (.iload_n 3, 1) := by decide +kernel
theorem dX6_before_3 : decode cX6_before 3 = .ok (.invokevirtual 162, 3) := by decide +kernel
theorem dX6_before_6 : decode cX6_before 6 = .ok (.istore 6, 2) := by decide +kernel
theorem dX6_before_8 : decode cX6_before 8 = .ok (.aload_n 0, 1) := by decide +kernel
theorem dX6_before_9 : decode cX6_before 9 = .ok (.iload 4, 2) := by decide +kernel
theorem dX6_before_11 : decode cX6_before 11 = .ok (.iload 5, 2) := by decide +kernel
theorem dX6_before_13 : decode cX6_before 13 = .ok (.invokevirtual 162, 3) := by decide +kernel
theorem dX6_before_16 : decode cX6_before 16 = .ok (.istore 7, 2) := by decide +kernel
theorem dX6_before_18 : decode cX6_before 18 = .ok (.iload_n 1, 1) := by decide +kernel
theorem dX6_before_19 : decode cX6_before 19 = .ok (.ifCond .eq 41, 3) := by decide +kernel
theorem dX6_before_22 : decode cX6_before 22 = .ok (.iload 6, 2) := by decide +kernel
theorem dX6_before_24 : decode cX6_before 24 = .ok (.iload 7, 2) := by decide +kernel
theorem dX6_before_26 : decode cX6_before 26 = .ok (.if_icmp .lt 28, 3) := by decide +kernel
theorem dX6_before_29 : decode cX6_before 29 = .ok (.iload 6, 2) := by decide +kernel
theorem dX6_before_31 : decode cX6_before 31 = .ok (.iload 7, 2) := by decide +kernel
theorem dX6_before_33 : decode cX6_before 33 = .ok (.if_icmp .ne 25, 3) := by decide +kernel
theorem dX6_before_36 : decode cX6_before 36 = .ok (.iload_n 2, 1) := by decide +kernel
theorem dX6_before_37 : decode cX6_before 37 = .ok (.iload 4, 2) := by decide +kernel
theorem dX6_before_39 : decode cX6_before 39 = .ok (.if_icmp .lt 15, 3) := by decide +kernel
theorem dX6_before_42 : decode cX6_before 42 = .ok (.iload_n 2, 1) := by decide +kernel
theorem dX6_before_43 : decode cX6_before 43 = .ok (.iload 4, 2) := by decide +kernel
theorem dX6_before_45 : decode cX6_before 45 = .ok (.if_icmp .ne 13, 3) := by decide +kernel
theorem dX6_before_48 : decode cX6_before 48 = .ok (.iload_n 3, 1) := by decide +kernel
theorem dX6_before_49 : decode cX6_before 49 = .ok (.iload 5, 2) := by decide +kernel
theorem dX6_before_51 : decode cX6_before 51 = .ok (.if_icmp .le 7, 3) := by decide +kernel
theorem dX6_before_54 : decode cX6_before 54 = .ok (.iconst 1, 1) := by decide +kernel
theorem dX6_before_55 : decode cX6_before 55 = .ok (.goto 4, 3) := by decide +kernel
theorem dX6_before_58 : decode cX6_before 58 = .ok (.iconst 0, 1) := by decide +kernel
theorem dX6_before_59 : decode cX6_before 59 = .ok (.ireturn, 1) := by decide +kernel
theorem dX6_before_60 : decode cX6_before 60 = .ok (.iload_n 2, 1) := by decide +kernel
theorem dX6_before_61 : decode cX6_before 61 = .ok (.iload 4, 2) := by decide +kernel
theorem dX6_before_63 : decode cX6_before 63 = .ok (.if_icmp .lt 29, 3) := by decide +kernel
theorem dX6_before_66 : decode cX6_before 66 = .ok (.iload_n 2, 1) := by decide +kernel
theorem dX6_before_67 : decode cX6_before 67 = .ok (.iload 4, 2) := by decide +kernel
theorem dX6_before_69 : decode cX6_before 69 = .ok (.if_icmp .ne 27, 3) := by decide +kernel
theorem dX6_before_72 : decode cX6_before 72 = .ok (.iload 6, 2) := by decide +kernel
theorem dX6_before_74 : decode cX6_before 74 = .ok (.iload 7, 2) := by decide +kernel
theorem dX6_before_76 : decode cX6_before 76 = .ok (.if_icmp .lt 16, 3) := by decide +kernel
theorem dX6_before_79 : decode cX6_before 79 = .ok (.iload 6, 2) := by decide +kernel
theorem dX6_before_81 : decode cX6_before 81 = .ok (.iload 7, 2) := by decide +kernel
theorem dX6_before_83 : decode cX6_before 83 = .ok (.if_icmp .ne 13, 3) := by decide +kernel
theorem dX6_before_86 : decode cX6_before 86 = .ok (.iload_n 3, 1) := by decide +kernel
theorem dX6_before_87 : decode cX6_before 87 = .ok (.iload 5, 2) := by decide +kernel
theorem dX6_before_89 : decode cX6_before 89 = .ok (.if_icmp .le 7, 3) := by decide +kernel
theorem dX6_before_92 : decode cX6_before 92 = .ok (.iconst 1, 1) := by decide +kernel
theorem dX6_before_93 : decode cX6_before 93 = .ok (.goto 4, 3) := by decide +kernel
theorem dX6_before_96 : decode cX6_before 96 = .ok (.iconst 0, 1) := by decide +kernel
theorem dX6_before_97 : decode cX6_before 97 = .ok (.ireturn, 1) := by decide +kernel
theorem dX6_find_0 : decode cX6_find 0 = .ok (.aload_n 0, 1) := by decide +kernel
theorem dX6_find_1 : decode cX6_find 1 = .ok (.iconst (-1), 1) := by decide +kernel
theorem dX6_find_2 : decode cX6_find 2 = .ok (.putfield 53, 3) := by decide +kernel
theorem dX6_find_5 : decode cX6_find 5 = .ok (.aload_n 0, 1) := by decide +kernel
theorem dX6_find_6 : decode cX6_find 6 = .ok (.iconst (-1), 1) := by decide +kernel
theorem dX6_find_7 : decode cX6_find 7 = .ok (.putfield 56, 3) := by decide +kernel
theorem dX6_find_10 : decode cX6_find 10 = .ok (.iconst 0, 1) := by decide +kernel
theorem dX6_find_11 : decode cX6_find 11 = .ok (.istore_n 2, 1) := by decide +kernel
theorem dX6_find_12 : decode cX6_find 12 = .ok (.iload_n 2, 1) := by decide +kernel
theorem dX6_find_13 : decode cX6_find 13 = .ok (.aload_n 0, 1) := by decide +kernel
theorem dX6_find_14 : decode cX6_find 14 = .ok (.getfield 135, 3) := by decide +kernel
theorem dX6_find_17 : decode cX6_find 17 = .ok (.if_icmp .gt 69, 3) := by decide +kernel
theorem dX6_find_20 : decode cX6_find 20 = .ok (.iload_n 2, 1) := by decide +kernel
theorem dX6_find_21 : decode cX6_find 21 = .ok (.istore_n 3, 1) := by decide +kernel
theorem dX6_find_22 : decode cX6_find 22 = .ok (.iload_n 3, 1) := by decide +kernel
theorem dX6_find_23 : decode cX6_find 23 = .ok (.aload_n 0, 1) := by decide +kernel
theorem dX6_find_24 : decode cX6_find 24 = .ok (.getfield 135, 3) := by decide +kernel
theorem dX6_find_27 : decode cX6_find 27 = .ok (.if_icmp .gt 53, 3) := by decide +kernel
theorem dX6_find_30 : decode cX6_find 30 = .ok (.aload_n 0, 1) := by decide +kernel
theorem dX6_find_31 : decode cX6_find 31 = .ok (.iload_n 2, 1) := by decide +kernel
theorem dX6_find_32 : decode cX6_find 32 = .ok (.iload_n 3, 1) := by decide +kernel
theorem dX6_find_33 : decode cX6_find 33 = .ok (.invokevirtual 165, 3) := by decide +kernel
theorem dX6_find_36 : decode cX6_find 36 = .ok (.ifCond .eq 38, 3) := by decide +kernel
theorem dX6_find_39 : decode cX6_find 39 = .ok (.aload_n 0, 1) := by decide +kernel
theorem dX6_find_40 : decode cX6_find 40 = .ok (.getfield 53, 3) := by decide +kernel
theorem dX6_find_43 : decode cX6_find 43 = .ok (.ifCond .lt 21, 3) := by decide +kernel
theorem dX6_find_46 : decode cX6_find 46 = .ok (.aload_n 0, 1) := by decide +kernel
theorem dX6_find_47 : decode cX6_find 47 = .ok (.iload_n 1, 1) := by decide +kernel
theorem dX6_find_48 : decode cX6_find 48 = .ok (.iload_n 2, 1) := by decide +kernel
theorem dX6_find_49 : decode cX6_find 49 = .ok (.iload_n 3, 1) := by decide +kernel
theorem dX6_find_50 : decode cX6_find 50 = .ok (.aload_n 0, 1) := by decide +kernel
theorem dX6_find_51 : decode cX6_find 51 = .ok (.getfield 53, 3) := by decide +kernel
theorem dX6_find_54 : decode cX6_find 54 = .ok (.aload_n 0, 1) := by decide +kernel
theorem dX6_find_55 : decode cX6_find 55 = .ok (.getfield 56, 3) := by decide +kernel
theorem dX6_find_58 : decode cX6_find 58 = .ok (.invokevirtual 169, 3) := by decide +kernel
theorem dX6_find_61 : decode cX6_find 61 = .ok (.ifCond .eq 13, 3) := by decide +kernel
theorem dX6_find_64 : decode cX6_find 64 = .ok (.aload_n 0, 1) := by decide +kernel
theorem dX6_find_65 : decode cX6_find 65 = .ok (.iload_n 2, 1) := by decide +kernel
theorem dX6_find_66 : decode cX6_find 66 = .ok (.putfield 53, 3) := by decide +kernel
theorem dX6_find_69 : decode cX6_find 69 = .ok (.aload_n 0, 1) := by decide +kernel
theorem dX6_find_70 : decode cX6_find 70 = .ok (.iload_n 3, 1) := by decide +kernel
theorem dX6_find_71 : decode cX6_find 71 = .ok (.putfield 56, 3) := by decide +kernel
theorem dX6_find_74 : decode cX6_find 74 = .ok (.iinc 3 1, 3) := by decide +kernel
theorem dX6_find_77 : decode cX6_find 77 = .ok (.goto (-55), 3) := by decide +kernel
theorem dX6_find_80 : decode cX6_find 80 = .ok (.iinc 2 1, 3) := by decide +kernel
theorem dX6_find_83 : decode cX6_find 83 = .ok (.goto (-71), 3) := by decide +kernel
theorem dX6_find_86 : decode cX6_find 86 = .ok (.aload_n 0, 1) := by decide +kernel
theorem dX6_find_87 : decode cX6_find 87 = .ok (.getfield 53, 3) := by decide +kernel
theorem dX6_find_90 : decode cX6_find 90 = .ok (.ifCond .ge 7, 3) := by decide +kernel
theorem dX6_find_93 : decode cX6_find 93 = .ok (.iconst (-1), 1) := by decide +kernel
theorem dX6_find_94 : decode cX6_find 94 = .ok (.goto 15, 3) := by decide +kernel
theorem dX6_find_97 : decode cX6_find 97 = .ok (.aload_n 0, 1) := by decide +kernel
theorem dX6_find_98 : decode cX6_find 98 = .ok (.aload_n 0, 1) := by decide +kernel
theorem dX6_find_99 : decode cX6_find 99 = .ok (.getfield 53, 3) := by decide +kernel
theorem dX6_find_102 : decode cX6_find 102 = .ok (.aload_n 0, 1) := by decide +kernel
theorem dX6_find_103 : decode cX6_find 103 = .ok (.getfield 56, 3) := by decide +kernel
theorem dX6_find_106 : decode cX6_find 106 = .ok (.invokevirtual 162, 3) := by decide +kernel
theorem dX6_find_109 : decode cX6_find 109 = .ok (.ireturn, 1) := by decide +kernel
theorem dX6_from_0 : decode cX6_from 0 = .ok (.aload_n 0, 1) := by decide +kernel
theorem dX6_from_1 : decode cX6_from 1 = .ok (.getfield 53, 3) := by decide +kernel
theorem dX6_from_4 : decode cX6_from 4 = .ok (.ireturn, 1) := by decide +kernel
theorem dX6_to_0 : decode cX6_to 0 = .ok (.aload_n 0, 1) := by decide +kernel
theorem dX6_to_1 : decode cX6_to 1 = .ok (.getfield 56, 3) := by decide +kernel
theorem dX6_to_4 : decode cX6_to 4 = .ok (.ireturn, 1) := by decide +kernel
theorem dX6_ends_0 : decode cX6_ends 0 = .ok (.iconst 0, 1) := by decide +kernel
theorem dX6_ends_1 : decode cX6_ends 1 = .ok (.istore_n 1, 1) := by decide +kernel
theorem dX6_ends_2 : decode cX6_ends 2 = .ok (.iconst 0, 1) := by decide +kernel
theorem dX6_ends_3 : decode cX6_ends 3 = .ok (.istore_n 2, 1) := by decide +kernel
theorem dX6_ends_4 : decode cX6_ends 4 = .ok (.iload_n 2, 1) := by decide +kernel
theorem dX6_ends_5 : decode cX6_ends 5 = .ok (.aload_n 0, 1) := by decide +kernel
theorem dX6_ends_6 : decode cX6_ends 6 = .ok (.getfield 135, 3) := by decide +kernel
theorem dX6_ends_9 : decode cX6_ends 9 = .ok (.if_icmp .gt 41, 3) := by decide +kernel
theorem dX6_ends_12 : decode cX6_ends 12 = .ok (.iconst 0, 1) := by decide +kernel
theorem dX6_ends_13 : decode cX6_ends 13 = .ok (.istore_n 3, 1) := by decide +kernel
theorem dX6_ends_14 : decode cX6_ends 14 = .ok (.iload_n 3, 1) := by decide +kernel
theorem dX6_ends_15 : decode cX6_ends 15 = .ok (.iload_n 2, 1) := by decide +kernel
theorem dX6_ends_16 : decode cX6_ends 16 = .ok (.if_icmp .gt 28, 3) := by decide +kernel
theorem dX6_ends_19 : decode cX6_ends 19 = .ok (.aload_n 0, 1) := by decide +kernel
theorem dX6_ends_20 : decode cX6_ends 20 = .ok (.iload_n 3, 1) := by decide +kernel
theorem dX6_ends_21 : decode cX6_ends 21 = .ok (.iload_n 2, 1) := by decide +kernel
theorem dX6_ends_22 : decode cX6_ends 22 = .ok (.invokevirtual 165, 3) := by decide +kernel
theorem dX6_ends_25 : decode cX6_ends 25 = .ok (.ifCond .eq 11, 3) := by decide +kernel
theorem dX6_ends_28 : decode cX6_ends 28 = .ok (.iload_n 1, 1) := by decide +kernel
theorem dX6_ends_29 : decode cX6_ends 29 = .ok (.iconst 1, 1) := by decide +kernel
theorem dX6_ends_30 : decode cX6_ends 30 = .ok (.iload_n 2, 1) := by decide +kernel
theorem dX6_ends_31 : decode cX6_ends 31 = .ok (.ishl, 1) := by decide +kernel
theorem dX6_ends_32 : decode cX6_ends 32 = .ok (.ior, 1) := by decide +kernel
theorem dX6_ends_33 : decode cX6_ends 33 = .ok (.goto 4, 3) := by decide +kernel
theorem dX6_ends_36 : decode cX6_ends 36 = .ok (.iload_n 1, 1) := by decide +kernel
theorem dX6_ends_37 : decode cX6_ends 37 = .ok (.istore_n 1, 1) := by decide +kernel
theorem dX6_ends_38 : decode cX6_ends 38 = .ok (.iinc 3 1, 3) := by decide +kernel
theorem dX6_ends_41 : decode cX6_ends 41 = .ok (.goto (-27), 3) := by decide +kernel
theorem dX6_ends_44 : decode cX6_ends 44 = .ok (.iinc 2 1, 3) := by decide +kernel
theorem dX6_ends_47 : decode cX6_ends 47 = .ok (.goto (-43), 3) := by decide +kernel
theorem dX6_ends_50 : decode cX6_ends 50 = .ok (.iload_n 1, 1) := by decide +kernel
theorem dX6_ends_51 : decode cX6_ends 51 = .ok (.ireturn, 1) := by decide +kernel
theorem dX6_add_0 : decode cX6_add 0 = .ok (.aload_n 0, 1) := by decide +kernel
theorem dX6_add_1 : decode cX6_add 1 = .ok (.getfield 135, 3) := by decide +kernel
theorem dX6_add_4 : decode cX6_add 4 = .ok (.ifCond .eq 21, 3) := by decide +kernel
theorem dX6_add_7 : decode cX6_add 7 = .ok (.aload_n 0, 1) := by decide +kernel
theorem dX6_add_8 : decode cX6_add 8 = .ok (.getfield 135, 3) := by decide +kernel
theorem dX6_add_11 : decode cX6_add 11 = .ok (.bipush 12, 2) := by decide +kernel
theorem dX6_add_13 : decode cX6_add 13 = .ok (.if_icmp .gt 12, 3) := by decide +kernel
theorem dX6_add_16 : decode cX6_add 16 = .ok (.aload_n 0, 1) := by decide +kernel
theorem dX6_add_17 : decode cX6_add 17 = .ok (.getfield 173, 3) := by decide +kernel
theorem dX6_add_20 : decode cX6_add 20 = .ok (.bipush 20, 2) := by decide +kernel
theorem dX6_add_22 : decode cX6_add 22 = .ok (.if_icmp .ne 5, 3) := by decide +kernel
theorem dX6_add_25 : decode cX6_add 25 = .ok (.iconst (-1), 1) := by decide +kernel
theorem dX6_add_26 : decode cX6_add 26 = .ok (.ireturn, 1) := by decide +kernel
theorem dX6_add_27 : decode cX6_add 27 = .ok (.iconst 0, 1) := by decide +kernel
theorem dX6_add_28 : decode cX6_add 28 = .ok (.istore_n 1, 1) := by decide +kernel
theorem dX6_add_29 : decode cX6_add 29 = .ok (.iload_n 1, 1) := by decide +kernel
theorem dX6_add_30 : decode cX6_add 30 = .ok (.aload_n 0, 1) := by decide +kernel
theorem dX6_add_31 : decode cX6_add 31 = .ok (.getfield 173, 3) := by decide +kernel
theorem dX6_add_34 : decode cX6_add 34 = .ok (.if_icmp .ge 20, 3) := by decide +kernel
theorem dX6_add_37 : decode cX6_add 37 = .ok (.aload_n 0, 1) := by decide +kernel
theorem dX6_add_38 : decode cX6_add 38 = .ok (.iload_n 1, 1) := by decide +kernel
theorem dX6_add_39 : decode cX6_add 39 = .ok (.iconst 0, 1) := by decide +kernel
theorem dX6_add_40 : decode cX6_add 40 = .ok (.invokevirtual 176, 3) := by decide +kernel
theorem dX6_add_43 : decode cX6_add 43 = .ok (.ifCond .ne 5, 3) := by decide +kernel
theorem dX6_add_46 : decode cX6_add 46 = .ok (.iconst (-1), 1) := by decide +kernel
theorem dX6_add_47 : decode cX6_add 47 = .ok (.ireturn, 1) := by decide +kernel
theorem dX6_add_48 : decode cX6_add 48 = .ok (.iinc 1 1, 3) := by decide +kernel
theorem dX6_add_51 : decode cX6_add 51 = .ok (.goto (-22), 3) := by decide +kernel
theorem dX6_add_54 : decode cX6_add 54 = .ok (.aload_n 0, 1) := by decide +kernel
theorem dX6_add_55 : decode cX6_add 55 = .ok (.getfield 59, 3) := by decide +kernel
theorem dX6_add_58 : decode cX6_add 58 = .ok (.aload_n 0, 1) := by decide +kernel
theorem dX6_add_59 : decode cX6_add 59 = .ok (.getfield 173, 3) := by decide +kernel
theorem dX6_add_62 : decode cX6_add 62 = .ok (.aload_n 0, 1) := by decide +kernel
theorem dX6_add_63 : decode cX6_add 63 = .ok (.getfield 135, 3) := by decide +kernel
theorem dX6_add_66 : decode cX6_add 66 = .ok (.iastore, 1) := by decide +kernel
theorem dX6_add_67 : decode cX6_add 67 = .ok (.iconst 0, 1) := by decide +kernel
theorem dX6_add_68 : decode cX6_add 68 = .ok (.istore_n 1, 1) := by decide +kernel
theorem dX6_add_69 : decode cX6_add 69 = .ok (.iload_n 1, 1) := by decide +kernel
theorem dX6_add_70 : decode cX6_add 70 = .ok (.aload_n 0, 1) := by decide +kernel
theorem dX6_add_71 : decode cX6_add 71 = .ok (.getfield 135, 3) := by decide +kernel
theorem dX6_add_74 : decode cX6_add 74 = .ok (.if_icmp .ge 29, 3) := by decide +kernel
theorem dX6_add_77 : decode cX6_add 77 = .ok (.aload_n 0, 1) := by decide +kernel
theorem dX6_add_78 : decode cX6_add 78 = .ok (.getfield 62, 3) := by decide +kernel
theorem dX6_add_81 : decode cX6_add 81 = .ok (.bipush 12, 2) := by decide +kernel
theorem dX6_add_83 : decode cX6_add 83 = .ok (.aload_n 0, 1) := by decide +kernel
theorem dX6_add_84 : decode cX6_add 84 = .ok (.getfield 173, 3) := by decide +kernel
theorem dX6_add_87 : decode cX6_add 87 = .ok (.imul, 1) := by decide +kernel
theorem dX6_add_88 : decode cX6_add 88 = .ok (.iload_n 1, 1) := by decide +kernel
theorem dX6_add_89 : decode cX6_add 89 = .ok (.iadd, 1) := by decide +kernel
theorem dX6_add_90 : decode cX6_add 90 = .ok (.aload_n 0, 1) := by decide +kernel
theorem dX6_add_91 : decode cX6_add 91 = .ok (.getfield 47, 3) := by decide +kernel
theorem dX6_add_94 : decode cX6_add 94 = .ok (.iload_n 1, 1) := by decide +kernel
theorem dX6_add_95 : decode cX6_add 95 = .ok (.iaload, 1) := by decide +kernel
theorem dX6_add_96 : decode cX6_add 96 = .ok (.iastore, 1) := by decide +kernel
theorem dX6_add_97 : decode cX6_add 97 = .ok (.iinc 1 1, 3) := by decide +kernel
theorem dX6_add_100 : decode cX6_add 100 = .ok (.goto (-31), 3) := by decide +kernel
theorem dX6_add_103 : decode cX6_add 103 = .ok (.aload_n 0, 1) := by decide +kernel
theorem dX6_add_104 : decode cX6_add 104 = .ok (.dup, 1) := by decide +kernel
theorem dX6_add_105 : decode cX6_add 105 = .ok (.getfield 173, 3) := by decide +kernel
theorem dX6_add_108 : decode cX6_add 108 = .ok (.iconst 1, 1) := by decide +kernel
theorem dX6_add_109 : decode cX6_add 109 = .ok (.iadd, 1) := by decide +kernel
theorem dX6_add_110 : decode cX6_add 110 = .ok (.putfield 173, 3) := by decide +kernel
theorem dX6_add_113 : decode cX6_add 113 = .ok (.aload_n 0, 1) := by decide +kernel
theorem dX6_add_114 : decode cX6_add 114 = .ok (.getfield 173, 3) := by decide +kernel
theorem dX6_add_117 : decode cX6_add 117 = .ok (.iconst 1, 1) := by decide +kernel
theorem dX6_add_118 : decode cX6_add 118 = .ok (.isub, 1) := by decide +kernel
theorem dX6_add_119 : decode cX6_add 119 = .ok (.ireturn, 1) := by decide +kernel
theorem dX6_words_0 : decode cX6_words 0 = .ok (.aload_n 0, 1) := by decide +kernel
theorem dX6_words_1 : decode cX6_words 1 = .ok (.getfield 173, 3) := by decide +kernel
theorem dX6_words_4 : decode cX6_words 4 = .ok (.ireturn, 1) := by decide +kernel
theorem dX6_step_0 : decode cX6_step 0 = .ok (.iload_n 2, 1) := by decide +kernel
theorem dX6_step_1 : decode cX6_step 1 = .ok (.ifCond .ne 11, 3) := by decide +kernel
theorem dX6_step_4 : decode cX6_step 4 = .ok (.iload_n 3, 1) := by decide +kernel
theorem dX6_step_5 : decode cX6_step 5 = .ok (.ifCond .ne 7, 3) := by decide +kernel
theorem dX6_step_8 : decode cX6_step 8 = .ok (.iconst 0, 1) := by decide +kernel
theorem dX6_step_9 : decode cX6_step 9 = .ok (.goto 6, 3) := by decide +kernel
theorem dX6_step_12 : decode cX6_step 12 = .ok (.sipush 1000, 3) := by decide +kernel
theorem dX6_step_15 : decode cX6_step 15 = .ok (.istore 5, 2) := by decide +kernel
theorem dX6_step_17 : decode cX6_step 17 = .ok (.bipush 12, 2) := by decide +kernel
theorem dX6_step_19 : decode cX6_step 19 = .ok (.iload_n 1, 1) := by decide +kernel
theorem dX6_step_20 : decode cX6_step 20 = .ok (.imul, 1) := by decide +kernel
theorem dX6_step_21 : decode cX6_step 21 = .ok (.iload_n 2, 1) := by decide +kernel
theorem dX6_step_22 : decode cX6_step 22 = .ok (.iadd, 1) := by decide +kernel
theorem dX6_step_23 : decode cX6_step 23 = .ok (.iconst 1, 1) := by decide +kernel
theorem dX6_step_24 : decode cX6_step 24 = .ok (.isub, 1) := by decide +kernel
theorem dX6_step_25 : decode cX6_step 25 = .ok (.istore 6, 2) := by decide +kernel
theorem dX6_step_27 : decode cX6_step 27 = .ok (.iload_n 2, 1) := by decide +kernel
theorem dX6_step_28 : decode cX6_step 28 = .ok (.ifCond .le 37, 3) := by decide +kernel
theorem dX6_step_31 : decode cX6_step 31 = .ok (.aload_n 0, 1) := by decide +kernel
theorem dX6_step_32 : decode cX6_step 32 = .ok (.getfield 65, 3) := by decide +kernel
theorem dX6_step_35 : decode cX6_step 35 = .ok (.bipush 25, 2) := by decide +kernel
theorem dX6_step_37 : decode cX6_step 37 = .ok (.iload_n 2, 1) := by decide +kernel
theorem dX6_step_38 : decode cX6_step 38 = .ok (.imul, 1) := by decide +kernel
theorem dX6_step_39 : decode cX6_step 39 = .ok (.bipush 25, 2) := by decide +kernel
theorem dX6_step_41 : decode cX6_step 41 = .ok (.isub, 1) := by decide +kernel
theorem dX6_step_42 : decode cX6_step 42 = .ok (.iload_n 3, 1) := by decide +kernel
theorem dX6_step_43 : decode cX6_step 43 = .ok (.iadd, 1) := by decide +kernel
theorem dX6_step_44 : decode cX6_step 44 = .ok (.iaload, 1) := by decide +kernel
theorem dX6_step_45 : decode cX6_step 45 = .ok (.iconst 1, 1) := by decide +kernel
theorem dX6_step_46 : decode cX6_step 46 = .ok (.iadd, 1) := by decide +kernel
theorem dX6_step_47 : decode cX6_step 47 = .ok (.istore 7, 2) := by decide +kernel
theorem dX6_step_49 : decode cX6_step 49 = .ok (.iload 7, 2) := by decide +kernel
theorem dX6_step_51 : decode cX6_step 51 = .ok (.iload 5, 2) := by decide +kernel
theorem dX6_step_53 : decode cX6_step 53 = .ok (.if_icmp .ge 8, 3) := by decide +kernel
theorem dX6_step_56 : decode cX6_step 56 = .ok (.iload 7, 2) := by decide +kernel
theorem dX6_step_58 : decode cX6_step 58 = .ok (.goto 5, 3) := by decide +kernel
theorem dX6_step_61 : decode cX6_step 61 = .ok (.iload 5, 2) := by decide +kernel
theorem dX6_step_63 : decode cX6_step 63 = .ok (.istore 5, 2) := by decide +kernel
theorem dX6_step_65 : decode cX6_step 65 = .ok (.iload_n 3, 1) := by decide +kernel
theorem dX6_step_66 : decode cX6_step 66 = .ok (.ifCond .le 36, 3) := by decide +kernel
theorem dX6_step_69 : decode cX6_step 69 = .ok (.aload_n 0, 1) := by decide +kernel
theorem dX6_step_70 : decode cX6_step 70 = .ok (.getfield 65, 3) := by decide +kernel
theorem dX6_step_73 : decode cX6_step 73 = .ok (.bipush 25, 2) := by decide +kernel
theorem dX6_step_75 : decode cX6_step 75 = .ok (.iload_n 2, 1) := by decide +kernel
theorem dX6_step_76 : decode cX6_step 76 = .ok (.imul, 1) := by decide +kernel
theorem dX6_step_77 : decode cX6_step 77 = .ok (.iload_n 3, 1) := by decide +kernel
theorem dX6_step_78 : decode cX6_step 78 = .ok (.iadd, 1) := by decide +kernel
theorem dX6_step_79 : decode cX6_step 79 = .ok (.iconst 1, 1) := by decide +kernel
theorem dX6_step_80 : decode cX6_step 80 = .ok (.isub, 1) := by decide +kernel
theorem dX6_step_81 : decode cX6_step 81 = .ok (.iaload, 1) := by decide +kernel
theorem dX6_step_82 : decode cX6_step 82 = .ok (.iconst 1, 1) := by decide +kernel
theorem dX6_step_83 : decode cX6_step 83 = .ok (.iadd, 1) := by decide +kernel
theorem dX6_step_84 : decode cX6_step 84 = .ok (.istore 7, 2) := by decide +kernel
theorem dX6_step_86 : decode cX6_step 86 = .ok (.iload 7, 2) := by decide +kernel
theorem dX6_step_88 : decode cX6_step 88 = .ok (.iload 5, 2) := by decide +kernel
theorem dX6_step_90 : decode cX6_step 90 = .ok (.if_icmp .ge 8, 3) := by decide +kernel
theorem dX6_step_93 : decode cX6_step 93 = .ok (.iload 7, 2) := by decide +kernel
theorem dX6_step_95 : decode cX6_step 95 = .ok (.goto 5, 3) := by decide +kernel
theorem dX6_step_98 : decode cX6_step 98 = .ok (.iload 5, 2) := by decide +kernel
theorem dX6_step_100 : decode cX6_step 100 = .ok (.istore 5, 2) := by decide +kernel
theorem dX6_step_102 : decode cX6_step 102 = .ok (.iload_n 2, 1) := by decide +kernel
theorem dX6_step_103 : decode cX6_step 103 = .ok (.ifCond .le 65, 3) := by decide +kernel
theorem dX6_step_106 : decode cX6_step 106 = .ok (.iload_n 3, 1) := by decide +kernel
theorem dX6_step_107 : decode cX6_step 107 = .ok (.ifCond .le 61, 3) := by decide +kernel
theorem dX6_step_110 : decode cX6_step 110 = .ok (.aload_n 0, 1) := by decide +kernel
theorem dX6_step_111 : decode cX6_step 111 = .ok (.getfield 65, 3) := by decide +kernel
theorem dX6_step_114 : decode cX6_step 114 = .ok (.bipush 25, 2) := by decide +kernel
theorem dX6_step_116 : decode cX6_step 116 = .ok (.iload_n 2, 1) := by decide +kernel
theorem dX6_step_117 : decode cX6_step 117 = .ok (.imul, 1) := by decide +kernel
theorem dX6_step_118 : decode cX6_step 118 = .ok (.bipush 25, 2) := by decide +kernel
theorem dX6_step_120 : decode cX6_step 120 = .ok (.isub, 1) := by decide +kernel
theorem dX6_step_121 : decode cX6_step 121 = .ok (.iload_n 3, 1) := by decide +kernel
theorem dX6_step_122 : decode cX6_step 122 = .ok (.iadd, 1) := by decide +kernel
theorem dX6_step_123 : decode cX6_step 123 = .ok (.iconst 1, 1) := by decide +kernel
theorem dX6_step_124 : decode cX6_step 124 = .ok (.isub, 1) := by decide +kernel
theorem dX6_step_125 : decode cX6_step 125 = .ok (.iaload, 1) := by decide +kernel
theorem dX6_step_126 : decode cX6_step 126 = .ok (.aload_n 0, 1) := by decide +kernel
theorem dX6_step_127 : decode cX6_step 127 = .ok (.getfield 62, 3) := by decide +kernel
theorem dX6_step_130 : decode cX6_step 130 = .ok (.iload 6, 2) := by decide +kernel
theorem dX6_step_132 : decode cX6_step 132 = .ok (.iaload, 1) := by decide +kernel
theorem dX6_step_133 : decode cX6_step 133 = .ok (.aload_n 0, 1) := by decide +kernel
theorem dX6_step_134 : decode cX6_step 134 = .ok (.getfield 47, 3) := by decide +kernel
theorem dX6_step_137 : decode cX6_step 137 = .ok (.iload_n 3, 1) := by decide +kernel
theorem dX6_step_138 : decode cX6_step 138 = .ok (.iconst 1, 1) := by decide +kernel
theorem dX6_step_139 : decode cX6_step 139 = .ok (.isub, 1) := by decide +kernel
theorem dX6_step_140 : decode cX6_step 140 = .ok (.iaload, 1) := by decide +kernel
theorem dX6_step_141 : decode cX6_step 141 = .ok (.if_icmp .ne 7, 3) := by decide +kernel
theorem dX6_step_144 : decode cX6_step 144 = .ok (.iconst 0, 1) := by decide +kernel
theorem dX6_step_145 : decode cX6_step 145 = .ok (.goto 4, 3) := by decide +kernel
theorem dX6_step_148 : decode cX6_step 148 = .ok (.iconst 1, 1) := by decide +kernel
theorem dX6_step_149 : decode cX6_step 149 = .ok (.iadd, 1) := by decide +kernel
theorem dX6_step_150 : decode cX6_step 150 = .ok (.istore 7, 2) := by decide +kernel
theorem dX6_step_152 : decode cX6_step 152 = .ok (.iload 7, 2) := by decide +kernel
theorem dX6_step_154 : decode cX6_step 154 = .ok (.iload 5, 2) := by decide +kernel
theorem dX6_step_156 : decode cX6_step 156 = .ok (.if_icmp .ge 8, 3) := by decide +kernel
theorem dX6_step_159 : decode cX6_step 159 = .ok (.iload 7, 2) := by decide +kernel
theorem dX6_step_161 : decode cX6_step 161 = .ok (.goto 5, 3) := by decide +kernel
theorem dX6_step_164 : decode cX6_step 164 = .ok (.iload 5, 2) := by decide +kernel
theorem dX6_step_166 : decode cX6_step 166 = .ok (.istore 5, 2) := by decide +kernel
theorem dX6_step_168 : decode cX6_step 168 = .ok (.iload 4, 2) := by decide +kernel
theorem dX6_step_170 : decode cX6_step 170 = .ok (.ifCond .eq 87, 3) := by decide +kernel
theorem dX6_step_173 : decode cX6_step 173 = .ok (.iload_n 2, 1) := by decide +kernel
theorem dX6_step_174 : decode cX6_step 174 = .ok (.iconst 1, 1) := by decide +kernel
theorem dX6_step_175 : decode cX6_step 175 = .ok (.if_icmp .le 82, 3) := by decide +kernel
theorem dX6_step_178 : decode cX6_step 178 = .ok (.iload_n 3, 1) := by decide +kernel
theorem dX6_step_179 : decode cX6_step 179 = .ok (.iconst 1, 1) := by decide +kernel
theorem dX6_step_180 : decode cX6_step 180 = .ok (.if_icmp .le 77, 3) := by decide +kernel
theorem dX6_step_183 : decode cX6_step 183 = .ok (.aload_n 0, 1) := by decide +kernel
theorem dX6_step_184 : decode cX6_step 184 = .ok (.getfield 62, 3) := by decide +kernel
theorem dX6_step_187 : decode cX6_step 187 = .ok (.iload 6, 2) := by decide +kernel
theorem dX6_step_189 : decode cX6_step 189 = .ok (.iaload, 1) := by decide +kernel
theorem dX6_step_190 : decode cX6_step 190 = .ok (.aload_n 0, 1) := by decide +kernel
theorem dX6_step_191 : decode cX6_step 191 = .ok (.getfield 47, 3) := by decide +kernel
theorem dX6_step_194 : decode cX6_step 194 = .ok (.iload_n 3, 1) := by decide +kernel
theorem dX6_step_195 : decode cX6_step 195 = .ok (.iconst 2, 1) := by decide +kernel
theorem dX6_step_196 : decode cX6_step 196 = .ok (.isub, 1) := by decide +kernel
theorem dX6_step_197 : decode cX6_step 197 = .ok (.iaload, 1) := by decide +kernel
theorem dX6_step_198 : decode cX6_step 198 = .ok (.if_icmp .ne 59, 3) := by decide +kernel
theorem dX6_step_201 : decode cX6_step 201 = .ok (.aload_n 0, 1) := by decide +kernel
theorem dX6_step_202 : decode cX6_step 202 = .ok (.getfield 62, 3) := by decide +kernel
theorem dX6_step_205 : decode cX6_step 205 = .ok (.iload 6, 2) := by decide +kernel
theorem dX6_step_207 : decode cX6_step 207 = .ok (.iconst 1, 1) := by decide +kernel
theorem dX6_step_208 : decode cX6_step 208 = .ok (.isub, 1) := by decide +kernel
theorem dX6_step_209 : decode cX6_step 209 = .ok (.iaload, 1) := by decide +kernel
theorem dX6_step_210 : decode cX6_step 210 = .ok (.aload_n 0, 1) := by decide +kernel
theorem dX6_step_211 : decode cX6_step 211 = .ok (.getfield 47, 3) := by decide +kernel
theorem dX6_step_214 : decode cX6_step 214 = .ok (.iload_n 3, 1) := by decide +kernel
theorem dX6_step_215 : decode cX6_step 215 = .ok (.iconst 1, 1) := by decide +kernel
theorem dX6_step_216 : decode cX6_step 216 = .ok (.isub, 1) := by decide +kernel
theorem dX6_step_217 : decode cX6_step 217 = .ok (.iaload, 1) := by decide +kernel
theorem dX6_step_218 : decode cX6_step 218 = .ok (.if_icmp .ne 39, 3) := by decide +kernel
theorem dX6_step_221 : decode cX6_step 221 = .ok (.aload_n 0, 1) := by decide +kernel
theorem dX6_step_222 : decode cX6_step 222 = .ok (.getfield 65, 3) := by decide +kernel
theorem dX6_step_225 : decode cX6_step 225 = .ok (.bipush 25, 2) := by decide +kernel
theorem dX6_step_227 : decode cX6_step 227 = .ok (.iload_n 2, 1) := by decide +kernel
theorem dX6_step_228 : decode cX6_step 228 = .ok (.imul, 1) := by decide +kernel
theorem dX6_step_229 : decode cX6_step 229 = .ok (.bipush 50, 2) := by decide +kernel
theorem dX6_step_231 : decode cX6_step 231 = .ok (.isub, 1) := by decide +kernel
theorem dX6_step_232 : decode cX6_step 232 = .ok (.iload_n 3, 1) := by decide +kernel
theorem dX6_step_233 : decode cX6_step 233 = .ok (.iadd, 1) := by decide +kernel
theorem dX6_step_234 : decode cX6_step 234 = .ok (.iconst 2, 1) := by decide +kernel
theorem dX6_step_235 : decode cX6_step 235 = .ok (.isub, 1) := by decide +kernel
theorem dX6_step_236 : decode cX6_step 236 = .ok (.iaload, 1) := by decide +kernel
theorem dX6_step_237 : decode cX6_step 237 = .ok (.iconst 1, 1) := by decide +kernel
theorem dX6_step_238 : decode cX6_step 238 = .ok (.iadd, 1) := by decide +kernel
theorem dX6_step_239 : decode cX6_step 239 = .ok (.istore 7, 2) := by decide +kernel
theorem dX6_step_241 : decode cX6_step 241 = .ok (.iload 7, 2) := by decide +kernel
theorem dX6_step_243 : decode cX6_step 243 = .ok (.iload 5, 2) := by decide +kernel
theorem dX6_step_245 : decode cX6_step 245 = .ok (.if_icmp .ge 8, 3) := by decide +kernel
theorem dX6_step_248 : decode cX6_step 248 = .ok (.iload 7, 2) := by decide +kernel
theorem dX6_step_250 : decode cX6_step 250 = .ok (.goto 5, 3) := by decide +kernel
theorem dX6_step_253 : decode cX6_step 253 = .ok (.iload 5, 2) := by decide +kernel
theorem dX6_step_255 : decode cX6_step 255 = .ok (.istore 5, 2) := by decide +kernel
theorem dX6_step_257 : decode cX6_step 257 = .ok (.iload 5, 2) := by decide +kernel
theorem dX6_step_259 : decode cX6_step 259 = .ok (.ireturn, 1) := by decide +kernel
theorem dX6_distance_0 : decode cX6_distance 0 = .ok (.iload_n 1, 1) := by decide +kernel
theorem dX6_distance_1 : decode cX6_distance 1 = .ok (.ifCond .lt 11, 3) := by decide +kernel
theorem dX6_distance_4 : decode cX6_distance 4 = .ok (.iload_n 1, 1) := by decide +kernel
theorem dX6_distance_5 : decode cX6_distance 5 = .ok (.aload_n 0, 1) := by decide +kernel
theorem dX6_distance_6 : decode cX6_distance 6 = .ok (.getfield 173, 3) := by decide +kernel
theorem dX6_distance_9 : decode cX6_distance 9 = .ok (.if_icmp .lt 5, 3) := by decide +kernel
theorem dX6_distance_12 : decode cX6_distance 12 = .ok (.iconst (-1), 1) := by decide +kernel
theorem dX6_distance_13 : decode cX6_distance 13 = .ok (.ireturn, 1) := by decide +kernel
theorem dX6_distance_14 : decode cX6_distance 14 = .ok (.iconst 0, 1) := by decide +kernel
theorem dX6_distance_15 : decode cX6_distance 15 = .ok (.istore_n 3, 1) := by decide +kernel
theorem dX6_distance_16 : decode cX6_distance 16 = .ok (.iload_n 3, 1) := by decide +kernel
theorem dX6_distance_17 : decode cX6_distance 17 = .ok (.aload_n 0, 1) := by decide +kernel
theorem dX6_distance_18 : decode cX6_distance 18 = .ok (.getfield 59, 3) := by decide +kernel
theorem dX6_distance_21 : decode cX6_distance 21 = .ok (.iload_n 1, 1) := by decide +kernel
theorem dX6_distance_22 : decode cX6_distance 22 = .ok (.iaload, 1) := by decide +kernel
theorem dX6_distance_23 : decode cX6_distance 23 = .ok (.if_icmp .gt 48, 3) := by decide +kernel
theorem dX6_distance_26 : decode cX6_distance 26 = .ok (.iconst 0, 1) := by decide +kernel
theorem dX6_distance_27 : decode cX6_distance 27 = .ok (.istore 4, 2) := by decide +kernel
theorem dX6_distance_29 : decode cX6_distance 29 = .ok (.iload 4, 2) := by decide +kernel
theorem dX6_distance_31 : decode cX6_distance 31 = .ok (.aload_n 0, 1) := by decide +kernel
theorem dX6_distance_32 : decode cX6_distance 32 = .ok (.getfield 135, 3) := by decide +kernel
theorem dX6_distance_35 : decode cX6_distance 35 = .ok (.if_icmp .gt 30, 3) := by decide +kernel
theorem dX6_distance_38 : decode cX6_distance 38 = .ok (.aload_n 0, 1) := by decide +kernel
theorem dX6_distance_39 : decode cX6_distance 39 = .ok (.getfield 65, 3) := by decide +kernel
theorem dX6_distance_42 : decode cX6_distance 42 = .ok (.bipush 25, 2) := by decide +kernel
theorem dX6_distance_44 : decode cX6_distance 44 = .ok (.iload_n 3, 1) := by decide +kernel
theorem dX6_distance_45 : decode cX6_distance 45 = .ok (.imul, 1) := by decide +kernel
theorem dX6_distance_46 : decode cX6_distance 46 = .ok (.iload 4, 2) := by decide +kernel
theorem dX6_distance_48 : decode cX6_distance 48 = .ok (.iadd, 1) := by decide +kernel
theorem dX6_distance_49 : decode cX6_distance 49 = .ok (.aload_n 0, 1) := by decide +kernel
theorem dX6_distance_50 : decode cX6_distance 50 = .ok (.iload_n 1, 1) := by decide +kernel
theorem dX6_distance_51 : decode cX6_distance 51 = .ok (.iload_n 3, 1) := by decide +kernel
theorem dX6_distance_52 : decode cX6_distance 52 = .ok (.iload 4, 2) := by decide +kernel
theorem dX6_distance_54 : decode cX6_distance 54 = .ok (.iload_n 2, 1) := by decide +kernel
theorem dX6_distance_55 : decode cX6_distance 55 = .ok (.invokevirtual 180, 3) := by decide +kernel
theorem dX6_distance_58 : decode cX6_distance 58 = .ok (.iastore, 1) := by decide +kernel
theorem dX6_distance_59 : decode cX6_distance 59 = .ok (.iinc 4 1, 3) := by decide +kernel
theorem dX6_distance_62 : decode cX6_distance 62 = .ok (.goto (-33), 3) := by decide +kernel
theorem dX6_distance_65 : decode cX6_distance 65 = .ok (.iinc 3 1, 3) := by decide +kernel
theorem dX6_distance_68 : decode cX6_distance 68 = .ok (.goto (-52), 3) := by decide +kernel
theorem dX6_distance_71 : decode cX6_distance 71 = .ok (.aload_n 0, 1) := by decide +kernel
theorem dX6_distance_72 : decode cX6_distance 72 = .ok (.getfield 65, 3) := by decide +kernel
theorem dX6_distance_75 : decode cX6_distance 75 = .ok (.bipush 25, 2) := by decide +kernel
theorem dX6_distance_77 : decode cX6_distance 77 = .ok (.aload_n 0, 1) := by decide +kernel
theorem dX6_distance_78 : decode cX6_distance 78 = .ok (.getfield 59, 3) := by decide +kernel
theorem dX6_distance_81 : decode cX6_distance 81 = .ok (.iload_n 1, 1) := by decide +kernel
theorem dX6_distance_82 : decode cX6_distance 82 = .ok (.iaload, 1) := by decide +kernel
theorem dX6_distance_83 : decode cX6_distance 83 = .ok (.imul, 1) := by decide +kernel
theorem dX6_distance_84 : decode cX6_distance 84 = .ok (.aload_n 0, 1) := by decide +kernel
theorem dX6_distance_85 : decode cX6_distance 85 = .ok (.getfield 135, 3) := by decide +kernel
theorem dX6_distance_88 : decode cX6_distance 88 = .ok (.iadd, 1) := by decide +kernel
theorem dX6_distance_89 : decode cX6_distance 89 = .ok (.iaload, 1) := by decide +kernel
theorem dX6_distance_90 : decode cX6_distance 90 = .ok (.ireturn, 1) := by decide +kernel
theorem dX6_near_0 : decode cX6_near 0 = .ok (.iconst 0, 1) := by decide +kernel
theorem dX6_near_1 : decode cX6_near 1 = .ok (.istore_n 3, 1) := by decide +kernel
theorem dX6_near_2 : decode cX6_near 2 = .ok (.iconst 0, 1) := by decide +kernel
theorem dX6_near_3 : decode cX6_near 3 = .ok (.istore 4, 2) := by decide +kernel
theorem dX6_near_5 : decode cX6_near 5 = .ok (.iload 4, 2) := by decide +kernel
theorem dX6_near_7 : decode cX6_near 7 = .ok (.aload_n 0, 1) := by decide +kernel
theorem dX6_near_8 : decode cX6_near 8 = .ok (.getfield 173, 3) := by decide +kernel
theorem dX6_near_11 : decode cX6_near 11 = .ok (.if_icmp .ge 28, 3) := by decide +kernel
theorem dX6_near_14 : decode cX6_near 14 = .ok (.iload_n 3, 1) := by decide +kernel
theorem dX6_near_15 : decode cX6_near 15 = .ok (.aload_n 0, 1) := by decide +kernel
theorem dX6_near_16 : decode cX6_near 16 = .ok (.iload 4, 2) := by decide +kernel
theorem dX6_near_18 : decode cX6_near 18 = .ok (.iload_n 2, 1) := by decide +kernel
theorem dX6_near_19 : decode cX6_near 19 = .ok (.invokevirtual 176, 3) := by decide +kernel
theorem dX6_near_22 : decode cX6_near 22 = .ok (.iload_n 1, 1) := by decide +kernel
theorem dX6_near_23 : decode cX6_near 23 = .ok (.if_icmp .gt 7, 3) := by decide +kernel
theorem dX6_near_26 : decode cX6_near 26 = .ok (.iconst 1, 1) := by decide +kernel
theorem dX6_near_27 : decode cX6_near 27 = .ok (.goto 4, 3) := by decide +kernel
theorem dX6_near_30 : decode cX6_near 30 = .ok (.iconst 0, 1) := by decide +kernel
theorem dX6_near_31 : decode cX6_near 31 = .ok (.iadd, 1) := by decide +kernel
theorem dX6_near_32 : decode cX6_near 32 = .ok (.istore_n 3, 1) := by decide +kernel
theorem dX6_near_33 : decode cX6_near 33 = .ok (.iinc 4 1, 3) := by decide +kernel
theorem dX6_near_36 : decode cX6_near 36 = .ok (.goto (-31), 3) := by decide +kernel
theorem dX6_near_39 : decode cX6_near 39 = .ok (.iload_n 3, 1) := by decide +kernel
theorem dX6_near_40 : decode cX6_near 40 = .ok (.ireturn, 1) := by decide +kernel
theorem dX6_earlier_0 : decode cX6_earlier 0 = .ok (.iconst 0, 1) := by decide +kernel
theorem dX6_earlier_1 : decode cX6_earlier 1 = .ok (.istore_n 3, 1) := by decide +kernel
theorem dX6_earlier_2 : decode cX6_earlier 2 = .ok (.iload_n 3, 1) := by decide +kernel
theorem dX6_earlier_3 : decode cX6_earlier 3 = .ok (.aload_n 0, 1) := by decide +kernel
theorem dX6_earlier_4 : decode cX6_earlier 4 = .ok (.getfield 59, 3) := by decide +kernel
theorem dX6_earlier_7 : decode cX6_earlier 7 = .ok (.iload_n 1, 1) := by decide +kernel
theorem dX6_earlier_8 : decode cX6_earlier 8 = .ok (.iaload, 1) := by decide +kernel
theorem dX6_earlier_9 : decode cX6_earlier 9 = .ok (.if_icmp .ge 44, 3) := by decide +kernel
theorem dX6_earlier_12 : decode cX6_earlier 12 = .ok (.iload_n 3, 1) := by decide +kernel
theorem dX6_earlier_13 : decode cX6_earlier 13 = .ok (.aload_n 0, 1) := by decide +kernel
theorem dX6_earlier_14 : decode cX6_earlier 14 = .ok (.getfield 59, 3) := by decide +kernel
theorem dX6_earlier_17 : decode cX6_earlier 17 = .ok (.iload_n 2, 1) := by decide +kernel
theorem dX6_earlier_18 : decode cX6_earlier 18 = .ok (.iaload, 1) := by decide +kernel
theorem dX6_earlier_19 : decode cX6_earlier 19 = .ok (.if_icmp .ge 34, 3) := by decide +kernel
theorem dX6_earlier_22 : decode cX6_earlier 22 = .ok (.aload_n 0, 1) := by decide +kernel
theorem dX6_earlier_23 : decode cX6_earlier 23 = .ok (.getfield 62, 3) := by decide +kernel
theorem dX6_earlier_26 : decode cX6_earlier 26 = .ok (.bipush 12, 2) := by decide +kernel
theorem dX6_earlier_28 : decode cX6_earlier 28 = .ok (.iload_n 1, 1) := by decide +kernel
theorem dX6_earlier_29 : decode cX6_earlier 29 = .ok (.imul, 1) := by decide +kernel
theorem dX6_earlier_30 : decode cX6_earlier 30 = .ok (.iload_n 3, 1) := by decide +kernel
theorem dX6_earlier_31 : decode cX6_earlier 31 = .ok (.iadd, 1) := by decide +kernel
theorem dX6_earlier_32 : decode cX6_earlier 32 = .ok (.iaload, 1) := by decide +kernel
theorem dX6_earlier_33 : decode cX6_earlier 33 = .ok (.aload_n 0, 1) := by decide +kernel
theorem dX6_earlier_34 : decode cX6_earlier 34 = .ok (.getfield 62, 3) := by decide +kernel
theorem dX6_earlier_37 : decode cX6_earlier 37 = .ok (.bipush 12, 2) := by decide +kernel
theorem dX6_earlier_39 : decode cX6_earlier 39 = .ok (.iload_n 2, 1) := by decide +kernel
theorem dX6_earlier_40 : decode cX6_earlier 40 = .ok (.imul, 1) := by decide +kernel
theorem dX6_earlier_41 : decode cX6_earlier 41 = .ok (.iload_n 3, 1) := by decide +kernel
theorem dX6_earlier_42 : decode cX6_earlier 42 = .ok (.iadd, 1) := by decide +kernel
theorem dX6_earlier_43 : decode cX6_earlier 43 = .ok (.iaload, 1) := by decide +kernel
theorem dX6_earlier_44 : decode cX6_earlier 44 = .ok (.if_icmp .ne 9, 3) := by decide +kernel
theorem dX6_earlier_47 : decode cX6_earlier 47 = .ok (.iinc 3 1, 3) := by decide +kernel
theorem dX6_earlier_50 : decode cX6_earlier 50 = .ok (.goto (-48), 3) := by decide +kernel
theorem dX6_earlier_53 : decode cX6_earlier 53 = .ok (.iload_n 3, 1) := by decide +kernel
theorem dX6_earlier_54 : decode cX6_earlier 54 = .ok (.aload_n 0, 1) := by decide +kernel
theorem dX6_earlier_55 : decode cX6_earlier 55 = .ok (.getfield 59, 3) := by decide +kernel
theorem dX6_earlier_58 : decode cX6_earlier 58 = .ok (.iload_n 1, 1) := by decide +kernel
theorem dX6_earlier_59 : decode cX6_earlier 59 = .ok (.iaload, 1) := by decide +kernel
theorem dX6_earlier_60 : decode cX6_earlier 60 = .ok (.if_icmp .eq 13, 3) := by decide +kernel
theorem dX6_earlier_63 : decode cX6_earlier 63 = .ok (.iload_n 3, 1) := by decide +kernel
theorem dX6_earlier_64 : decode cX6_earlier 64 = .ok (.aload_n 0, 1) := by decide +kernel
theorem dX6_earlier_65 : decode cX6_earlier 65 = .ok (.getfield 59, 3) := by decide +kernel
theorem dX6_earlier_68 : decode cX6_earlier 68 = .ok (.iload_n 2, 1) := by decide +kernel
theorem dX6_earlier_69 : decode cX6_earlier 69 = .ok (.iaload, 1) := by decide +kernel
theorem dX6_earlier_70 : decode cX6_earlier 70 = .ok (.if_icmp .ne 24, 3) := by decide +kernel
theorem dX6_earlier_73 : decode cX6_earlier 73 = .ok (.aload_n 0, 1) := by decide +kernel
theorem dX6_earlier_74 : decode cX6_earlier 74 = .ok (.getfield 59, 3) := by decide +kernel
theorem dX6_earlier_77 : decode cX6_earlier 77 = .ok (.iload_n 1, 1) := by decide +kernel
theorem dX6_earlier_78 : decode cX6_earlier 78 = .ok (.iaload, 1) := by decide +kernel
theorem dX6_earlier_79 : decode cX6_earlier 79 = .ok (.aload_n 0, 1) := by decide +kernel
theorem dX6_earlier_80 : decode cX6_earlier 80 = .ok (.getfield 59, 3) := by decide +kernel
theorem dX6_earlier_83 : decode cX6_earlier 83 = .ok (.iload_n 2, 1) := by decide +kernel
theorem dX6_earlier_84 : decode cX6_earlier 84 = .ok (.iaload, 1) := by decide +kernel
theorem dX6_earlier_85 : decode cX6_earlier 85 = .ok (.if_icmp .ge 7, 3) := by decide +kernel
theorem dX6_earlier_88 : decode cX6_earlier 88 = .ok (.iconst 1, 1) := by decide +kernel
theorem dX6_earlier_89 : decode cX6_earlier 89 = .ok (.goto 4, 3) := by decide +kernel
theorem dX6_earlier_92 : decode cX6_earlier 92 = .ok (.iconst 0, 1) := by decide +kernel
theorem dX6_earlier_93 : decode cX6_earlier 93 = .ok (.ireturn, 1) := by decide +kernel
theorem dX6_earlier_94 : decode cX6_earlier 94 = .ok (.aload_n 0, 1) := by decide +kernel
theorem dX6_earlier_95 : decode cX6_earlier 95 = .ok (.getfield 62, 3) := by decide +kernel
theorem dX6_earlier_98 : decode cX6_earlier 98 = .ok (.bipush 12, 2) := by decide +kernel
theorem dX6_earlier_100 : decode cX6_earlier 100 = .ok (.iload_n 1, 1) := by decide +kernel
theorem dX6_earlier_101 : decode cX6_earlier 101 = .ok (.imul, 1) := by decide +kernel
theorem dX6_earlier_102 : decode cX6_earlier 102 = .ok (.iload_n 3, 1) := by decide +kernel
theorem dX6_earlier_103 : decode cX6_earlier 103 = .ok (.iadd, 1) := by decide +kernel
theorem dX6_earlier_104 : decode cX6_earlier 104 = .ok (.iaload, 1) := by decide +kernel
theorem dX6_earlier_105 : decode cX6_earlier 105 = .ok (.aload_n 0, 1) := by decide +kernel
theorem dX6_earlier_106 : decode cX6_earlier 106 = .ok (.getfield 62, 3) := by decide +kernel
theorem dX6_earlier_109 : decode cX6_earlier 109 = .ok (.bipush 12, 2) := by decide +kernel
theorem dX6_earlier_111 : decode cX6_earlier 111 = .ok (.iload_n 2, 1) := by decide +kernel
theorem dX6_earlier_112 : decode cX6_earlier 112 = .ok (.imul, 1) := by decide +kernel
theorem dX6_earlier_113 : decode cX6_earlier 113 = .ok (.iload_n 3, 1) := by decide +kernel
theorem dX6_earlier_114 : decode cX6_earlier 114 = .ok (.iadd, 1) := by decide +kernel
theorem dX6_earlier_115 : decode cX6_earlier 115 = .ok (.iaload, 1) := by decide +kernel
theorem dX6_earlier_116 : decode cX6_earlier 116 = .ok (.if_icmp .ge 7, 3) := by decide +kernel
theorem dX6_earlier_119 : decode cX6_earlier 119 = .ok (.iconst 1, 1) := by decide +kernel
theorem dX6_earlier_120 : decode cX6_earlier 120 = .ok (.goto 4, 3) := by decide +kernel
theorem dX6_earlier_123 : decode cX6_earlier 123 = .ok (.iconst 0, 1) := by decide +kernel
theorem dX6_earlier_124 : decode cX6_earlier 124 = .ok (.ireturn, 1) := by decide +kernel
theorem dX6_rank_0 : decode cX6_rank 0 = .ok (.iconst 0, 1) := by decide +kernel
theorem dX6_rank_1 : decode cX6_rank 1 = .ok (.istore_n 3, 1) := by decide +kernel
theorem dX6_rank_2 : decode cX6_rank 2 = .ok (.iload_n 3, 1) := by decide +kernel
theorem dX6_rank_3 : decode cX6_rank 3 = .ok (.aload_n 0, 1) := by decide +kernel
theorem dX6_rank_4 : decode cX6_rank 4 = .ok (.getfield 173, 3) := by decide +kernel
theorem dX6_rank_7 : decode cX6_rank 7 = .ok (.if_icmp .ge 89, 3) := by decide +kernel
theorem dX6_rank_10 : decode cX6_rank 10 = .ok (.aload_n 0, 1) := by decide +kernel
theorem dX6_rank_11 : decode cX6_rank 11 = .ok (.iload_n 3, 1) := by decide +kernel
theorem dX6_rank_12 : decode cX6_rank 12 = .ok (.iload_n 2, 1) := by decide +kernel
theorem dX6_rank_13 : decode cX6_rank 13 = .ok (.invokevirtual 176, 3) := by decide +kernel
theorem dX6_rank_16 : decode cX6_rank 16 = .ok (.istore 4, 2) := by decide +kernel
theorem dX6_rank_18 : decode cX6_rank 18 = .ok (.iconst 0, 1) := by decide +kernel
theorem dX6_rank_19 : decode cX6_rank 19 = .ok (.istore 5, 2) := by decide +kernel
theorem dX6_rank_21 : decode cX6_rank 21 = .ok (.iconst 0, 1) := by decide +kernel
theorem dX6_rank_22 : decode cX6_rank 22 = .ok (.istore 6, 2) := by decide +kernel
theorem dX6_rank_24 : decode cX6_rank 24 = .ok (.iload 6, 2) := by decide +kernel
theorem dX6_rank_26 : decode cX6_rank 26 = .ok (.aload_n 0, 1) := by decide +kernel
theorem dX6_rank_27 : decode cX6_rank 27 = .ok (.getfield 173, 3) := by decide +kernel
theorem dX6_rank_30 : decode cX6_rank 30 = .ok (.if_icmp .ge 52, 3) := by decide +kernel
theorem dX6_rank_33 : decode cX6_rank 33 = .ok (.aload_n 0, 1) := by decide +kernel
theorem dX6_rank_34 : decode cX6_rank 34 = .ok (.iload 6, 2) := by decide +kernel
theorem dX6_rank_36 : decode cX6_rank 36 = .ok (.iload_n 2, 1) := by decide +kernel
theorem dX6_rank_37 : decode cX6_rank 37 = .ok (.invokevirtual 176, 3) := by decide +kernel
theorem dX6_rank_40 : decode cX6_rank 40 = .ok (.istore 7, 2) := by decide +kernel
theorem dX6_rank_42 : decode cX6_rank 42 = .ok (.iload 5, 2) := by decide +kernel
theorem dX6_rank_44 : decode cX6_rank 44 = .ok (.iload 7, 2) := by decide +kernel
theorem dX6_rank_46 : decode cX6_rank 46 = .ok (.iload 4, 2) := by decide +kernel
theorem dX6_rank_48 : decode cX6_rank 48 = .ok (.if_icmp .lt 20, 3) := by decide +kernel
theorem dX6_rank_51 : decode cX6_rank 51 = .ok (.iload 7, 2) := by decide +kernel
theorem dX6_rank_53 : decode cX6_rank 53 = .ok (.iload 4, 2) := by decide +kernel
theorem dX6_rank_55 : decode cX6_rank 55 = .ok (.if_icmp .ne 17, 3) := by decide +kernel
theorem dX6_rank_58 : decode cX6_rank 58 = .ok (.aload_n 0, 1) := by decide +kernel
theorem dX6_rank_59 : decode cX6_rank 59 = .ok (.iload 6, 2) := by decide +kernel
theorem dX6_rank_61 : decode cX6_rank 61 = .ok (.iload_n 3, 1) := by decide +kernel
theorem dX6_rank_62 : decode cX6_rank 62 = .ok (.invokevirtual 184, 3) := by decide +kernel
theorem dX6_rank_65 : decode cX6_rank 65 = .ok (.ifCond .eq 7, 3) := by decide +kernel
theorem dX6_rank_68 : decode cX6_rank 68 = .ok (.iconst 1, 1) := by decide +kernel
theorem dX6_rank_69 : decode cX6_rank 69 = .ok (.goto 4, 3) := by decide +kernel
theorem dX6_rank_72 : decode cX6_rank 72 = .ok (.iconst 0, 1) := by decide +kernel
theorem dX6_rank_73 : decode cX6_rank 73 = .ok (.iadd, 1) := by decide +kernel
theorem dX6_rank_74 : decode cX6_rank 74 = .ok (.istore 5, 2) := by decide +kernel
theorem dX6_rank_76 : decode cX6_rank 76 = .ok (.iinc 6 1, 3) := by decide +kernel
theorem dX6_rank_79 : decode cX6_rank 79 = .ok (.goto (-55), 3) := by decide +kernel
theorem dX6_rank_82 : decode cX6_rank 82 = .ok (.iload 5, 2) := by decide +kernel
theorem dX6_rank_84 : decode cX6_rank 84 = .ok (.iload_n 1, 1) := by decide +kernel
theorem dX6_rank_85 : decode cX6_rank 85 = .ok (.if_icmp .ne 5, 3) := by decide +kernel
theorem dX6_rank_88 : decode cX6_rank 88 = .ok (.iload_n 3, 1) := by decide +kernel
theorem dX6_rank_89 : decode cX6_rank 89 = .ok (.ireturn, 1) := by decide +kernel
theorem dX6_rank_90 : decode cX6_rank 90 = .ok (.iinc 3 1, 3) := by decide +kernel
theorem dX6_rank_93 : decode cX6_rank 93 = .ok (.goto (-91), 3) := by decide +kernel
theorem dX6_rank_96 : decode cX6_rank 96 = .ok (.iconst (-1), 1) := by decide +kernel
theorem dX6_rank_97 : decode cX6_rank 97 = .ok (.ireturn, 1) := by decide +kernel
end
section
theorem dX0_init_0 : decode cX0_init 0 = .ok (.aload_n 0, 1) := by decide +kernel
theorem dX0_init_1 : decode cX0_init 1 = .ok (.invokespecial 3, 3) := by decide +kernel
theorem dX0_init_4 : decode cX0_init 4 = .ok (.aload_n 0, 1) := by decide +kernel
theorem dX0_init_5 : decode cX0_init 5 = .ok (.bipush 24, 2) := by decide +kernel
theorem dX0_init_7 : decode cX0_init 7 = .ok (.sipush 325, 3) := by decide +kernel
theorem dX0_init_10 : decode cX0_init 10 = .ok (.multianewarray 11 2, 4) := by decide +kernel
theorem dX0_init_14 : decode cX0_init 14 = .ok (.putfield 13, 3) := by decide +kernel
theorem dX0_init_17 : decode cX0_init 17 = .ok (.aload_n 0, 1) := by decide +kernel
theorem dX0_init_18 : decode cX0_init 18 = .ok (.bipush 25, 2) := by decide +kernel
theorem dX0_init_20 : decode cX0_init 20 = .ok (.newarray .int, 2) := by decide +kernel
theorem dX0_init_22 : decode cX0_init 22 = .ok (.putfield 16, 3) := by decide +kernel
theorem dX0_init_25 : decode cX0_init 25 = .ok (.aload_n 0, 1) := by decide +kernel
theorem dX0_init_26 : decode cX0_init 26 = .ok (.iconst 0, 1) := by decide +kernel
theorem dX0_init_27 : decode cX0_init 27 = .ok (.putfield 20, 3) := by decide +kernel
theorem dX0_init_30 : decode cX0_init 30 = .ok (.aload_n 0, 1) := by decide +kernel
theorem dX0_init_31 : decode cX0_init 31 = .ok (.iconst 1, 1) := by decide +kernel
theorem dX0_init_32 : decode cX0_init 32 = .ok (.putfield 24, 3) := by decide +kernel
theorem dX0_init_35 : decode cX0_init 35 = .ok (.aload_n 0, 1) := by decide +kernel
theorem dX0_init_36 : decode cX0_init 36 = .ok (.iconst 1, 1) := by decide +kernel
theorem dX0_init_37 : decode cX0_init 37 = .ok (.putfield 27, 3) := by decide +kernel
theorem dX0_init_40 : decode cX0_init 40 = .ok (.aload_n 0, 1) := by decide +kernel
theorem dX0_init_41 : decode cX0_init 41 = .ok (.iconst 1, 1) := by decide +kernel
theorem dX0_init_42 : decode cX0_init 42 = .ok (.putfield 30, 3) := by decide +kernel
theorem dX0_init_45 : decode cX0_init 45 = .ok (.return_, 1) := by decide +kernel
theorem dX0_weigh_0 : decode cX0_weigh 0 = .ok (.aload_n 0, 1) := by decide +kernel
theorem dX0_weigh_1 : decode cX0_weigh 1 = .ok (.iload_n 1, 1) := by decide +kernel
theorem dX0_weigh_2 : decode cX0_weigh 2 = .ok (.putfield 24, 3) := by decide +kernel
theorem dX0_weigh_5 : decode cX0_weigh 5 = .ok (.aload_n 0, 1) := by decide +kernel
theorem dX0_weigh_6 : decode cX0_weigh 6 = .ok (.iload_n 2, 1) := by decide +kernel
theorem dX0_weigh_7 : decode cX0_weigh 7 = .ok (.putfield 27, 3) := by decide +kernel
theorem dX0_weigh_10 : decode cX0_weigh 10 = .ok (.aload_n 0, 1) := by decide +kernel
theorem dX0_weigh_11 : decode cX0_weigh 11 = .ok (.iload_n 3, 1) := by decide +kernel
theorem dX0_weigh_12 : decode cX0_weigh 12 = .ok (.putfield 30, 3) := by decide +kernel
theorem dX0_weigh_15 : decode cX0_weigh 15 = .ok (.aload_n 0, 1) := by decide +kernel
theorem dX0_weigh_16 : decode cX0_weigh 16 = .ok (.invokevirtual 33, 3) := by decide +kernel
theorem dX0_weigh_19 : decode cX0_weigh 19 = .ok (.return_, 1) := by decide +kernel
theorem dX0_forget_0 : decode cX0_forget 0 = .ok (.aload_n 0, 1) := by decide +kernel
theorem dX0_forget_1 : decode cX0_forget 1 = .ok (.iconst 0, 1) := by decide +kernel
theorem dX0_forget_2 : decode cX0_forget 2 = .ok (.putfield 20, 3) := by decide +kernel
theorem dX0_forget_5 : decode cX0_forget 5 = .ok (.return_, 1) := by decide +kernel
theorem dX0_learn_0 : decode cX0_learn 0 = .ok (.aload_n 0, 1) := by decide +kernel
theorem dX0_learn_1 : decode cX0_learn 1 = .ok (.getfield 20, 3) := by decide +kernel
theorem dX0_learn_4 : decode cX0_learn 4 = .ok (.istore_n 3, 1) := by decide +kernel
theorem dX0_learn_5 : decode cX0_learn 5 = .ok (.iload_n 3, 1) := by decide +kernel
theorem dX0_learn_6 : decode cX0_learn 6 = .ok (.aload_n 2, 1) := by decide +kernel
theorem dX0_learn_7 : decode cX0_learn 7 = .ok (.getfield 36, 3) := by decide +kernel
theorem dX0_learn_10 : decode cX0_learn 10 = .ok (.if_icmp .gt 36, 3) := by decide +kernel
theorem dX0_learn_13 : decode cX0_learn 13 = .ok (.iconst 0, 1) := by decide +kernel
theorem dX0_learn_14 : decode cX0_learn 14 = .ok (.istore 4, 2) := by decide +kernel
theorem dX0_learn_16 : decode cX0_learn 16 = .ok (.iload 4, 2) := by decide +kernel
theorem dX0_learn_18 : decode cX0_learn 18 = .ok (.aload_n 1, 1) := by decide +kernel
theorem dX0_learn_19 : decode cX0_learn 19 = .ok (.getfield 41, 3) := by decide +kernel
theorem dX0_learn_22 : decode cX0_learn 22 = .ok (.if_icmp .ge 18, 3) := by decide +kernel
theorem dX0_learn_25 : decode cX0_learn 25 = .ok (.aload_n 0, 1) := by decide +kernel
theorem dX0_learn_26 : decode cX0_learn 26 = .ok (.aload_n 1, 1) := by decide +kernel
theorem dX0_learn_27 : decode cX0_learn 27 = .ok (.iload 4, 2) := by decide +kernel
theorem dX0_learn_29 : decode cX0_learn 29 = .ok (.aload_n 2, 1) := by decide +kernel
theorem dX0_learn_30 : decode cX0_learn 30 = .ok (.iload_n 3, 1) := by decide +kernel
theorem dX0_learn_31 : decode cX0_learn 31 = .ok (.invokevirtual 44, 3) := by decide +kernel
theorem dX0_learn_34 : decode cX0_learn 34 = .ok (.iinc 4 1, 3) := by decide +kernel
theorem dX0_learn_37 : decode cX0_learn 37 = .ok (.goto (-21), 3) := by decide +kernel
theorem dX0_learn_40 : decode cX0_learn 40 = .ok (.iinc 3 1, 3) := by decide +kernel
theorem dX0_learn_43 : decode cX0_learn 43 = .ok (.goto (-38), 3) := by decide +kernel
theorem dX0_learn_46 : decode cX0_learn 46 = .ok (.aload_n 0, 1) := by decide +kernel
theorem dX0_learn_47 : decode cX0_learn 47 = .ok (.aload_n 2, 1) := by decide +kernel
theorem dX0_learn_48 : decode cX0_learn 48 = .ok (.getfield 36, 3) := by decide +kernel
theorem dX0_learn_51 : decode cX0_learn 51 = .ok (.iconst 1, 1) := by decide +kernel
theorem dX0_learn_52 : decode cX0_learn 52 = .ok (.iadd, 1) := by decide +kernel
theorem dX0_learn_53 : decode cX0_learn 53 = .ok (.putfield 20, 3) := by decide +kernel
theorem dX0_learn_56 : decode cX0_learn 56 = .ok (.return_, 1) := by decide +kernel
theorem dX0_ofWhole_0 : decode cX0_ofWhole 0 = .ok (.aload_n 1, 1) := by decide +kernel
theorem dX0_ofWhole_1 : decode cX0_ofWhole 1 = .ok (.getfield 41, 3) := by decide +kernel
theorem dX0_ofWhole_4 : decode cX0_ofWhole 4 = .ok (.iconst 1, 1) := by decide +kernel
theorem dX0_ofWhole_5 : decode cX0_ofWhole 5 = .ok (.if_icmp .lt 20, 3) := by decide +kernel
theorem dX0_ofWhole_8 : decode cX0_ofWhole 8 = .ok (.iload_n 2, 1) := by decide +kernel
theorem dX0_ofWhole_9 : decode cX0_ofWhole 9 = .ok (.ifCond .lt 16, 3) := by decide +kernel
theorem dX0_ofWhole_12 : decode cX0_ofWhole 12 = .ok (.iload_n 3, 1) := by decide +kernel
theorem dX0_ofWhole_13 : decode cX0_ofWhole 13 = .ok (.iload_n 2, 1) := by decide +kernel
theorem dX0_ofWhole_14 : decode cX0_ofWhole 14 = .ok (.if_icmp .lt 11, 3) := by decide +kernel
theorem dX0_ofWhole_17 : decode cX0_ofWhole 17 = .ok (.iload_n 3, 1) := by decide +kernel
theorem dX0_ofWhole_18 : decode cX0_ofWhole 18 = .ok (.aload_n 0, 1) := by decide +kernel
theorem dX0_ofWhole_19 : decode cX0_ofWhole 19 = .ok (.getfield 20, 3) := by decide +kernel
theorem dX0_ofWhole_22 : decode cX0_ofWhole 22 = .ok (.if_icmp .lt 6, 3) := by decide +kernel
theorem dX0_ofWhole_25 : decode cX0_ofWhole 25 = .ok (.ldc 48, 2) := by decide +kernel
theorem dX0_ofWhole_27 : decode cX0_ofWhole 27 = .ok (.ireturn, 1) := by decide +kernel
theorem dX0_ofWhole_28 : decode cX0_ofWhole 28 = .ok (.aload_n 0, 1) := by decide +kernel
theorem dX0_ofWhole_29 : decode cX0_ofWhole 29 = .ok (.getfield 13, 3) := by decide +kernel
theorem dX0_ofWhole_32 : decode cX0_ofWhole 32 = .ok (.aload_n 1, 1) := by decide +kernel
theorem dX0_ofWhole_33 : decode cX0_ofWhole 33 = .ok (.getfield 41, 3) := by decide +kernel
theorem dX0_ofWhole_36 : decode cX0_ofWhole 36 = .ok (.iconst 1, 1) := by decide +kernel
theorem dX0_ofWhole_37 : decode cX0_ofWhole 37 = .ok (.isub, 1) := by decide +kernel
theorem dX0_ofWhole_38 : decode cX0_ofWhole 38 = .ok (.aaload, 1) := by decide +kernel
theorem dX0_ofWhole_39 : decode cX0_ofWhole 39 = .ok (.iload_n 2, 1) := by decide +kernel
theorem dX0_ofWhole_40 : decode cX0_ofWhole 40 = .ok (.iload_n 3, 1) := by decide +kernel
theorem dX0_ofWhole_41 : decode cX0_ofWhole 41 = .ok (.invokestatic 49, 3) := by decide +kernel
theorem dX0_ofWhole_44 : decode cX0_ofWhole 44 = .ok (.iaload, 1) := by decide +kernel
theorem dX0_ofWhole_45 : decode cX0_ofWhole 45 = .ok (.ireturn, 1) := by decide +kernel
theorem dX0_fillColumn_0 : decode cX0_fillColumn 0 = .ok (.aload_n 0, 1) := by decide +kernel
theorem dX0_fillColumn_1 : decode cX0_fillColumn 1 = .ok (.getfield 13, 3) := by decide +kernel
theorem dX0_fillColumn_4 : decode cX0_fillColumn 4 = .ok (.iload_n 2, 1) := by decide +kernel
theorem dX0_fillColumn_5 : decode cX0_fillColumn 5 = .ok (.aaload, 1) := by decide +kernel
theorem dX0_fillColumn_6 : decode cX0_fillColumn 6 = .ok (.astore 5, 2) := by decide +kernel
theorem dX0_fillColumn_8 : decode cX0_fillColumn 8 = .ok (.aload_n 1, 1) := by decide +kernel
theorem dX0_fillColumn_9 : decode cX0_fillColumn 9 = .ok (.getfield 53, 3) := by decide +kernel
theorem dX0_fillColumn_12 : decode cX0_fillColumn 12 = .ok (.iload_n 2, 1) := by decide +kernel
theorem dX0_fillColumn_13 : decode cX0_fillColumn 13 = .ok (.iaload, 1) := by decide +kernel
theorem dX0_fillColumn_14 : decode cX0_fillColumn 14 = .ok (.istore 6, 2) := by decide +kernel
theorem dX0_fillColumn_16 : decode cX0_fillColumn 16 = .ok (.aload_n 1, 1) := by decide +kernel
theorem dX0_fillColumn_17 : decode cX0_fillColumn 17 = .ok (.getfield 56, 3) := by decide +kernel
theorem dX0_fillColumn_20 : decode cX0_fillColumn 20 = .ok (.iload_n 2, 1) := by decide +kernel
theorem dX0_fillColumn_21 : decode cX0_fillColumn 21 = .ok (.iaload, 1) := by decide +kernel
theorem dX0_fillColumn_22 : decode cX0_fillColumn 22 = .ok (.ifCond .ne 15, 3) := by decide +kernel
theorem dX0_fillColumn_25 : decode cX0_fillColumn 25 = .ok (.aload_n 0, 1) := by decide +kernel
theorem dX0_fillColumn_26 : decode cX0_fillColumn 26 = .ok (.aload 5, 2) := by decide +kernel
theorem dX0_fillColumn_28 : decode cX0_fillColumn 28 = .ok (.iload 6, 2) := by decide +kernel
theorem dX0_fillColumn_30 : decode cX0_fillColumn 30 = .ok (.aload_n 3, 1) := by decide +kernel
theorem dX0_fillColumn_31 : decode cX0_fillColumn 31 = .ok (.iload 4, 2) := by decide +kernel
theorem dX0_fillColumn_33 : decode cX0_fillColumn 33 = .ok (.invokevirtual 59, 3) := by decide +kernel
theorem dX0_fillColumn_36 : decode cX0_fillColumn 36 = .ok (.return_, 1) := by decide +kernel
theorem dX0_fillColumn_37 : decode cX0_fillColumn 37 = .ok (.aload_n 0, 1) := by decide +kernel
theorem dX0_fillColumn_38 : decode cX0_fillColumn 38 = .ok (.getfield 13, 3) := by decide +kernel
theorem dX0_fillColumn_41 : decode cX0_fillColumn 41 = .ok (.aload_n 1, 1) := by decide +kernel
theorem dX0_fillColumn_42 : decode cX0_fillColumn 42 = .ok (.getfield 63, 3) := by decide +kernel
theorem dX0_fillColumn_45 : decode cX0_fillColumn 45 = .ok (.iload_n 2, 1) := by decide +kernel
theorem dX0_fillColumn_46 : decode cX0_fillColumn 46 = .ok (.iaload, 1) := by decide +kernel
theorem dX0_fillColumn_47 : decode cX0_fillColumn 47 = .ok (.iload_n 2, 1) := by decide +kernel
theorem dX0_fillColumn_48 : decode cX0_fillColumn 48 = .ok (.invokestatic 66, 3) := by decide +kernel
theorem dX0_fillColumn_51 : decode cX0_fillColumn 51 = .ok (.aaload, 1) := by decide +kernel
theorem dX0_fillColumn_52 : decode cX0_fillColumn 52 = .ok (.astore 7, 2) := by decide +kernel
theorem dX0_fillColumn_54 : decode cX0_fillColumn 54 = .ok (.aload_n 0, 1) := by decide +kernel
theorem dX0_fillColumn_55 : decode cX0_fillColumn 55 = .ok (.getfield 13, 3) := by decide +kernel
theorem dX0_fillColumn_58 : decode cX0_fillColumn 58 = .ok (.aload_n 1, 1) := by decide +kernel
theorem dX0_fillColumn_59 : decode cX0_fillColumn 59 = .ok (.getfield 69, 3) := by decide +kernel
theorem dX0_fillColumn_62 : decode cX0_fillColumn 62 = .ok (.iload_n 2, 1) := by decide +kernel
theorem dX0_fillColumn_63 : decode cX0_fillColumn 63 = .ok (.iaload, 1) := by decide +kernel
theorem dX0_fillColumn_64 : decode cX0_fillColumn 64 = .ok (.iload_n 2, 1) := by decide +kernel
theorem dX0_fillColumn_65 : decode cX0_fillColumn 65 = .ok (.invokestatic 66, 3) := by decide +kernel
theorem dX0_fillColumn_68 : decode cX0_fillColumn 68 = .ok (.aaload, 1) := by decide +kernel
theorem dX0_fillColumn_69 : decode cX0_fillColumn 69 = .ok (.astore 8, 2) := by decide +kernel
theorem dX0_fillColumn_71 : decode cX0_fillColumn 71 = .ok (.aload_n 1, 1) := by decide +kernel
theorem dX0_fillColumn_72 : decode cX0_fillColumn 72 = .ok (.getfield 56, 3) := by decide +kernel
theorem dX0_fillColumn_75 : decode cX0_fillColumn 75 = .ok (.iload_n 2, 1) := by decide +kernel
theorem dX0_fillColumn_76 : decode cX0_fillColumn 76 = .ok (.iaload, 1) := by decide +kernel
theorem dX0_fillColumn_77 : decode cX0_fillColumn 77 = .ok (.tableswitch 97 1 6 #[39, 54, 69, 97, 97, 82], 39) := by decide +kernel
theorem dX0_fillColumn_116 : decode cX0_fillColumn 116 = .ok (.aload_n 0, 1) := by decide +kernel
theorem dX0_fillColumn_117 : decode cX0_fillColumn 117 = .ok (.aload 5, 2) := by decide +kernel
theorem dX0_fillColumn_119 : decode cX0_fillColumn 119 = .ok (.aload 7, 2) := by decide +kernel
theorem dX0_fillColumn_121 : decode cX0_fillColumn 121 = .ok (.aload 8, 2) := by decide +kernel
theorem dX0_fillColumn_123 : decode cX0_fillColumn 123 = .ok (.iload 4, 2) := by decide +kernel
theorem dX0_fillColumn_125 : decode cX0_fillColumn 125 = .ok (.invokevirtual 72, 3) := by decide +kernel
theorem dX0_fillColumn_128 : decode cX0_fillColumn 128 = .ok (.goto 77, 3) := by decide +kernel
theorem dX0_fillColumn_131 : decode cX0_fillColumn 131 = .ok (.aload_n 0, 1) := by decide +kernel
theorem dX0_fillColumn_132 : decode cX0_fillColumn 132 = .ok (.aload 5, 2) := by decide +kernel
theorem dX0_fillColumn_134 : decode cX0_fillColumn 134 = .ok (.aload 7, 2) := by decide +kernel
theorem dX0_fillColumn_136 : decode cX0_fillColumn 136 = .ok (.aload 8, 2) := by decide +kernel
theorem dX0_fillColumn_138 : decode cX0_fillColumn 138 = .ok (.iload 4, 2) := by decide +kernel
theorem dX0_fillColumn_140 : decode cX0_fillColumn 140 = .ok (.invokevirtual 76, 3) := by decide +kernel
theorem dX0_fillColumn_143 : decode cX0_fillColumn 143 = .ok (.goto 62, 3) := by decide +kernel
theorem dX0_fillColumn_146 : decode cX0_fillColumn 146 = .ok (.aload_n 0, 1) := by decide +kernel
theorem dX0_fillColumn_147 : decode cX0_fillColumn 147 = .ok (.aload 5, 2) := by decide +kernel
theorem dX0_fillColumn_149 : decode cX0_fillColumn 149 = .ok (.aload 7, 2) := by decide +kernel
theorem dX0_fillColumn_151 : decode cX0_fillColumn 151 = .ok (.iload 4, 2) := by decide +kernel
theorem dX0_fillColumn_153 : decode cX0_fillColumn 153 = .ok (.invokevirtual 79, 3) := by decide +kernel
theorem dX0_fillColumn_156 : decode cX0_fillColumn 156 = .ok (.goto 49, 3) := by decide +kernel
theorem dX0_fillColumn_159 : decode cX0_fillColumn 159 = .ok (.aload_n 0, 1) := by decide +kernel
theorem dX0_fillColumn_160 : decode cX0_fillColumn 160 = .ok (.aload 5, 2) := by decide +kernel
theorem dX0_fillColumn_162 : decode cX0_fillColumn 162 = .ok (.aload 7, 2) := by decide +kernel
theorem dX0_fillColumn_164 : decode cX0_fillColumn 164 = .ok (.iload 6, 2) := by decide +kernel
theorem dX0_fillColumn_166 : decode cX0_fillColumn 166 = .ok (.iload 4, 2) := by decide +kernel
theorem dX0_fillColumn_168 : decode cX0_fillColumn 168 = .ok (.invokevirtual 83, 3) := by decide +kernel
theorem dX0_fillColumn_171 : decode cX0_fillColumn 171 = .ok (.goto 34, 3) := by decide +kernel
theorem dX0_fillColumn_174 : decode cX0_fillColumn 174 = .ok (.aload_n 0, 1) := by decide +kernel
theorem dX0_fillColumn_175 : decode cX0_fillColumn 175 = .ok (.aload 7, 2) := by decide +kernel
theorem dX0_fillColumn_177 : decode cX0_fillColumn 177 = .ok (.iload 4, 2) := by decide +kernel
theorem dX0_fillColumn_179 : decode cX0_fillColumn 179 = .ok (.invokevirtual 87, 3) := by decide +kernel
theorem dX0_fillColumn_182 : decode cX0_fillColumn 182 = .ok (.aload_n 0, 1) := by decide +kernel
theorem dX0_fillColumn_183 : decode cX0_fillColumn 183 = .ok (.aload 5, 2) := by decide +kernel
theorem dX0_fillColumn_185 : decode cX0_fillColumn 185 = .ok (.aload_n 1, 1) := by decide +kernel
theorem dX0_fillColumn_186 : decode cX0_fillColumn 186 = .ok (.getfield 56, 3) := by decide +kernel
theorem dX0_fillColumn_189 : decode cX0_fillColumn 189 = .ok (.iload_n 2, 1) := by decide +kernel
theorem dX0_fillColumn_190 : decode cX0_fillColumn 190 = .ok (.iaload, 1) := by decide +kernel
theorem dX0_fillColumn_191 : decode cX0_fillColumn 191 = .ok (.iconst 4, 1) := by decide +kernel
theorem dX0_fillColumn_192 : decode cX0_fillColumn 192 = .ok (.if_icmp .ne 7, 3) := by decide +kernel
theorem dX0_fillColumn_195 : decode cX0_fillColumn 195 = .ok (.iconst 1, 1) := by decide +kernel
theorem dX0_fillColumn_196 : decode cX0_fillColumn 196 = .ok (.goto 4, 3) := by decide +kernel
theorem dX0_fillColumn_199 : decode cX0_fillColumn 199 = .ok (.iconst 0, 1) := by decide +kernel
theorem dX0_fillColumn_200 : decode cX0_fillColumn 200 = .ok (.iload 4, 2) := by decide +kernel
theorem dX0_fillColumn_202 : decode cX0_fillColumn 202 = .ok (.invokevirtual 91, 3) := by decide +kernel
theorem dX0_fillColumn_205 : decode cX0_fillColumn 205 = .ok (.return_, 1) := by decide +kernel
theorem dX0_operand_0 : decode cX0_operand 0 = .ok (.iload_n 0, 1) := by decide +kernel
theorem dX0_operand_1 : decode cX0_operand 1 = .ok (.ifCond .lt 12, 3) := by decide +kernel
theorem dX0_operand_4 : decode cX0_operand 4 = .ok (.iload_n 0, 1) := by decide +kernel
theorem dX0_operand_5 : decode cX0_operand 5 = .ok (.iload_n 1, 1) := by decide +kernel
theorem dX0_operand_6 : decode cX0_operand 6 = .ok (.if_icmp .ge 7, 3) := by decide +kernel
theorem dX0_operand_9 : decode cX0_operand 9 = .ok (.iload_n 0, 1) := by decide +kernel
theorem dX0_operand_10 : decode cX0_operand 10 = .ok (.goto 4, 3) := by decide +kernel
theorem dX0_operand_13 : decode cX0_operand 13 = .ok (.iconst 0, 1) := by decide +kernel
theorem dX0_operand_14 : decode cX0_operand 14 = .ok (.ireturn, 1) := by decide +kernel
theorem dX0_fillLetter_0 : decode cX0_fillLetter 0 = .ok (.iconst 0, 1) := by decide +kernel
theorem dX0_fillLetter_1 : decode cX0_fillLetter 1 = .ok (.istore 5, 2) := by decide +kernel
theorem dX0_fillLetter_3 : decode cX0_fillLetter 3 = .ok (.aload_n 1, 1) := by decide +kernel
theorem dX0_fillLetter_4 : decode cX0_fillLetter 4 = .ok (.iload 4, 2) := by decide +kernel
theorem dX0_fillLetter_6 : decode cX0_fillLetter 6 = .ok (.iload 4, 2) := by decide +kernel
theorem dX0_fillLetter_8 : decode cX0_fillLetter 8 = .ok (.invokestatic 49, 3) := by decide +kernel
theorem dX0_fillLetter_11 : decode cX0_fillLetter 11 = .ok (.aload_n 0, 1) := by decide +kernel
theorem dX0_fillLetter_12 : decode cX0_fillLetter 12 = .ok (.getfield 27, 3) := by decide +kernel
theorem dX0_fillLetter_15 : decode cX0_fillLetter 15 = .ok (.iastore, 1) := by decide +kernel
theorem dX0_fillLetter_16 : decode cX0_fillLetter 16 = .ok (.iload 4, 2) := by decide +kernel
theorem dX0_fillLetter_18 : decode cX0_fillLetter 18 = .ok (.iconst 1, 1) := by decide +kernel
theorem dX0_fillLetter_19 : decode cX0_fillLetter 19 = .ok (.isub, 1) := by decide +kernel
theorem dX0_fillLetter_20 : decode cX0_fillLetter 20 = .ok (.istore 6, 2) := by decide +kernel
theorem dX0_fillLetter_22 : decode cX0_fillLetter 22 = .ok (.iload 6, 2) := by decide +kernel
theorem dX0_fillLetter_24 : decode cX0_fillLetter 24 = .ok (.ifCond .lt 99, 3) := by decide +kernel
theorem dX0_fillLetter_27 : decode cX0_fillLetter 27 = .ok (.iload 5, 2) := by decide +kernel
theorem dX0_fillLetter_29 : decode cX0_fillLetter 29 = .ok (.ifCond .ne 20, 3) := by decide +kernel
theorem dX0_fillLetter_32 : decode cX0_fillLetter 32 = .ok (.iload_n 2, 1) := by decide +kernel
theorem dX0_fillLetter_33 : decode cX0_fillLetter 33 = .ok (.aload_n 3, 1) := by decide +kernel
theorem dX0_fillLetter_34 : decode cX0_fillLetter 34 = .ok (.iload 6, 2) := by decide +kernel
theorem dX0_fillLetter_36 : decode cX0_fillLetter 36 = .ok (.invokevirtual 95, 3) := by decide +kernel
theorem dX0_fillLetter_39 : decode cX0_fillLetter 39 = .ok (.bipush 97, 2) := by decide +kernel
theorem dX0_fillLetter_41 : decode cX0_fillLetter 41 = .ok (.isub, 1) := by decide +kernel
theorem dX0_fillLetter_42 : decode cX0_fillLetter 42 = .ok (.ishr, 1) := by decide +kernel
theorem dX0_fillLetter_43 : decode cX0_fillLetter 43 = .ok (.iconst 1, 1) := by decide +kernel
theorem dX0_fillLetter_44 : decode cX0_fillLetter 44 = .ok (.iand, 1) := by decide +kernel
theorem dX0_fillLetter_45 : decode cX0_fillLetter 45 = .ok (.iconst 1, 1) := by decide +kernel
theorem dX0_fillLetter_46 : decode cX0_fillLetter 46 = .ok (.if_icmp .ne 7, 3) := by decide +kernel
theorem dX0_fillLetter_49 : decode cX0_fillLetter 49 = .ok (.iconst 1, 1) := by decide +kernel
theorem dX0_fillLetter_50 : decode cX0_fillLetter 50 = .ok (.goto 4, 3) := by decide +kernel
theorem dX0_fillLetter_53 : decode cX0_fillLetter 53 = .ok (.iconst 0, 1) := by decide +kernel
theorem dX0_fillLetter_54 : decode cX0_fillLetter 54 = .ok (.istore 5, 2) := by decide +kernel
theorem dX0_fillLetter_56 : decode cX0_fillLetter 56 = .ok (.aload_n 0, 1) := by decide +kernel
theorem dX0_fillLetter_57 : decode cX0_fillLetter 57 = .ok (.getfield 27, 3) := by decide +kernel
theorem dX0_fillLetter_60 : decode cX0_fillLetter 60 = .ok (.iload 4, 2) := by decide +kernel
theorem dX0_fillLetter_62 : decode cX0_fillLetter 62 = .ok (.iload 6, 2) := by decide +kernel
theorem dX0_fillLetter_64 : decode cX0_fillLetter 64 = .ok (.isub, 1) := by decide +kernel
theorem dX0_fillLetter_65 : decode cX0_fillLetter 65 = .ok (.aload_n 0, 1) := by decide +kernel
theorem dX0_fillLetter_66 : decode cX0_fillLetter 66 = .ok (.getfield 24, 3) := by decide +kernel
theorem dX0_fillLetter_69 : decode cX0_fillLetter 69 = .ok (.imul, 1) := by decide +kernel
theorem dX0_fillLetter_70 : decode cX0_fillLetter 70 = .ok (.iadd, 1) := by decide +kernel
theorem dX0_fillLetter_71 : decode cX0_fillLetter 71 = .ok (.istore 7, 2) := by decide +kernel
theorem dX0_fillLetter_73 : decode cX0_fillLetter 73 = .ok (.iload 4, 2) := by decide +kernel
theorem dX0_fillLetter_75 : decode cX0_fillLetter 75 = .ok (.iload 6, 2) := by decide +kernel
theorem dX0_fillLetter_77 : decode cX0_fillLetter 77 = .ok (.isub, 1) := by decide +kernel
theorem dX0_fillLetter_78 : decode cX0_fillLetter 78 = .ok (.iconst 1, 1) := by decide +kernel
theorem dX0_fillLetter_79 : decode cX0_fillLetter 79 = .ok (.isub, 1) := by decide +kernel
theorem dX0_fillLetter_80 : decode cX0_fillLetter 80 = .ok (.aload_n 0, 1) := by decide +kernel
theorem dX0_fillLetter_81 : decode cX0_fillLetter 81 = .ok (.getfield 24, 3) := by decide +kernel
theorem dX0_fillLetter_84 : decode cX0_fillLetter 84 = .ok (.imul, 1) := by decide +kernel
theorem dX0_fillLetter_85 : decode cX0_fillLetter 85 = .ok (.iload 5, 2) := by decide +kernel
theorem dX0_fillLetter_87 : decode cX0_fillLetter 87 = .ok (.ifCond .eq 7, 3) := by decide +kernel
theorem dX0_fillLetter_90 : decode cX0_fillLetter 90 = .ok (.iconst 0, 1) := by decide +kernel
theorem dX0_fillLetter_91 : decode cX0_fillLetter 91 = .ok (.goto 7, 3) := by decide +kernel
theorem dX0_fillLetter_94 : decode cX0_fillLetter 94 = .ok (.aload_n 0, 1) := by decide +kernel
theorem dX0_fillLetter_95 : decode cX0_fillLetter 95 = .ok (.getfield 30, 3) := by decide +kernel
theorem dX0_fillLetter_98 : decode cX0_fillLetter 98 = .ok (.iadd, 1) := by decide +kernel
theorem dX0_fillLetter_99 : decode cX0_fillLetter 99 = .ok (.istore 8, 2) := by decide +kernel
theorem dX0_fillLetter_101 : decode cX0_fillLetter 101 = .ok (.aload_n 1, 1) := by decide +kernel
theorem dX0_fillLetter_102 : decode cX0_fillLetter 102 = .ok (.iload 6, 2) := by decide +kernel
theorem dX0_fillLetter_104 : decode cX0_fillLetter 104 = .ok (.iload 4, 2) := by decide +kernel
theorem dX0_fillLetter_106 : decode cX0_fillLetter 106 = .ok (.invokestatic 49, 3) := by decide +kernel
theorem dX0_fillLetter_109 : decode cX0_fillLetter 109 = .ok (.iload 7, 2) := by decide +kernel
theorem dX0_fillLetter_111 : decode cX0_fillLetter 111 = .ok (.iload 8, 2) := by decide +kernel
theorem dX0_fillLetter_113 : decode cX0_fillLetter 113 = .ok (.invokestatic 99, 3) := by decide +kernel
theorem dX0_fillLetter_116 : decode cX0_fillLetter 116 = .ok (.iastore, 1) := by decide +kernel
theorem dX0_fillLetter_117 : decode cX0_fillLetter 117 = .ok (.iinc 6 (-1), 3) := by decide +kernel
theorem dX0_fillLetter_120 : decode cX0_fillLetter 120 = .ok (.goto (-98), 3) := by decide +kernel
theorem dX0_fillLetter_123 : decode cX0_fillLetter 123 = .ok (.return_, 1) := by decide +kernel
theorem dX0_fillRow_0 : decode cX0_fillRow 0 = .ok (.iconst 0, 1) := by decide +kernel
theorem dX0_fillRow_1 : decode cX0_fillRow 1 = .ok (.istore 5, 2) := by decide +kernel
theorem dX0_fillRow_3 : decode cX0_fillRow 3 = .ok (.iload 5, 2) := by decide +kernel
theorem dX0_fillRow_5 : decode cX0_fillRow 5 = .ok (.iload 4, 2) := by decide +kernel
theorem dX0_fillRow_7 : decode cX0_fillRow 7 = .ok (.if_icmp .gt 67, 3) := by decide +kernel
theorem dX0_fillRow_10 : decode cX0_fillRow 10 = .ok (.ldc 48, 2) := by decide +kernel
theorem dX0_fillRow_12 : decode cX0_fillRow 12 = .ok (.istore 6, 2) := by decide +kernel
theorem dX0_fillRow_14 : decode cX0_fillRow 14 = .ok (.iload 5, 2) := by decide +kernel
theorem dX0_fillRow_16 : decode cX0_fillRow 16 = .ok (.istore 7, 2) := by decide +kernel
theorem dX0_fillRow_18 : decode cX0_fillRow 18 = .ok (.iload 7, 2) := by decide +kernel
theorem dX0_fillRow_20 : decode cX0_fillRow 20 = .ok (.iload 4, 2) := by decide +kernel
theorem dX0_fillRow_22 : decode cX0_fillRow 22 = .ok (.if_icmp .gt 35, 3) := by decide +kernel
theorem dX0_fillRow_25 : decode cX0_fillRow 25 = .ok (.iload 6, 2) := by decide +kernel
theorem dX0_fillRow_27 : decode cX0_fillRow 27 = .ok (.aload_n 2, 1) := by decide +kernel
theorem dX0_fillRow_28 : decode cX0_fillRow 28 = .ok (.iload 5, 2) := by decide +kernel
theorem dX0_fillRow_30 : decode cX0_fillRow 30 = .ok (.iload 7, 2) := by decide +kernel
theorem dX0_fillRow_32 : decode cX0_fillRow 32 = .ok (.invokestatic 49, 3) := by decide +kernel
theorem dX0_fillRow_35 : decode cX0_fillRow 35 = .ok (.iaload, 1) := by decide +kernel
theorem dX0_fillRow_36 : decode cX0_fillRow 36 = .ok (.aload_n 3, 1) := by decide +kernel
theorem dX0_fillRow_37 : decode cX0_fillRow 37 = .ok (.iload 7, 2) := by decide +kernel
theorem dX0_fillRow_39 : decode cX0_fillRow 39 = .ok (.iload 4, 2) := by decide +kernel
theorem dX0_fillRow_41 : decode cX0_fillRow 41 = .ok (.invokestatic 49, 3) := by decide +kernel
theorem dX0_fillRow_44 : decode cX0_fillRow 44 = .ok (.iaload, 1) := by decide +kernel
theorem dX0_fillRow_45 : decode cX0_fillRow 45 = .ok (.iadd, 1) := by decide +kernel
theorem dX0_fillRow_46 : decode cX0_fillRow 46 = .ok (.invokestatic 99, 3) := by decide +kernel
theorem dX0_fillRow_49 : decode cX0_fillRow 49 = .ok (.istore 6, 2) := by decide +kernel
theorem dX0_fillRow_51 : decode cX0_fillRow 51 = .ok (.iinc 7 1, 3) := by decide +kernel
theorem dX0_fillRow_54 : decode cX0_fillRow 54 = .ok (.goto (-36), 3) := by decide +kernel
theorem dX0_fillRow_57 : decode cX0_fillRow 57 = .ok (.aload_n 1, 1) := by decide +kernel
theorem dX0_fillRow_58 : decode cX0_fillRow 58 = .ok (.iload 5, 2) := by decide +kernel
theorem dX0_fillRow_60 : decode cX0_fillRow 60 = .ok (.iload 4, 2) := by decide +kernel
theorem dX0_fillRow_62 : decode cX0_fillRow 62 = .ok (.invokestatic 49, 3) := by decide +kernel
theorem dX0_fillRow_65 : decode cX0_fillRow 65 = .ok (.iload 6, 2) := by decide +kernel
theorem dX0_fillRow_67 : decode cX0_fillRow 67 = .ok (.iastore, 1) := by decide +kernel
theorem dX0_fillRow_68 : decode cX0_fillRow 68 = .ok (.iinc 5 1, 3) := by decide +kernel
theorem dX0_fillRow_71 : decode cX0_fillRow 71 = .ok (.goto (-68), 3) := by decide +kernel
theorem dX0_fillRow_74 : decode cX0_fillRow 74 = .ok (.return_, 1) := by decide +kernel
theorem dX0_fillEither_0 : decode cX0_fillEither 0 = .ok (.iconst 0, 1) := by decide +kernel
theorem dX0_fillEither_1 : decode cX0_fillEither 1 = .ok (.istore 5, 2) := by decide +kernel
theorem dX0_fillEither_3 : decode cX0_fillEither 3 = .ok (.iload 5, 2) := by decide +kernel
theorem dX0_fillEither_5 : decode cX0_fillEither 5 = .ok (.iload 4, 2) := by decide +kernel
theorem dX0_fillEither_7 : decode cX0_fillEither 7 = .ok (.if_icmp .gt 39, 3) := by decide +kernel
theorem dX0_fillEither_10 : decode cX0_fillEither 10 = .ok (.aload_n 1, 1) := by decide +kernel
theorem dX0_fillEither_11 : decode cX0_fillEither 11 = .ok (.iload 5, 2) := by decide +kernel
theorem dX0_fillEither_13 : decode cX0_fillEither 13 = .ok (.iload 4, 2) := by decide +kernel
theorem dX0_fillEither_15 : decode cX0_fillEither 15 = .ok (.invokestatic 49, 3) := by decide +kernel
theorem dX0_fillEither_18 : decode cX0_fillEither 18 = .ok (.aload_n 2, 1) := by decide +kernel
theorem dX0_fillEither_19 : decode cX0_fillEither 19 = .ok (.iload 5, 2) := by decide +kernel
theorem dX0_fillEither_21 : decode cX0_fillEither 21 = .ok (.iload 4, 2) := by decide +kernel
theorem dX0_fillEither_23 : decode cX0_fillEither 23 = .ok (.invokestatic 49, 3) := by decide +kernel
theorem dX0_fillEither_26 : decode cX0_fillEither 26 = .ok (.iaload, 1) := by decide +kernel
theorem dX0_fillEither_27 : decode cX0_fillEither 27 = .ok (.aload_n 3, 1) := by decide +kernel
theorem dX0_fillEither_28 : decode cX0_fillEither 28 = .ok (.iload 5, 2) := by decide +kernel
theorem dX0_fillEither_30 : decode cX0_fillEither 30 = .ok (.iload 4, 2) := by decide +kernel
theorem dX0_fillEither_32 : decode cX0_fillEither 32 = .ok (.invokestatic 49, 3) := by decide +kernel
theorem dX0_fillEither_35 : decode cX0_fillEither 35 = .ok (.iaload, 1) := by decide +kernel
theorem dX0_fillEither_36 : decode cX0_fillEither 36 = .ok (.invokestatic 99, 3) := by decide +kernel
theorem dX0_fillEither_39 : decode cX0_fillEither 39 = .ok (.iastore, 1) := by decide +kernel
theorem dX0_fillEither_40 : decode cX0_fillEither 40 = .ok (.iinc 5 1, 3) := by decide +kernel
theorem dX0_fillEither_43 : decode cX0_fillEither 43 = .ok (.goto (-40), 3) := by decide +kernel
theorem dX0_fillEither_46 : decode cX0_fillEither 46 = .ok (.return_, 1) := by decide +kernel
theorem dX0_fillMaybe_0 : decode cX0_fillMaybe 0 = .ok (.iconst 0, 1) := by decide +kernel
theorem dX0_fillMaybe_1 : decode cX0_fillMaybe 1 = .ok (.istore 4, 2) := by decide +kernel
theorem dX0_fillMaybe_3 : decode cX0_fillMaybe 3 = .ok (.iload 4, 2) := by decide +kernel
theorem dX0_fillMaybe_5 : decode cX0_fillMaybe 5 = .ok (.iload_n 3, 1) := by decide +kernel
theorem dX0_fillMaybe_6 : decode cX0_fillMaybe 6 = .ok (.if_icmp .gt 37, 3) := by decide +kernel
theorem dX0_fillMaybe_9 : decode cX0_fillMaybe 9 = .ok (.aload_n 1, 1) := by decide +kernel
theorem dX0_fillMaybe_10 : decode cX0_fillMaybe 10 = .ok (.iload 4, 2) := by decide +kernel
theorem dX0_fillMaybe_12 : decode cX0_fillMaybe 12 = .ok (.iload_n 3, 1) := by decide +kernel
theorem dX0_fillMaybe_13 : decode cX0_fillMaybe 13 = .ok (.invokestatic 49, 3) := by decide +kernel
theorem dX0_fillMaybe_16 : decode cX0_fillMaybe 16 = .ok (.iload_n 3, 1) := by decide +kernel
theorem dX0_fillMaybe_17 : decode cX0_fillMaybe 17 = .ok (.iload 4, 2) := by decide +kernel
theorem dX0_fillMaybe_19 : decode cX0_fillMaybe 19 = .ok (.isub, 1) := by decide +kernel
theorem dX0_fillMaybe_20 : decode cX0_fillMaybe 20 = .ok (.aload_n 0, 1) := by decide +kernel
theorem dX0_fillMaybe_21 : decode cX0_fillMaybe 21 = .ok (.getfield 24, 3) := by decide +kernel
theorem dX0_fillMaybe_24 : decode cX0_fillMaybe 24 = .ok (.imul, 1) := by decide +kernel
theorem dX0_fillMaybe_25 : decode cX0_fillMaybe 25 = .ok (.aload_n 2, 1) := by decide +kernel
theorem dX0_fillMaybe_26 : decode cX0_fillMaybe 26 = .ok (.iload 4, 2) := by decide +kernel
theorem dX0_fillMaybe_28 : decode cX0_fillMaybe 28 = .ok (.iload_n 3, 1) := by decide +kernel
theorem dX0_fillMaybe_29 : decode cX0_fillMaybe 29 = .ok (.invokestatic 49, 3) := by decide +kernel
theorem dX0_fillMaybe_32 : decode cX0_fillMaybe 32 = .ok (.iaload, 1) := by decide +kernel
theorem dX0_fillMaybe_33 : decode cX0_fillMaybe 33 = .ok (.invokestatic 99, 3) := by decide +kernel
theorem dX0_fillMaybe_36 : decode cX0_fillMaybe 36 = .ok (.iastore, 1) := by decide +kernel
theorem dX0_fillMaybe_37 : decode cX0_fillMaybe 37 = .ok (.iinc 4 1, 3) := by decide +kernel
theorem dX0_fillMaybe_40 : decode cX0_fillMaybe 40 = .ok (.goto (-37), 3) := by decide +kernel
theorem dX0_fillMaybe_43 : decode cX0_fillMaybe 43 = .ok (.return_, 1) := by decide +kernel
theorem dX0_fillLimit_0 : decode cX0_fillLimit 0 = .ok (.iconst 0, 1) := by decide +kernel
theorem dX0_fillLimit_1 : decode cX0_fillLimit 1 = .ok (.istore 5, 2) := by decide +kernel
theorem dX0_fillLimit_3 : decode cX0_fillLimit 3 = .ok (.iload 5, 2) := by decide +kernel
theorem dX0_fillLimit_5 : decode cX0_fillLimit 5 = .ok (.iload 4, 2) := by decide +kernel
theorem dX0_fillLimit_7 : decode cX0_fillLimit 7 = .ok (.if_icmp .gt 42, 3) := by decide +kernel
theorem dX0_fillLimit_10 : decode cX0_fillLimit 10 = .ok (.aload_n 2, 1) := by decide +kernel
theorem dX0_fillLimit_11 : decode cX0_fillLimit 11 = .ok (.iload 5, 2) := by decide +kernel
theorem dX0_fillLimit_13 : decode cX0_fillLimit 13 = .ok (.iload 4, 2) := by decide +kernel
theorem dX0_fillLimit_15 : decode cX0_fillLimit 15 = .ok (.invokestatic 49, 3) := by decide +kernel
theorem dX0_fillLimit_18 : decode cX0_fillLimit 18 = .ok (.iaload, 1) := by decide +kernel
theorem dX0_fillLimit_19 : decode cX0_fillLimit 19 = .ok (.istore 6, 2) := by decide +kernel
theorem dX0_fillLimit_21 : decode cX0_fillLimit 21 = .ok (.aload_n 1, 1) := by decide +kernel
theorem dX0_fillLimit_22 : decode cX0_fillLimit 22 = .ok (.iload 5, 2) := by decide +kernel
theorem dX0_fillLimit_24 : decode cX0_fillLimit 24 = .ok (.iload 4, 2) := by decide +kernel
theorem dX0_fillLimit_26 : decode cX0_fillLimit 26 = .ok (.invokestatic 49, 3) := by decide +kernel
theorem dX0_fillLimit_29 : decode cX0_fillLimit 29 = .ok (.iload 6, 2) := by decide +kernel
theorem dX0_fillLimit_31 : decode cX0_fillLimit 31 = .ok (.iload_n 3, 1) := by decide +kernel
theorem dX0_fillLimit_32 : decode cX0_fillLimit 32 = .ok (.if_icmp .gt 8, 3) := by decide +kernel
theorem dX0_fillLimit_35 : decode cX0_fillLimit 35 = .ok (.iload 6, 2) := by decide +kernel
theorem dX0_fillLimit_37 : decode cX0_fillLimit 37 = .ok (.goto 5, 3) := by decide +kernel
theorem dX0_fillLimit_40 : decode cX0_fillLimit 40 = .ok (.ldc 48, 2) := by decide +kernel
theorem dX0_fillLimit_42 : decode cX0_fillLimit 42 = .ok (.iastore, 1) := by decide +kernel
theorem dX0_fillLimit_43 : decode cX0_fillLimit 43 = .ok (.iinc 5 1, 3) := by decide +kernel
theorem dX0_fillLimit_46 : decode cX0_fillLimit 46 = .ok (.goto (-43), 3) := by decide +kernel
theorem dX0_fillLimit_49 : decode cX0_fillLimit 49 = .ok (.return_, 1) := by decide +kernel
theorem dX0_fillChains_0 : decode cX0_fillChains 0 = .ok (.iload_n 2, 1) := by decide +kernel
theorem dX0_fillChains_1 : decode cX0_fillChains 1 = .ok (.istore_n 3, 1) := by decide +kernel
theorem dX0_fillChains_2 : decode cX0_fillChains 2 = .ok (.iload_n 3, 1) := by decide +kernel
theorem dX0_fillChains_3 : decode cX0_fillChains 3 = .ok (.ifCond .lt 66, 3) := by decide +kernel
theorem dX0_fillChains_6 : decode cX0_fillChains 6 = .ok (.aload_n 1, 1) := by decide +kernel
theorem dX0_fillChains_7 : decode cX0_fillChains 7 = .ok (.iload_n 3, 1) := by decide +kernel
theorem dX0_fillChains_8 : decode cX0_fillChains 8 = .ok (.iload_n 2, 1) := by decide +kernel
theorem dX0_fillChains_9 : decode cX0_fillChains 9 = .ok (.invokestatic 49, 3) := by decide +kernel
theorem dX0_fillChains_12 : decode cX0_fillChains 12 = .ok (.iaload, 1) := by decide +kernel
theorem dX0_fillChains_13 : decode cX0_fillChains 13 = .ok (.istore 4, 2) := by decide +kernel
theorem dX0_fillChains_15 : decode cX0_fillChains 15 = .ok (.iload_n 3, 1) := by decide +kernel
theorem dX0_fillChains_16 : decode cX0_fillChains 16 = .ok (.iconst 1, 1) := by decide +kernel
theorem dX0_fillChains_17 : decode cX0_fillChains 17 = .ok (.iadd, 1) := by decide +kernel
theorem dX0_fillChains_18 : decode cX0_fillChains 18 = .ok (.istore 5, 2) := by decide +kernel
theorem dX0_fillChains_20 : decode cX0_fillChains 20 = .ok (.iload 5, 2) := by decide +kernel
theorem dX0_fillChains_22 : decode cX0_fillChains 22 = .ok (.iload_n 2, 1) := by decide +kernel
theorem dX0_fillChains_23 : decode cX0_fillChains 23 = .ok (.if_icmp .ge 32, 3) := by decide +kernel
theorem dX0_fillChains_26 : decode cX0_fillChains 26 = .ok (.iload 4, 2) := by decide +kernel
theorem dX0_fillChains_28 : decode cX0_fillChains 28 = .ok (.aload_n 1, 1) := by decide +kernel
theorem dX0_fillChains_29 : decode cX0_fillChains 29 = .ok (.iload_n 3, 1) := by decide +kernel
theorem dX0_fillChains_30 : decode cX0_fillChains 30 = .ok (.iload 5, 2) := by decide +kernel
theorem dX0_fillChains_32 : decode cX0_fillChains 32 = .ok (.invokestatic 49, 3) := by decide +kernel
theorem dX0_fillChains_35 : decode cX0_fillChains 35 = .ok (.iaload, 1) := by decide +kernel
theorem dX0_fillChains_36 : decode cX0_fillChains 36 = .ok (.aload_n 0, 1) := by decide +kernel
theorem dX0_fillChains_37 : decode cX0_fillChains 37 = .ok (.getfield 16, 3) := by decide +kernel
theorem dX0_fillChains_40 : decode cX0_fillChains 40 = .ok (.iload 5, 2) := by decide +kernel
theorem dX0_fillChains_42 : decode cX0_fillChains 42 = .ok (.iaload, 1) := by decide +kernel
theorem dX0_fillChains_43 : decode cX0_fillChains 43 = .ok (.iadd, 1) := by decide +kernel
theorem dX0_fillChains_44 : decode cX0_fillChains 44 = .ok (.invokestatic 99, 3) := by decide +kernel
theorem dX0_fillChains_47 : decode cX0_fillChains 47 = .ok (.istore 4, 2) := by decide +kernel
theorem dX0_fillChains_49 : decode cX0_fillChains 49 = .ok (.iinc 5 1, 3) := by decide +kernel
theorem dX0_fillChains_52 : decode cX0_fillChains 52 = .ok (.goto (-32), 3) := by decide +kernel
theorem dX0_fillChains_55 : decode cX0_fillChains 55 = .ok (.aload_n 0, 1) := by decide +kernel
theorem dX0_fillChains_56 : decode cX0_fillChains 56 = .ok (.getfield 16, 3) := by decide +kernel
theorem dX0_fillChains_59 : decode cX0_fillChains 59 = .ok (.iload_n 3, 1) := by decide +kernel
theorem dX0_fillChains_60 : decode cX0_fillChains 60 = .ok (.iload 4, 2) := by decide +kernel
theorem dX0_fillChains_62 : decode cX0_fillChains 62 = .ok (.iastore, 1) := by decide +kernel
theorem dX0_fillChains_63 : decode cX0_fillChains 63 = .ok (.iinc 3 (-1), 3) := by decide +kernel
theorem dX0_fillChains_66 : decode cX0_fillChains 66 = .ok (.goto (-64), 3) := by decide +kernel
theorem dX0_fillChains_69 : decode cX0_fillChains 69 = .ok (.return_, 1) := by decide +kernel
theorem dX0_fillRepeated_0 : decode cX0_fillRepeated 0 = .ok (.iconst 0, 1) := by decide +kernel
theorem dX0_fillRepeated_1 : decode cX0_fillRepeated 1 = .ok (.istore 4, 2) := by decide +kernel
theorem dX0_fillRepeated_3 : decode cX0_fillRepeated 3 = .ok (.iload 4, 2) := by decide +kernel
theorem dX0_fillRepeated_5 : decode cX0_fillRepeated 5 = .ok (.iload_n 3, 1) := by decide +kernel
theorem dX0_fillRepeated_6 : decode cX0_fillRepeated 6 = .ok (.if_icmp .gt 49, 3) := by decide +kernel
theorem dX0_fillRepeated_9 : decode cX0_fillRepeated 9 = .ok (.iload_n 2, 1) := by decide +kernel
theorem dX0_fillRepeated_10 : decode cX0_fillRepeated 10 = .ok (.ifCond .eq 15, 3) := by decide +kernel
theorem dX0_fillRepeated_13 : decode cX0_fillRepeated 13 = .ok (.iload_n 3, 1) := by decide +kernel
theorem dX0_fillRepeated_14 : decode cX0_fillRepeated 14 = .ok (.iload 4, 2) := by decide +kernel
theorem dX0_fillRepeated_16 : decode cX0_fillRepeated 16 = .ok (.isub, 1) := by decide +kernel
theorem dX0_fillRepeated_17 : decode cX0_fillRepeated 17 = .ok (.aload_n 0, 1) := by decide +kernel
theorem dX0_fillRepeated_18 : decode cX0_fillRepeated 18 = .ok (.getfield 24, 3) := by decide +kernel
theorem dX0_fillRepeated_21 : decode cX0_fillRepeated 21 = .ok (.imul, 1) := by decide +kernel
theorem dX0_fillRepeated_22 : decode cX0_fillRepeated 22 = .ok (.goto 5, 3) := by decide +kernel
theorem dX0_fillRepeated_25 : decode cX0_fillRepeated 25 = .ok (.ldc 48, 2) := by decide +kernel
theorem dX0_fillRepeated_27 : decode cX0_fillRepeated 27 = .ok (.istore 5, 2) := by decide +kernel
theorem dX0_fillRepeated_29 : decode cX0_fillRepeated 29 = .ok (.aload_n 1, 1) := by decide +kernel
theorem dX0_fillRepeated_30 : decode cX0_fillRepeated 30 = .ok (.iload 4, 2) := by decide +kernel
theorem dX0_fillRepeated_32 : decode cX0_fillRepeated 32 = .ok (.iload_n 3, 1) := by decide +kernel
theorem dX0_fillRepeated_33 : decode cX0_fillRepeated 33 = .ok (.invokestatic 49, 3) := by decide +kernel
theorem dX0_fillRepeated_36 : decode cX0_fillRepeated 36 = .ok (.iload 5, 2) := by decide +kernel
theorem dX0_fillRepeated_38 : decode cX0_fillRepeated 38 = .ok (.aload_n 0, 1) := by decide +kernel
theorem dX0_fillRepeated_39 : decode cX0_fillRepeated 39 = .ok (.getfield 16, 3) := by decide +kernel
theorem dX0_fillRepeated_42 : decode cX0_fillRepeated 42 = .ok (.iload 4, 2) := by decide +kernel
theorem dX0_fillRepeated_44 : decode cX0_fillRepeated 44 = .ok (.iaload, 1) := by decide +kernel
theorem dX0_fillRepeated_45 : decode cX0_fillRepeated 45 = .ok (.invokestatic 99, 3) := by decide +kernel
theorem dX0_fillRepeated_48 : decode cX0_fillRepeated 48 = .ok (.iastore, 1) := by decide +kernel
theorem dX0_fillRepeated_49 : decode cX0_fillRepeated 49 = .ok (.iinc 4 1, 3) := by decide +kernel
theorem dX0_fillRepeated_52 : decode cX0_fillRepeated 52 = .ok (.goto (-49), 3) := by decide +kernel
theorem dX0_fillRepeated_55 : decode cX0_fillRepeated 55 = .ok (.return_, 1) := by decide +kernel
theorem dX0_pieceAt_0 : decode cX0_pieceAt 0 = .ok (.iload_n 1, 1) := by decide +kernel
theorem dX0_pieceAt_1 : decode cX0_pieceAt 1 = .ok (.iload_n 1, 1) := by decide +kernel
theorem dX0_pieceAt_2 : decode cX0_pieceAt 2 = .ok (.iconst 1, 1) := by decide +kernel
theorem dX0_pieceAt_3 : decode cX0_pieceAt 3 = .ok (.iadd, 1) := by decide +kernel
theorem dX0_pieceAt_4 : decode cX0_pieceAt 4 = .ok (.imul, 1) := by decide +kernel
theorem dX0_pieceAt_5 : decode cX0_pieceAt 5 = .ok (.iconst 2, 1) := by decide +kernel
theorem dX0_pieceAt_6 : decode cX0_pieceAt 6 = .ok (.idiv, 1) := by decide +kernel
theorem dX0_pieceAt_7 : decode cX0_pieceAt 7 = .ok (.iload_n 0, 1) := by decide +kernel
theorem dX0_pieceAt_8 : decode cX0_pieceAt 8 = .ok (.iadd, 1) := by decide +kernel
theorem dX0_pieceAt_9 : decode cX0_pieceAt 9 = .ok (.ireturn, 1) := by decide +kernel
theorem dX1_init_0 : decode cX1_init 0 = .ok (.aload_n 0, 1) := by decide +kernel
theorem dX1_init_1 : decode cX1_init 1 = .ok (.invokespecial 3, 3) := by decide +kernel
theorem dX1_init_4 : decode cX1_init 4 = .ok (.aload_n 0, 1) := by decide +kernel
theorem dX1_init_5 : decode cX1_init 5 = .ok (.bipush 20, 2) := by decide +kernel
theorem dX1_init_7 : decode cX1_init 7 = .ok (.anewarray 9, 3) := by decide +kernel
theorem dX1_init_10 : decode cX1_init 10 = .ok (.putfield 11, 3) := by decide +kernel
theorem dX1_init_13 : decode cX1_init 13 = .ok (.aload_n 0, 1) := by decide +kernel
theorem dX1_init_14 : decode cX1_init 14 = .ok (.iconst 0, 1) := by decide +kernel
theorem dX1_init_15 : decode cX1_init 15 = .ok (.putfield 17, 3) := by decide +kernel
theorem dX1_init_18 : decode cX1_init 18 = .ok (.aload_n 0, 1) := by decide +kernel
theorem dX1_init_19 : decode cX1_init 19 = .ok (.bipush 20, 2) := by decide +kernel
theorem dX1_init_21 : decode cX1_init 21 = .ok (.newarray .int, 2) := by decide +kernel
theorem dX1_init_23 : decode cX1_init 23 = .ok (.putfield 21, 3) := by decide +kernel
theorem dX1_init_26 : decode cX1_init 26 = .ok (.aload_n 0, 1) := by decide +kernel
theorem dX1_init_27 : decode cX1_init 27 = .ok (.bipush 13, 2) := by decide +kernel
theorem dX1_init_29 : decode cX1_init 29 = .ok (.bipush 25, 2) := by decide +kernel
theorem dX1_init_31 : decode cX1_init 31 = .ok (.multianewarray 25 2, 4) := by decide +kernel
theorem dX1_init_35 : decode cX1_init 35 = .ok (.putfield 27, 3) := by decide +kernel
theorem dX1_init_38 : decode cX1_init 38 = .ok (.iconst 0, 1) := by decide +kernel
theorem dX1_init_39 : decode cX1_init 39 = .ok (.istore_n 1, 1) := by decide +kernel
theorem dX1_init_40 : decode cX1_init 40 = .ok (.iload_n 1, 1) := by decide +kernel
theorem dX1_init_41 : decode cX1_init 41 = .ok (.bipush 20, 2) := by decide +kernel
theorem dX1_init_43 : decode cX1_init 43 = .ok (.if_icmp .ge 22, 3) := by decide +kernel
theorem dX1_init_46 : decode cX1_init 46 = .ok (.aload_n 0, 1) := by decide +kernel
theorem dX1_init_47 : decode cX1_init 47 = .ok (.getfield 11, 3) := by decide +kernel
theorem dX1_init_50 : decode cX1_init 50 = .ok (.iload_n 1, 1) := by decide +kernel
theorem dX1_init_51 : decode cX1_init 51 = .ok (.new 9, 3) := by decide +kernel
theorem dX1_init_54 : decode cX1_init 54 = .ok (.dup, 1) := by decide +kernel
theorem dX1_init_55 : decode cX1_init 55 = .ok (.invokespecial 30, 3) := by decide +kernel
theorem dX1_init_58 : decode cX1_init 58 = .ok (.aastore, 1) := by decide +kernel
theorem dX1_init_59 : decode cX1_init 59 = .ok (.iinc 1 1, 3) := by decide +kernel
theorem dX1_init_62 : decode cX1_init 62 = .ok (.goto (-22), 3) := by decide +kernel
theorem dX1_init_65 : decode cX1_init 65 = .ok (.return_, 1) := by decide +kernel
theorem dX1_keep_0 : decode cX1_keep 0 = .ok (.aload_n 1, 1) := by decide +kernel
theorem dX1_keep_1 : decode cX1_keep 1 = .ok (.getfield 31, 3) := by decide +kernel
theorem dX1_keep_4 : decode cX1_keep 4 = .ok (.iconst 1, 1) := by decide +kernel
theorem dX1_keep_5 : decode cX1_keep 5 = .ok (.if_icmp .lt 25, 3) := by decide +kernel
theorem dX1_keep_8 : decode cX1_keep 8 = .ok (.aload_n 1, 1) := by decide +kernel
theorem dX1_keep_9 : decode cX1_keep 9 = .ok (.getfield 31, 3) := by decide +kernel
theorem dX1_keep_12 : decode cX1_keep 12 = .ok (.bipush 12, 2) := by decide +kernel
theorem dX1_keep_14 : decode cX1_keep 14 = .ok (.if_icmp .gt 16, 3) := by decide +kernel
theorem dX1_keep_17 : decode cX1_keep 17 = .ok (.aload_n 0, 1) := by decide +kernel
theorem dX1_keep_18 : decode cX1_keep 18 = .ok (.getfield 17, 3) := by decide +kernel
theorem dX1_keep_21 : decode cX1_keep 21 = .ok (.bipush 20, 2) := by decide +kernel
theorem dX1_keep_23 : decode cX1_keep 23 = .ok (.if_icmp .ge 7, 3) := by decide +kernel
theorem dX1_keep_26 : decode cX1_keep 26 = .ok (.iconst 1, 1) := by decide +kernel
theorem dX1_keep_27 : decode cX1_keep 27 = .ok (.goto 4, 3) := by decide +kernel
theorem dX1_keep_30 : decode cX1_keep 30 = .ok (.iconst 0, 1) := by decide +kernel
theorem dX1_keep_31 : decode cX1_keep 31 = .ok (.istore_n 2, 1) := by decide +kernel
theorem dX1_keep_32 : decode cX1_keep 32 = .ok (.iload_n 2, 1) := by decide +kernel
theorem dX1_keep_33 : decode cX1_keep 33 = .ok (.ifCond .eq 11, 3) := by decide +kernel
theorem dX1_keep_36 : decode cX1_keep 36 = .ok (.aload_n 0, 1) := by decide +kernel
theorem dX1_keep_37 : decode cX1_keep 37 = .ok (.aload_n 1, 1) := by decide +kernel
theorem dX1_keep_38 : decode cX1_keep 38 = .ok (.invokevirtual 32, 3) := by decide +kernel
theorem dX1_keep_41 : decode cX1_keep 41 = .ok (.ifCond .eq 5, 3) := by decide +kernel
theorem dX1_keep_44 : decode cX1_keep 44 = .ok (.iconst (-1), 1) := by decide +kernel
theorem dX1_keep_45 : decode cX1_keep 45 = .ok (.ireturn, 1) := by decide +kernel
theorem dX1_keep_46 : decode cX1_keep 46 = .ok (.aload_n 0, 1) := by decide +kernel
theorem dX1_keep_47 : decode cX1_keep 47 = .ok (.getfield 11, 3) := by decide +kernel
theorem dX1_keep_50 : decode cX1_keep 50 = .ok (.aload_n 0, 1) := by decide +kernel
theorem dX1_keep_51 : decode cX1_keep 51 = .ok (.getfield 17, 3) := by decide +kernel
theorem dX1_keep_54 : decode cX1_keep 54 = .ok (.aaload, 1) := by decide +kernel
theorem dX1_keep_55 : decode cX1_keep 55 = .ok (.aload_n 1, 1) := by decide +kernel
theorem dX1_keep_56 : decode cX1_keep 56 = .ok (.invokevirtual 36, 3) := by decide +kernel
theorem dX1_keep_59 : decode cX1_keep 59 = .ok (.aload_n 0, 1) := by decide +kernel
theorem dX1_keep_60 : decode cX1_keep 60 = .ok (.dup, 1) := by decide +kernel
theorem dX1_keep_61 : decode cX1_keep 61 = .ok (.getfield 17, 3) := by decide +kernel
theorem dX1_keep_64 : decode cX1_keep 64 = .ok (.iconst 1, 1) := by decide +kernel
theorem dX1_keep_65 : decode cX1_keep 65 = .ok (.iadd, 1) := by decide +kernel
theorem dX1_keep_66 : decode cX1_keep 66 = .ok (.putfield 17, 3) := by decide +kernel
theorem dX1_keep_69 : decode cX1_keep 69 = .ok (.aload_n 0, 1) := by decide +kernel
theorem dX1_keep_70 : decode cX1_keep 70 = .ok (.getfield 17, 3) := by decide +kernel
theorem dX1_keep_73 : decode cX1_keep 73 = .ok (.iconst 1, 1) := by decide +kernel
theorem dX1_keep_74 : decode cX1_keep 74 = .ok (.isub, 1) := by decide +kernel
theorem dX1_keep_75 : decode cX1_keep 75 = .ok (.ireturn, 1) := by decide +kernel
theorem dX1_holds_0 : decode cX1_holds 0 = .ok (.iconst 0, 1) := by decide +kernel
theorem dX1_holds_1 : decode cX1_holds 1 = .ok (.istore_n 2, 1) := by decide +kernel
theorem dX1_holds_2 : decode cX1_holds 2 = .ok (.iload_n 2, 1) := by decide +kernel
theorem dX1_holds_3 : decode cX1_holds 3 = .ok (.aload_n 0, 1) := by decide +kernel
theorem dX1_holds_4 : decode cX1_holds 4 = .ok (.getfield 17, 3) := by decide +kernel
theorem dX1_holds_7 : decode cX1_holds 7 = .ok (.if_icmp .ge 24, 3) := by decide +kernel
theorem dX1_holds_10 : decode cX1_holds 10 = .ok (.aload_n 0, 1) := by decide +kernel
theorem dX1_holds_11 : decode cX1_holds 11 = .ok (.getfield 11, 3) := by decide +kernel
theorem dX1_holds_14 : decode cX1_holds 14 = .ok (.iload_n 2, 1) := by decide +kernel
theorem dX1_holds_15 : decode cX1_holds 15 = .ok (.aaload, 1) := by decide +kernel
theorem dX1_holds_16 : decode cX1_holds 16 = .ok (.aload_n 1, 1) := by decide +kernel
theorem dX1_holds_17 : decode cX1_holds 17 = .ok (.invokevirtual 40, 3) := by decide +kernel
theorem dX1_holds_20 : decode cX1_holds 20 = .ok (.ifCond .ne 5, 3) := by decide +kernel
theorem dX1_holds_23 : decode cX1_holds 23 = .ok (.iconst 1, 1) := by decide +kernel
theorem dX1_holds_24 : decode cX1_holds 24 = .ok (.ireturn, 1) := by decide +kernel
theorem dX1_holds_25 : decode cX1_holds 25 = .ok (.iinc 2 1, 3) := by decide +kernel
theorem dX1_holds_28 : decode cX1_holds 28 = .ok (.goto (-26), 3) := by decide +kernel
theorem dX1_holds_31 : decode cX1_holds 31 = .ok (.iconst 0, 1) := by decide +kernel
theorem dX1_holds_32 : decode cX1_holds 32 = .ok (.ireturn, 1) := by decide +kernel
theorem dX1_distanceOf_0 : decode cX1_distanceOf 0 = .ok (.iload_n 1, 1) := by decide +kernel
theorem dX1_distanceOf_1 : decode cX1_distanceOf 1 = .ok (.ifCond .lt 11, 3) := by decide +kernel
theorem dX1_distanceOf_4 : decode cX1_distanceOf 4 = .ok (.iload_n 1, 1) := by decide +kernel
theorem dX1_distanceOf_5 : decode cX1_distanceOf 5 = .ok (.aload_n 0, 1) := by decide +kernel
theorem dX1_distanceOf_6 : decode cX1_distanceOf 6 = .ok (.getfield 17, 3) := by decide +kernel
theorem dX1_distanceOf_9 : decode cX1_distanceOf 9 = .ok (.if_icmp .lt 5, 3) := by decide +kernel
theorem dX1_distanceOf_12 : decode cX1_distanceOf 12 = .ok (.iconst (-1), 1) := by decide +kernel
theorem dX1_distanceOf_13 : decode cX1_distanceOf 13 = .ok (.ireturn, 1) := by decide +kernel
theorem dX1_distanceOf_14 : decode cX1_distanceOf 14 = .ok (.aload_n 0, 1) := by decide +kernel
theorem dX1_distanceOf_15 : decode cX1_distanceOf 15 = .ok (.getfield 11, 3) := by decide +kernel
theorem dX1_distanceOf_18 : decode cX1_distanceOf 18 = .ok (.iload_n 1, 1) := by decide +kernel
theorem dX1_distanceOf_19 : decode cX1_distanceOf 19 = .ok (.aaload, 1) := by decide +kernel
theorem dX1_distanceOf_20 : decode cX1_distanceOf 20 = .ok (.astore 4, 2) := by decide +kernel
theorem dX1_distanceOf_22 : decode cX1_distanceOf 22 = .ok (.iconst 0, 1) := by decide +kernel
theorem dX1_distanceOf_23 : decode cX1_distanceOf 23 = .ok (.istore 5, 2) := by decide +kernel
theorem dX1_distanceOf_25 : decode cX1_distanceOf 25 = .ok (.iload 5, 2) := by decide +kernel
theorem dX1_distanceOf_27 : decode cX1_distanceOf 27 = .ok (.aload 4, 2) := by decide +kernel
theorem dX1_distanceOf_29 : decode cX1_distanceOf 29 = .ok (.getfield 31, 3) := by decide +kernel
theorem dX1_distanceOf_32 : decode cX1_distanceOf 32 = .ok (.if_icmp .gt 49, 3) := by decide +kernel
theorem dX1_distanceOf_35 : decode cX1_distanceOf 35 = .ok (.iconst 0, 1) := by decide +kernel
theorem dX1_distanceOf_36 : decode cX1_distanceOf 36 = .ok (.istore 6, 2) := by decide +kernel
theorem dX1_distanceOf_38 : decode cX1_distanceOf 38 = .ok (.iload 6, 2) := by decide +kernel
theorem dX1_distanceOf_40 : decode cX1_distanceOf 40 = .ok (.aload_n 2, 1) := by decide +kernel
theorem dX1_distanceOf_41 : decode cX1_distanceOf 41 = .ok (.getfield 31, 3) := by decide +kernel
theorem dX1_distanceOf_44 : decode cX1_distanceOf 44 = .ok (.if_icmp .gt 31, 3) := by decide +kernel
theorem dX1_distanceOf_47 : decode cX1_distanceOf 47 = .ok (.aload_n 0, 1) := by decide +kernel
theorem dX1_distanceOf_48 : decode cX1_distanceOf 48 = .ok (.getfield 27, 3) := by decide +kernel
theorem dX1_distanceOf_51 : decode cX1_distanceOf 51 = .ok (.iload 5, 2) := by decide +kernel
theorem dX1_distanceOf_53 : decode cX1_distanceOf 53 = .ok (.aaload, 1) := by decide +kernel
theorem dX1_distanceOf_54 : decode cX1_distanceOf 54 = .ok (.iload 6, 2) := by decide +kernel
theorem dX1_distanceOf_56 : decode cX1_distanceOf 56 = .ok (.aload_n 0, 1) := by decide +kernel
theorem dX1_distanceOf_57 : decode cX1_distanceOf 57 = .ok (.aload 4, 2) := by decide +kernel
theorem dX1_distanceOf_59 : decode cX1_distanceOf 59 = .ok (.aload_n 2, 1) := by decide +kernel
theorem dX1_distanceOf_60 : decode cX1_distanceOf 60 = .ok (.iload 5, 2) := by decide +kernel
theorem dX1_distanceOf_62 : decode cX1_distanceOf 62 = .ok (.iload 6, 2) := by decide +kernel
theorem dX1_distanceOf_64 : decode cX1_distanceOf 64 = .ok (.iload_n 3, 1) := by decide +kernel
theorem dX1_distanceOf_65 : decode cX1_distanceOf 65 = .ok (.invokevirtual 44, 3) := by decide +kernel
theorem dX1_distanceOf_68 : decode cX1_distanceOf 68 = .ok (.iastore, 1) := by decide +kernel
theorem dX1_distanceOf_69 : decode cX1_distanceOf 69 = .ok (.iinc 6 1, 3) := by decide +kernel
theorem dX1_distanceOf_72 : decode cX1_distanceOf 72 = .ok (.goto (-34), 3) := by decide +kernel
theorem dX1_distanceOf_75 : decode cX1_distanceOf 75 = .ok (.iinc 5 1, 3) := by decide +kernel
theorem dX1_distanceOf_78 : decode cX1_distanceOf 78 = .ok (.goto (-53), 3) := by decide +kernel
theorem dX1_distanceOf_81 : decode cX1_distanceOf 81 = .ok (.aload_n 0, 1) := by decide +kernel
theorem dX1_distanceOf_82 : decode cX1_distanceOf 82 = .ok (.getfield 27, 3) := by decide +kernel
theorem dX1_distanceOf_85 : decode cX1_distanceOf 85 = .ok (.aload 4, 2) := by decide +kernel
theorem dX1_distanceOf_87 : decode cX1_distanceOf 87 = .ok (.getfield 31, 3) := by decide +kernel
theorem dX1_distanceOf_90 : decode cX1_distanceOf 90 = .ok (.aaload, 1) := by decide +kernel
theorem dX1_distanceOf_91 : decode cX1_distanceOf 91 = .ok (.aload_n 2, 1) := by decide +kernel
theorem dX1_distanceOf_92 : decode cX1_distanceOf 92 = .ok (.getfield 31, 3) := by decide +kernel
theorem dX1_distanceOf_95 : decode cX1_distanceOf 95 = .ok (.iaload, 1) := by decide +kernel
theorem dX1_distanceOf_96 : decode cX1_distanceOf 96 = .ok (.ireturn, 1) := by decide +kernel
theorem dX1_leastSteps_0 : decode cX1_leastSteps 0 = .ok (.iload_n 3, 1) := by decide +kernel
theorem dX1_leastSteps_1 : decode cX1_leastSteps 1 = .ok (.ifCond .le 8, 3) := by decide +kernel
theorem dX1_leastSteps_4 : decode cX1_leastSteps 4 = .ok (.iload 4, 2) := by decide +kernel
theorem dX1_leastSteps_6 : decode cX1_leastSteps 6 = .ok (.ifCond .gt 10, 3) := by decide +kernel
theorem dX1_leastSteps_9 : decode cX1_leastSteps 9 = .ok (.iload_n 3, 1) := by decide +kernel
theorem dX1_leastSteps_10 : decode cX1_leastSteps 10 = .ok (.iload 4, 2) := by decide +kernel
theorem dX1_leastSteps_12 : decode cX1_leastSteps 12 = .ok (.invokestatic 48, 3) := by decide +kernel
theorem dX1_leastSteps_15 : decode cX1_leastSteps 15 = .ok (.ireturn, 1) := by decide +kernel
theorem dX1_leastSteps_16 : decode cX1_leastSteps 16 = .ok (.aload_n 0, 1) := by decide +kernel
theorem dX1_leastSteps_17 : decode cX1_leastSteps 17 = .ok (.getfield 27, 3) := by decide +kernel
theorem dX1_leastSteps_20 : decode cX1_leastSteps 20 = .ok (.iload_n 3, 1) := by decide +kernel
theorem dX1_leastSteps_21 : decode cX1_leastSteps 21 = .ok (.iconst 1, 1) := by decide +kernel
theorem dX1_leastSteps_22 : decode cX1_leastSteps 22 = .ok (.isub, 1) := by decide +kernel
theorem dX1_leastSteps_23 : decode cX1_leastSteps 23 = .ok (.aaload, 1) := by decide +kernel
theorem dX1_leastSteps_24 : decode cX1_leastSteps 24 = .ok (.iload 4, 2) := by decide +kernel
theorem dX1_leastSteps_26 : decode cX1_leastSteps 26 = .ok (.iaload, 1) := by decide +kernel
theorem dX1_leastSteps_27 : decode cX1_leastSteps 27 = .ok (.aload_n 0, 1) := by decide +kernel
theorem dX1_leastSteps_28 : decode cX1_leastSteps 28 = .ok (.getfield 27, 3) := by decide +kernel
theorem dX1_leastSteps_31 : decode cX1_leastSteps 31 = .ok (.iload_n 3, 1) := by decide +kernel
theorem dX1_leastSteps_32 : decode cX1_leastSteps 32 = .ok (.aaload, 1) := by decide +kernel
theorem dX1_leastSteps_33 : decode cX1_leastSteps 33 = .ok (.iload 4, 2) := by decide +kernel
theorem dX1_leastSteps_35 : decode cX1_leastSteps 35 = .ok (.iconst 1, 1) := by decide +kernel
theorem dX1_leastSteps_36 : decode cX1_leastSteps 36 = .ok (.isub, 1) := by decide +kernel
theorem dX1_leastSteps_37 : decode cX1_leastSteps 37 = .ok (.iaload, 1) := by decide +kernel
theorem dX1_leastSteps_38 : decode cX1_leastSteps 38 = .ok (.invokestatic 54, 3) := by decide +kernel
theorem dX1_leastSteps_41 : decode cX1_leastSteps 41 = .ok (.iconst 1, 1) := by decide +kernel
theorem dX1_leastSteps_42 : decode cX1_leastSteps 42 = .ok (.iadd, 1) := by decide +kernel
theorem dX1_leastSteps_43 : decode cX1_leastSteps 43 = .ok (.istore 6, 2) := by decide +kernel
theorem dX1_leastSteps_45 : decode cX1_leastSteps 45 = .ok (.aload_n 1, 1) := by decide +kernel
theorem dX1_leastSteps_46 : decode cX1_leastSteps 46 = .ok (.iload_n 3, 1) := by decide +kernel
theorem dX1_leastSteps_47 : decode cX1_leastSteps 47 = .ok (.iconst 1, 1) := by decide +kernel
theorem dX1_leastSteps_48 : decode cX1_leastSteps 48 = .ok (.isub, 1) := by decide +kernel
theorem dX1_leastSteps_49 : decode cX1_leastSteps 49 = .ok (.invokevirtual 57, 3) := by decide +kernel
theorem dX1_leastSteps_52 : decode cX1_leastSteps 52 = .ok (.aload_n 2, 1) := by decide +kernel
theorem dX1_leastSteps_53 : decode cX1_leastSteps 53 = .ok (.iload 4, 2) := by decide +kernel
theorem dX1_leastSteps_55 : decode cX1_leastSteps 55 = .ok (.iconst 1, 1) := by decide +kernel
theorem dX1_leastSteps_56 : decode cX1_leastSteps 56 = .ok (.isub, 1) := by decide +kernel
theorem dX1_leastSteps_57 : decode cX1_leastSteps 57 = .ok (.invokevirtual 57, 3) := by decide +kernel
theorem dX1_leastSteps_60 : decode cX1_leastSteps 60 = .ok (.if_icmp .ne 7, 3) := by decide +kernel
theorem dX1_leastSteps_63 : decode cX1_leastSteps 63 = .ok (.iconst 1, 1) := by decide +kernel
theorem dX1_leastSteps_64 : decode cX1_leastSteps 64 = .ok (.goto 4, 3) := by decide +kernel
theorem dX1_leastSteps_67 : decode cX1_leastSteps 67 = .ok (.iconst 0, 1) := by decide +kernel
theorem dX1_leastSteps_68 : decode cX1_leastSteps 68 = .ok (.istore 7, 2) := by decide +kernel
theorem dX1_leastSteps_70 : decode cX1_leastSteps 70 = .ok (.iload 6, 2) := by decide +kernel
theorem dX1_leastSteps_72 : decode cX1_leastSteps 72 = .ok (.aload_n 0, 1) := by decide +kernel
theorem dX1_leastSteps_73 : decode cX1_leastSteps 73 = .ok (.getfield 27, 3) := by decide +kernel
theorem dX1_leastSteps_76 : decode cX1_leastSteps 76 = .ok (.iload_n 3, 1) := by decide +kernel
theorem dX1_leastSteps_77 : decode cX1_leastSteps 77 = .ok (.iconst 1, 1) := by decide +kernel
theorem dX1_leastSteps_78 : decode cX1_leastSteps 78 = .ok (.isub, 1) := by decide +kernel
theorem dX1_leastSteps_79 : decode cX1_leastSteps 79 = .ok (.aaload, 1) := by decide +kernel
theorem dX1_leastSteps_80 : decode cX1_leastSteps 80 = .ok (.iload 4, 2) := by decide +kernel
theorem dX1_leastSteps_82 : decode cX1_leastSteps 82 = .ok (.iconst 1, 1) := by decide +kernel
theorem dX1_leastSteps_83 : decode cX1_leastSteps 83 = .ok (.isub, 1) := by decide +kernel
theorem dX1_leastSteps_84 : decode cX1_leastSteps 84 = .ok (.iaload, 1) := by decide +kernel
theorem dX1_leastSteps_85 : decode cX1_leastSteps 85 = .ok (.iload 7, 2) := by decide +kernel
theorem dX1_leastSteps_87 : decode cX1_leastSteps 87 = .ok (.ifCond .eq 7, 3) := by decide +kernel
theorem dX1_leastSteps_90 : decode cX1_leastSteps 90 = .ok (.iconst 0, 1) := by decide +kernel
theorem dX1_leastSteps_91 : decode cX1_leastSteps 91 = .ok (.goto 4, 3) := by decide +kernel
theorem dX1_leastSteps_94 : decode cX1_leastSteps 94 = .ok (.iconst 1, 1) := by decide +kernel
theorem dX1_leastSteps_95 : decode cX1_leastSteps 95 = .ok (.iadd, 1) := by decide +kernel
theorem dX1_leastSteps_96 : decode cX1_leastSteps 96 = .ok (.invokestatic 54, 3) := by decide +kernel
theorem dX1_leastSteps_99 : decode cX1_leastSteps 99 = .ok (.istore 6, 2) := by decide +kernel
theorem dX1_leastSteps_101 : decode cX1_leastSteps 101 = .ok (.iload 5, 2) := by decide +kernel
theorem dX1_leastSteps_103 : decode cX1_leastSteps 103 = .ok (.ifCond .eq 47, 3) := by decide +kernel
theorem dX1_leastSteps_106 : decode cX1_leastSteps 106 = .ok (.iload_n 3, 1) := by decide +kernel
theorem dX1_leastSteps_107 : decode cX1_leastSteps 107 = .ok (.iconst 2, 1) := by decide +kernel
theorem dX1_leastSteps_108 : decode cX1_leastSteps 108 = .ok (.if_icmp .lt 42, 3) := by decide +kernel
theorem dX1_leastSteps_111 : decode cX1_leastSteps 111 = .ok (.iload 4, 2) := by decide +kernel
theorem dX1_leastSteps_113 : decode cX1_leastSteps 113 = .ok (.iconst 2, 1) := by decide +kernel
theorem dX1_leastSteps_114 : decode cX1_leastSteps 114 = .ok (.if_icmp .lt 36, 3) := by decide +kernel
theorem dX1_leastSteps_117 : decode cX1_leastSteps 117 = .ok (.aload_n 1, 1) := by decide +kernel
theorem dX1_leastSteps_118 : decode cX1_leastSteps 118 = .ok (.aload_n 2, 1) := by decide +kernel
theorem dX1_leastSteps_119 : decode cX1_leastSteps 119 = .ok (.iload_n 3, 1) := by decide +kernel
theorem dX1_leastSteps_120 : decode cX1_leastSteps 120 = .ok (.iload 4, 2) := by decide +kernel
theorem dX1_leastSteps_122 : decode cX1_leastSteps 122 = .ok (.invokestatic 61, 3) := by decide +kernel
theorem dX1_leastSteps_125 : decode cX1_leastSteps 125 = .ok (.ifCond .eq 25, 3) := by decide +kernel
theorem dX1_leastSteps_128 : decode cX1_leastSteps 128 = .ok (.iload 6, 2) := by decide +kernel
theorem dX1_leastSteps_130 : decode cX1_leastSteps 130 = .ok (.aload_n 0, 1) := by decide +kernel
theorem dX1_leastSteps_131 : decode cX1_leastSteps 131 = .ok (.getfield 27, 3) := by decide +kernel
theorem dX1_leastSteps_134 : decode cX1_leastSteps 134 = .ok (.iload_n 3, 1) := by decide +kernel
theorem dX1_leastSteps_135 : decode cX1_leastSteps 135 = .ok (.iconst 2, 1) := by decide +kernel
theorem dX1_leastSteps_136 : decode cX1_leastSteps 136 = .ok (.isub, 1) := by decide +kernel
theorem dX1_leastSteps_137 : decode cX1_leastSteps 137 = .ok (.aaload, 1) := by decide +kernel
theorem dX1_leastSteps_138 : decode cX1_leastSteps 138 = .ok (.iload 4, 2) := by decide +kernel
theorem dX1_leastSteps_140 : decode cX1_leastSteps 140 = .ok (.iconst 2, 1) := by decide +kernel
theorem dX1_leastSteps_141 : decode cX1_leastSteps 141 = .ok (.isub, 1) := by decide +kernel
theorem dX1_leastSteps_142 : decode cX1_leastSteps 142 = .ok (.iaload, 1) := by decide +kernel
theorem dX1_leastSteps_143 : decode cX1_leastSteps 143 = .ok (.iconst 1, 1) := by decide +kernel
theorem dX1_leastSteps_144 : decode cX1_leastSteps 144 = .ok (.iadd, 1) := by decide +kernel
theorem dX1_leastSteps_145 : decode cX1_leastSteps 145 = .ok (.invokestatic 54, 3) := by decide +kernel
theorem dX1_leastSteps_148 : decode cX1_leastSteps 148 = .ok (.istore 6, 2) := by decide +kernel
theorem dX1_leastSteps_150 : decode cX1_leastSteps 150 = .ok (.iload 6, 2) := by decide +kernel
theorem dX1_leastSteps_152 : decode cX1_leastSteps 152 = .ok (.ireturn, 1) := by decide +kernel
theorem dX1_areExchanged_0 : decode cX1_areExchanged 0 = .ok (.aload_n 0, 1) := by decide +kernel
theorem dX1_areExchanged_1 : decode cX1_areExchanged 1 = .ok (.iload_n 2, 1) := by decide +kernel
theorem dX1_areExchanged_2 : decode cX1_areExchanged 2 = .ok (.iconst 2, 1) := by decide +kernel
theorem dX1_areExchanged_3 : decode cX1_areExchanged 3 = .ok (.isub, 1) := by decide +kernel
theorem dX1_areExchanged_4 : decode cX1_areExchanged 4 = .ok (.invokevirtual 57, 3) := by decide +kernel
theorem dX1_areExchanged_7 : decode cX1_areExchanged 7 = .ok (.aload_n 1, 1) := by decide +kernel
theorem dX1_areExchanged_8 : decode cX1_areExchanged 8 = .ok (.iload_n 3, 1) := by decide +kernel
theorem dX1_areExchanged_9 : decode cX1_areExchanged 9 = .ok (.iconst 1, 1) := by decide +kernel
theorem dX1_areExchanged_10 : decode cX1_areExchanged 10 = .ok (.isub, 1) := by decide +kernel
theorem dX1_areExchanged_11 : decode cX1_areExchanged 11 = .ok (.invokevirtual 57, 3) := by decide +kernel
theorem dX1_areExchanged_14 : decode cX1_areExchanged 14 = .ok (.if_icmp .ne 24, 3) := by decide +kernel
theorem dX1_areExchanged_17 : decode cX1_areExchanged 17 = .ok (.aload_n 0, 1) := by decide +kernel
theorem dX1_areExchanged_18 : decode cX1_areExchanged 18 = .ok (.iload_n 2, 1) := by decide +kernel
theorem dX1_areExchanged_19 : decode cX1_areExchanged 19 = .ok (.iconst 1, 1) := by decide +kernel
theorem dX1_areExchanged_20 : decode cX1_areExchanged 20 = .ok (.isub, 1) := by decide +kernel
theorem dX1_areExchanged_21 : decode cX1_areExchanged 21 = .ok (.invokevirtual 57, 3) := by decide +kernel
theorem dX1_areExchanged_24 : decode cX1_areExchanged 24 = .ok (.aload_n 1, 1) := by decide +kernel
theorem dX1_areExchanged_25 : decode cX1_areExchanged 25 = .ok (.iload_n 3, 1) := by decide +kernel
theorem dX1_areExchanged_26 : decode cX1_areExchanged 26 = .ok (.iconst 2, 1) := by decide +kernel
theorem dX1_areExchanged_27 : decode cX1_areExchanged 27 = .ok (.isub, 1) := by decide +kernel
theorem dX1_areExchanged_28 : decode cX1_areExchanged 28 = .ok (.invokevirtual 57, 3) := by decide +kernel
theorem dX1_areExchanged_31 : decode cX1_areExchanged 31 = .ok (.if_icmp .ne 7, 3) := by decide +kernel
theorem dX1_areExchanged_34 : decode cX1_areExchanged 34 = .ok (.iconst 1, 1) := by decide +kernel
theorem dX1_areExchanged_35 : decode cX1_areExchanged 35 = .ok (.goto 4, 3) := by decide +kernel
theorem dX1_areExchanged_38 : decode cX1_areExchanged 38 = .ok (.iconst 0, 1) := by decide +kernel
theorem dX1_areExchanged_39 : decode cX1_areExchanged 39 = .ok (.ireturn, 1) := by decide +kernel
theorem dX1_countWithin_0 : decode cX1_countWithin 0 = .ok (.iconst 0, 1) := by decide +kernel
theorem dX1_countWithin_1 : decode cX1_countWithin 1 = .ok (.istore 4, 2) := by decide +kernel
theorem dX1_countWithin_3 : decode cX1_countWithin 3 = .ok (.iconst 0, 1) := by decide +kernel
theorem dX1_countWithin_4 : decode cX1_countWithin 4 = .ok (.istore 5, 2) := by decide +kernel
theorem dX1_countWithin_6 : decode cX1_countWithin 6 = .ok (.iload 5, 2) := by decide +kernel
theorem dX1_countWithin_8 : decode cX1_countWithin 8 = .ok (.aload_n 0, 1) := by decide +kernel
theorem dX1_countWithin_9 : decode cX1_countWithin 9 = .ok (.getfield 17, 3) := by decide +kernel
theorem dX1_countWithin_12 : decode cX1_countWithin 12 = .ok (.if_icmp .ge 24, 3) := by decide +kernel
theorem dX1_countWithin_15 : decode cX1_countWithin 15 = .ok (.aload_n 0, 1) := by decide +kernel
theorem dX1_countWithin_16 : decode cX1_countWithin 16 = .ok (.iload 5, 2) := by decide +kernel
theorem dX1_countWithin_18 : decode cX1_countWithin 18 = .ok (.aload_n 2, 1) := by decide +kernel
theorem dX1_countWithin_19 : decode cX1_countWithin 19 = .ok (.iload_n 3, 1) := by decide +kernel
theorem dX1_countWithin_20 : decode cX1_countWithin 20 = .ok (.invokevirtual 65, 3) := by decide +kernel
theorem dX1_countWithin_23 : decode cX1_countWithin 23 = .ok (.iload_n 1, 1) := by decide +kernel
theorem dX1_countWithin_24 : decode cX1_countWithin 24 = .ok (.if_icmp .gt 6, 3) := by decide +kernel
theorem dX1_countWithin_27 : decode cX1_countWithin 27 = .ok (.iinc 4 1, 3) := by decide +kernel
theorem dX1_countWithin_30 : decode cX1_countWithin 30 = .ok (.iinc 5 1, 3) := by decide +kernel
theorem dX1_countWithin_33 : decode cX1_countWithin 33 = .ok (.goto (-27), 3) := by decide +kernel
theorem dX1_countWithin_36 : decode cX1_countWithin 36 = .ok (.iload 4, 2) := by decide +kernel
theorem dX1_countWithin_38 : decode cX1_countWithin 38 = .ok (.ireturn, 1) := by decide +kernel
theorem dX1_wordAtRank_0 : decode cX1_wordAtRank 0 = .ok (.iconst 0, 1) := by decide +kernel
theorem dX1_wordAtRank_1 : decode cX1_wordAtRank 1 = .ok (.istore 4, 2) := by decide +kernel
theorem dX1_wordAtRank_3 : decode cX1_wordAtRank 3 = .ok (.iload 4, 2) := by decide +kernel
theorem dX1_wordAtRank_5 : decode cX1_wordAtRank 5 = .ok (.aload_n 0, 1) := by decide +kernel
theorem dX1_wordAtRank_6 : decode cX1_wordAtRank 6 = .ok (.getfield 17, 3) := by decide +kernel
theorem dX1_wordAtRank_9 : decode cX1_wordAtRank 9 = .ok (.if_icmp .ge 24, 3) := by decide +kernel
theorem dX1_wordAtRank_12 : decode cX1_wordAtRank 12 = .ok (.aload_n 0, 1) := by decide +kernel
theorem dX1_wordAtRank_13 : decode cX1_wordAtRank 13 = .ok (.getfield 21, 3) := by decide +kernel
theorem dX1_wordAtRank_16 : decode cX1_wordAtRank 16 = .ok (.iload 4, 2) := by decide +kernel
theorem dX1_wordAtRank_18 : decode cX1_wordAtRank 18 = .ok (.aload_n 0, 1) := by decide +kernel
theorem dX1_wordAtRank_19 : decode cX1_wordAtRank 19 = .ok (.iload 4, 2) := by decide +kernel
theorem dX1_wordAtRank_21 : decode cX1_wordAtRank 21 = .ok (.aload_n 2, 1) := by decide +kernel
theorem dX1_wordAtRank_22 : decode cX1_wordAtRank 22 = .ok (.iload_n 3, 1) := by decide +kernel
theorem dX1_wordAtRank_23 : decode cX1_wordAtRank 23 = .ok (.invokevirtual 65, 3) := by decide +kernel
theorem dX1_wordAtRank_26 : decode cX1_wordAtRank 26 = .ok (.iastore, 1) := by decide +kernel
theorem dX1_wordAtRank_27 : decode cX1_wordAtRank 27 = .ok (.iinc 4 1, 3) := by decide +kernel
theorem dX1_wordAtRank_30 : decode cX1_wordAtRank 30 = .ok (.goto (-27), 3) := by decide +kernel
theorem dX1_wordAtRank_33 : decode cX1_wordAtRank 33 = .ok (.iconst 0, 1) := by decide +kernel
theorem dX1_wordAtRank_34 : decode cX1_wordAtRank 34 = .ok (.istore 4, 2) := by decide +kernel
theorem dX1_wordAtRank_36 : decode cX1_wordAtRank 36 = .ok (.iload 4, 2) := by decide +kernel
theorem dX1_wordAtRank_38 : decode cX1_wordAtRank 38 = .ok (.aload_n 0, 1) := by decide +kernel
theorem dX1_wordAtRank_39 : decode cX1_wordAtRank 39 = .ok (.getfield 17, 3) := by decide +kernel
theorem dX1_wordAtRank_42 : decode cX1_wordAtRank 42 = .ok (.if_icmp .ge 22, 3) := by decide +kernel
theorem dX1_wordAtRank_45 : decode cX1_wordAtRank 45 = .ok (.aload_n 0, 1) := by decide +kernel
theorem dX1_wordAtRank_46 : decode cX1_wordAtRank 46 = .ok (.iload 4, 2) := by decide +kernel
theorem dX1_wordAtRank_48 : decode cX1_wordAtRank 48 = .ok (.invokevirtual 69, 3) := by decide +kernel
theorem dX1_wordAtRank_51 : decode cX1_wordAtRank 51 = .ok (.iload_n 1, 1) := by decide +kernel
theorem dX1_wordAtRank_52 : decode cX1_wordAtRank 52 = .ok (.if_icmp .ne 6, 3) := by decide +kernel
theorem dX1_wordAtRank_55 : decode cX1_wordAtRank 55 = .ok (.iload 4, 2) := by decide +kernel
theorem dX1_wordAtRank_57 : decode cX1_wordAtRank 57 = .ok (.ireturn, 1) := by decide +kernel
theorem dX1_wordAtRank_58 : decode cX1_wordAtRank 58 = .ok (.iinc 4 1, 3) := by decide +kernel
theorem dX1_wordAtRank_61 : decode cX1_wordAtRank 61 = .ok (.goto (-25), 3) := by decide +kernel
theorem dX1_wordAtRank_64 : decode cX1_wordAtRank 64 = .ok (.iconst (-1), 1) := by decide +kernel
theorem dX1_wordAtRank_65 : decode cX1_wordAtRank 65 = .ok (.ireturn, 1) := by decide +kernel
theorem dX1_rankOf_0 : decode cX1_rankOf 0 = .ok (.iconst 0, 1) := by decide +kernel
theorem dX1_rankOf_1 : decode cX1_rankOf 1 = .ok (.istore_n 2, 1) := by decide +kernel
theorem dX1_rankOf_2 : decode cX1_rankOf 2 = .ok (.iconst 0, 1) := by decide +kernel
theorem dX1_rankOf_3 : decode cX1_rankOf 3 = .ok (.istore_n 3, 1) := by decide +kernel
theorem dX1_rankOf_4 : decode cX1_rankOf 4 = .ok (.iload_n 3, 1) := by decide +kernel
theorem dX1_rankOf_5 : decode cX1_rankOf 5 = .ok (.aload_n 0, 1) := by decide +kernel
theorem dX1_rankOf_6 : decode cX1_rankOf 6 = .ok (.getfield 17, 3) := by decide +kernel
theorem dX1_rankOf_9 : decode cX1_rankOf 9 = .ok (.if_icmp .ge 21, 3) := by decide +kernel
theorem dX1_rankOf_12 : decode cX1_rankOf 12 = .ok (.aload_n 0, 1) := by decide +kernel
theorem dX1_rankOf_13 : decode cX1_rankOf 13 = .ok (.iload_n 3, 1) := by decide +kernel
theorem dX1_rankOf_14 : decode cX1_rankOf 14 = .ok (.iload_n 1, 1) := by decide +kernel
theorem dX1_rankOf_15 : decode cX1_rankOf 15 = .ok (.invokevirtual 73, 3) := by decide +kernel
theorem dX1_rankOf_18 : decode cX1_rankOf 18 = .ok (.ifCond .eq 6, 3) := by decide +kernel
theorem dX1_rankOf_21 : decode cX1_rankOf 21 = .ok (.iinc 2 1, 3) := by decide +kernel
theorem dX1_rankOf_24 : decode cX1_rankOf 24 = .ok (.iinc 3 1, 3) := by decide +kernel
theorem dX1_rankOf_27 : decode cX1_rankOf 27 = .ok (.goto (-23), 3) := by decide +kernel
theorem dX1_rankOf_30 : decode cX1_rankOf 30 = .ok (.iload_n 2, 1) := by decide +kernel
theorem dX1_rankOf_31 : decode cX1_rankOf 31 = .ok (.ireturn, 1) := by decide +kernel
theorem dX1_comesBefore_0 : decode cX1_comesBefore 0 = .ok (.aload_n 0, 1) := by decide +kernel
theorem dX1_comesBefore_1 : decode cX1_comesBefore 1 = .ok (.getfield 21, 3) := by decide +kernel
theorem dX1_comesBefore_4 : decode cX1_comesBefore 4 = .ok (.iload_n 1, 1) := by decide +kernel
theorem dX1_comesBefore_5 : decode cX1_comesBefore 5 = .ok (.iaload, 1) := by decide +kernel
theorem dX1_comesBefore_6 : decode cX1_comesBefore 6 = .ok (.aload_n 0, 1) := by decide +kernel
theorem dX1_comesBefore_7 : decode cX1_comesBefore 7 = .ok (.getfield 21, 3) := by decide +kernel
theorem dX1_comesBefore_10 : decode cX1_comesBefore 10 = .ok (.iload_n 2, 1) := by decide +kernel
theorem dX1_comesBefore_11 : decode cX1_comesBefore 11 = .ok (.iaload, 1) := by decide +kernel
theorem dX1_comesBefore_12 : decode cX1_comesBefore 12 = .ok (.if_icmp .eq 24, 3) := by decide +kernel
theorem dX1_comesBefore_15 : decode cX1_comesBefore 15 = .ok (.aload_n 0, 1) := by decide +kernel
theorem dX1_comesBefore_16 : decode cX1_comesBefore 16 = .ok (.getfield 21, 3) := by decide +kernel
theorem dX1_comesBefore_19 : decode cX1_comesBefore 19 = .ok (.iload_n 1, 1) := by decide +kernel
theorem dX1_comesBefore_20 : decode cX1_comesBefore 20 = .ok (.iaload, 1) := by decide +kernel
theorem dX1_comesBefore_21 : decode cX1_comesBefore 21 = .ok (.aload_n 0, 1) := by decide +kernel
theorem dX1_comesBefore_22 : decode cX1_comesBefore 22 = .ok (.getfield 21, 3) := by decide +kernel
theorem dX1_comesBefore_25 : decode cX1_comesBefore 25 = .ok (.iload_n 2, 1) := by decide +kernel
theorem dX1_comesBefore_26 : decode cX1_comesBefore 26 = .ok (.iaload, 1) := by decide +kernel
theorem dX1_comesBefore_27 : decode cX1_comesBefore 27 = .ok (.if_icmp .ge 7, 3) := by decide +kernel
theorem dX1_comesBefore_30 : decode cX1_comesBefore 30 = .ok (.iconst 1, 1) := by decide +kernel
theorem dX1_comesBefore_31 : decode cX1_comesBefore 31 = .ok (.goto 4, 3) := by decide +kernel
theorem dX1_comesBefore_34 : decode cX1_comesBefore 34 = .ok (.iconst 0, 1) := by decide +kernel
theorem dX1_comesBefore_35 : decode cX1_comesBefore 35 = .ok (.ireturn, 1) := by decide +kernel
theorem dX1_comesBefore_36 : decode cX1_comesBefore 36 = .ok (.aload_n 0, 1) := by decide +kernel
theorem dX1_comesBefore_37 : decode cX1_comesBefore 37 = .ok (.getfield 11, 3) := by decide +kernel
theorem dX1_comesBefore_40 : decode cX1_comesBefore 40 = .ok (.iload_n 1, 1) := by decide +kernel
theorem dX1_comesBefore_41 : decode cX1_comesBefore 41 = .ok (.aaload, 1) := by decide +kernel
theorem dX1_comesBefore_42 : decode cX1_comesBefore 42 = .ok (.aload_n 0, 1) := by decide +kernel
theorem dX1_comesBefore_43 : decode cX1_comesBefore 43 = .ok (.getfield 11, 3) := by decide +kernel
theorem dX1_comesBefore_46 : decode cX1_comesBefore 46 = .ok (.iload_n 2, 1) := by decide +kernel
theorem dX1_comesBefore_47 : decode cX1_comesBefore 47 = .ok (.aaload, 1) := by decide +kernel
theorem dX1_comesBefore_48 : decode cX1_comesBefore 48 = .ok (.invokevirtual 40, 3) := by decide +kernel
theorem dX1_comesBefore_51 : decode cX1_comesBefore 51 = .ok (.ifCond .ge 7, 3) := by decide +kernel
theorem dX1_comesBefore_54 : decode cX1_comesBefore 54 = .ok (.iconst 1, 1) := by decide +kernel
theorem dX1_comesBefore_55 : decode cX1_comesBefore 55 = .ok (.goto 4, 3) := by decide +kernel
theorem dX1_comesBefore_58 : decode cX1_comesBefore 58 = .ok (.iconst 0, 1) := by decide +kernel
theorem dX1_comesBefore_59 : decode cX1_comesBefore 59 = .ok (.ireturn, 1) := by decide +kernel
theorem dX2_init_0 : decode cX2_init 0 = .ok (.aload_n 0, 1) := by decide +kernel
theorem dX2_init_1 : decode cX2_init 1 = .ok (.invokespecial 3, 3) := by decide +kernel
theorem dX2_init_4 : decode cX2_init 4 = .ok (.aload_n 0, 1) := by decide +kernel
theorem dX2_init_5 : decode cX2_init 5 = .ok (.new 9, 3) := by decide +kernel
theorem dX2_init_8 : decode cX2_init 8 = .ok (.dup, 1) := by decide +kernel
theorem dX2_init_9 : decode cX2_init 9 = .ok (.invokespecial 11, 3) := by decide +kernel
theorem dX2_init_12 : decode cX2_init 12 = .ok (.putfield 12, 3) := by decide +kernel
theorem dX2_init_15 : decode cX2_init 15 = .ok (.aload_n 0, 1) := by decide +kernel
theorem dX2_init_16 : decode cX2_init 16 = .ok (.iconst 0, 1) := by decide +kernel
theorem dX2_init_17 : decode cX2_init 17 = .ok (.putfield 18, 3) := by decide +kernel
theorem dX2_init_20 : decode cX2_init 20 = .ok (.aload_n 0, 1) := by decide +kernel
theorem dX2_init_21 : decode cX2_init 21 = .ok (.iconst 0, 1) := by decide +kernel
theorem dX2_init_22 : decode cX2_init 22 = .ok (.putfield 22, 3) := by decide +kernel
theorem dX2_init_25 : decode cX2_init 25 = .ok (.aload_n 0, 1) := by decide +kernel
theorem dX2_init_26 : decode cX2_init 26 = .ok (.bipush 7, 2) := by decide +kernel
theorem dX2_init_28 : decode cX2_init 28 = .ok (.newarray .int, 2) := by decide +kernel
theorem dX2_init_30 : decode cX2_init 30 = .ok (.putfield 25, 3) := by decide +kernel
theorem dX2_init_33 : decode cX2_init 33 = .ok (.aload_n 0, 1) := by decide +kernel
theorem dX2_init_34 : decode cX2_init 34 = .ok (.bipush 7, 2) := by decide +kernel
theorem dX2_init_36 : decode cX2_init 36 = .ok (.newarray .int, 2) := by decide +kernel
theorem dX2_init_38 : decode cX2_init 38 = .ok (.putfield 29, 3) := by decide +kernel
theorem dX2_init_41 : decode cX2_init 41 = .ok (.aload_n 0, 1) := by decide +kernel
theorem dX2_init_42 : decode cX2_init 42 = .ok (.bipush 7, 2) := by decide +kernel
theorem dX2_init_44 : decode cX2_init 44 = .ok (.newarray .int, 2) := by decide +kernel
theorem dX2_init_46 : decode cX2_init 46 = .ok (.putfield 32, 3) := by decide +kernel
theorem dX2_init_49 : decode cX2_init 49 = .ok (.aload_n 0, 1) := by decide +kernel
theorem dX2_init_50 : decode cX2_init 50 = .ok (.iconst 0, 1) := by decide +kernel
theorem dX2_init_51 : decode cX2_init 51 = .ok (.putfield 35, 3) := by decide +kernel
theorem dX2_init_54 : decode cX2_init 54 = .ok (.aload_n 0, 1) := by decide +kernel
theorem dX2_init_55 : decode cX2_init 55 = .ok (.iconst 0, 1) := by decide +kernel
theorem dX2_init_56 : decode cX2_init 56 = .ok (.putfield 38, 3) := by decide +kernel
theorem dX2_init_59 : decode cX2_init 59 = .ok (.aload_n 0, 1) := by decide +kernel
theorem dX2_init_60 : decode cX2_init 60 = .ok (.iconst 0, 1) := by decide +kernel
theorem dX2_init_61 : decode cX2_init 61 = .ok (.putfield 42, 3) := by decide +kernel
theorem dX2_init_64 : decode cX2_init 64 = .ok (.return_, 1) := by decide +kernel
theorem dX2_read_0 : decode cX2_read 0 = .ok (.aload_n 0, 1) := by decide +kernel
theorem dX2_read_1 : decode cX2_read 1 = .ok (.getfield 12, 3) := by decide +kernel
theorem dX2_read_4 : decode cX2_read 4 = .ok (.invokevirtual 45, 3) := by decide +kernel
theorem dX2_read_7 : decode cX2_read 7 = .ok (.aload_n 0, 1) := by decide +kernel
theorem dX2_read_8 : decode cX2_read 8 = .ok (.iconst 0, 1) := by decide +kernel
theorem dX2_read_9 : decode cX2_read 9 = .ok (.putfield 22, 3) := by decide +kernel
theorem dX2_read_12 : decode cX2_read 12 = .ok (.aload_n 0, 1) := by decide +kernel
theorem dX2_read_13 : decode cX2_read 13 = .ok (.invokevirtual 48, 3) := by decide +kernel
theorem dX2_read_16 : decode cX2_read 16 = .ok (.iconst 0, 1) := by decide +kernel
theorem dX2_read_17 : decode cX2_read 17 = .ok (.istore_n 3, 1) := by decide +kernel
theorem dX2_read_18 : decode cX2_read 18 = .ok (.iload_n 3, 1) := by decide +kernel
theorem dX2_read_19 : decode cX2_read 19 = .ok (.iload_n 2, 1) := by decide +kernel
theorem dX2_read_20 : decode cX2_read 20 = .ok (.if_icmp .ge 27, 3) := by decide +kernel
theorem dX2_read_23 : decode cX2_read 23 = .ok (.iload_n 3, 1) := by decide +kernel
theorem dX2_read_24 : decode cX2_read 24 = .ok (.aload_n 1, 1) := by decide +kernel
theorem dX2_read_25 : decode cX2_read 25 = .ok (.arraylength, 1) := by decide +kernel
theorem dX2_read_26 : decode cX2_read 26 = .ok (.if_icmp .ge 21, 3) := by decide +kernel
theorem dX2_read_29 : decode cX2_read 29 = .ok (.aload_n 0, 1) := by decide +kernel
theorem dX2_read_30 : decode cX2_read 30 = .ok (.aload_n 1, 1) := by decide +kernel
theorem dX2_read_31 : decode cX2_read 31 = .ok (.iload_n 3, 1) := by decide +kernel
theorem dX2_read_32 : decode cX2_read 32 = .ok (.caload, 1) := by decide +kernel
theorem dX2_read_33 : decode cX2_read 33 = .ok (.invokevirtual 51, 3) := by decide +kernel
theorem dX2_read_36 : decode cX2_read 36 = .ok (.ifCond .ne 5, 3) := by decide +kernel
theorem dX2_read_39 : decode cX2_read 39 = .ok (.iload_n 3, 1) := by decide +kernel
theorem dX2_read_40 : decode cX2_read 40 = .ok (.ireturn, 1) := by decide +kernel
theorem dX2_read_41 : decode cX2_read 41 = .ok (.iinc 3 1, 3) := by decide +kernel
theorem dX2_read_44 : decode cX2_read 44 = .ok (.goto (-26), 3) := by decide +kernel
theorem dX2_read_47 : decode cX2_read 47 = .ok (.aload_n 0, 1) := by decide +kernel
theorem dX2_read_48 : decode cX2_read 48 = .ok (.getfield 22, 3) := by decide +kernel
theorem dX2_read_51 : decode cX2_read 51 = .ok (.ifCond .gt 19, 3) := by decide +kernel
theorem dX2_read_54 : decode cX2_read 54 = .ok (.aload_n 0, 1) := by decide +kernel
theorem dX2_read_55 : decode cX2_read 55 = .ok (.getfield 18, 3) := by decide +kernel
theorem dX2_read_58 : decode cX2_read 58 = .ok (.iconst 1, 1) := by decide +kernel
theorem dX2_read_59 : decode cX2_read 59 = .ok (.if_icmp .eq 13, 3) := by decide +kernel
theorem dX2_read_62 : decode cX2_read 62 = .ok (.aload_n 0, 1) := by decide +kernel
theorem dX2_read_63 : decode cX2_read 63 = .ok (.getfield 18, 3) := by decide +kernel
theorem dX2_read_66 : decode cX2_read 66 = .ok (.iconst 3, 1) := by decide +kernel
theorem dX2_read_67 : decode cX2_read 67 = .ok (.if_icmp .eq 5, 3) := by decide +kernel
theorem dX2_read_70 : decode cX2_read 70 = .ok (.iload_n 2, 1) := by decide +kernel
theorem dX2_read_71 : decode cX2_read 71 = .ok (.ireturn, 1) := by decide +kernel
theorem dX2_read_72 : decode cX2_read 72 = .ok (.aload_n 0, 1) := by decide +kernel
theorem dX2_read_73 : decode cX2_read 73 = .ok (.invokevirtual 55, 3) := by decide +kernel
theorem dX2_read_76 : decode cX2_read 76 = .ok (.aload_n 0, 1) := by decide +kernel
theorem dX2_read_77 : decode cX2_read 77 = .ok (.invokevirtual 58, 3) := by decide +kernel
theorem dX2_read_80 : decode cX2_read 80 = .ok (.iconst (-1), 1) := by decide +kernel
theorem dX2_read_81 : decode cX2_read 81 = .ok (.ireturn, 1) := by decide +kernel
theorem dX2_take_0 : decode cX2_take 0 = .ok (.aload_n 0, 1) := by decide +kernel
theorem dX2_take_1 : decode cX2_take 1 = .ok (.getfield 18, 3) := by decide +kernel
theorem dX2_take_4 : decode cX2_take 4 = .ok (.tableswitch 128 0 6 #[44, 128, 50, 56, 78, 100, 106], 44) := by decide +kernel
theorem dX2_take_48 : decode cX2_take 48 = .ok (.aload_n 0, 1) := by decide +kernel
theorem dX2_take_49 : decode cX2_take 49 = .ok (.iload_n 1, 1) := by decide +kernel
theorem dX2_take_50 : decode cX2_take 50 = .ok (.invokevirtual 61, 3) := by decide +kernel
theorem dX2_take_53 : decode cX2_take 53 = .ok (.ireturn, 1) := by decide +kernel
theorem dX2_take_54 : decode cX2_take 54 = .ok (.aload_n 0, 1) := by decide +kernel
theorem dX2_take_55 : decode cX2_take 55 = .ok (.iload_n 1, 1) := by decide +kernel
theorem dX2_take_56 : decode cX2_take 56 = .ok (.invokevirtual 64, 3) := by decide +kernel
theorem dX2_take_59 : decode cX2_take 59 = .ok (.ireturn, 1) := by decide +kernel
theorem dX2_take_60 : decode cX2_take 60 = .ok (.aload_n 0, 1) := by decide +kernel
theorem dX2_take_61 : decode cX2_take 61 = .ok (.iload_n 1, 1) := by decide +kernel
theorem dX2_take_62 : decode cX2_take 62 = .ok (.invokevirtual 67, 3) := by decide +kernel
theorem dX2_take_65 : decode cX2_take 65 = .ok (.ifCond .ne 11, 3) := by decide +kernel
theorem dX2_take_68 : decode cX2_take 68 = .ok (.aload_n 0, 1) := by decide +kernel
theorem dX2_take_69 : decode cX2_take 69 = .ok (.iload_n 1, 1) := by decide +kernel
theorem dX2_take_70 : decode cX2_take 70 = .ok (.invokevirtual 70, 3) := by decide +kernel
theorem dX2_take_73 : decode cX2_take 73 = .ok (.ifCond .eq 7, 3) := by decide +kernel
theorem dX2_take_76 : decode cX2_take 76 = .ok (.iconst 1, 1) := by decide +kernel
theorem dX2_take_77 : decode cX2_take 77 = .ok (.goto 4, 3) := by decide +kernel
theorem dX2_take_80 : decode cX2_take 80 = .ok (.iconst 0, 1) := by decide +kernel
theorem dX2_take_81 : decode cX2_take 81 = .ok (.ireturn, 1) := by decide +kernel
theorem dX2_take_82 : decode cX2_take 82 = .ok (.aload_n 0, 1) := by decide +kernel
theorem dX2_take_83 : decode cX2_take 83 = .ok (.iload_n 1, 1) := by decide +kernel
theorem dX2_take_84 : decode cX2_take 84 = .ok (.invokevirtual 73, 3) := by decide +kernel
theorem dX2_take_87 : decode cX2_take 87 = .ok (.ifCond .ne 11, 3) := by decide +kernel
theorem dX2_take_90 : decode cX2_take 90 = .ok (.aload_n 0, 1) := by decide +kernel
theorem dX2_take_91 : decode cX2_take 91 = .ok (.iload_n 1, 1) := by decide +kernel
theorem dX2_take_92 : decode cX2_take 92 = .ok (.invokevirtual 76, 3) := by decide +kernel
theorem dX2_take_95 : decode cX2_take 95 = .ok (.ifCond .eq 7, 3) := by decide +kernel
theorem dX2_take_98 : decode cX2_take 98 = .ok (.iconst 1, 1) := by decide +kernel
theorem dX2_take_99 : decode cX2_take 99 = .ok (.goto 4, 3) := by decide +kernel
theorem dX2_take_102 : decode cX2_take 102 = .ok (.iconst 0, 1) := by decide +kernel
theorem dX2_take_103 : decode cX2_take 103 = .ok (.ireturn, 1) := by decide +kernel
theorem dX2_take_104 : decode cX2_take 104 = .ok (.aload_n 0, 1) := by decide +kernel
theorem dX2_take_105 : decode cX2_take 105 = .ok (.iload_n 1, 1) := by decide +kernel
theorem dX2_take_106 : decode cX2_take 106 = .ok (.invokevirtual 76, 3) := by decide +kernel
theorem dX2_take_109 : decode cX2_take 109 = .ok (.ireturn, 1) := by decide +kernel
theorem dX2_take_110 : decode cX2_take 110 = .ok (.aload_n 0, 1) := by decide +kernel
theorem dX2_take_111 : decode cX2_take 111 = .ok (.iload_n 1, 1) := by decide +kernel
theorem dX2_take_112 : decode cX2_take 112 = .ok (.invokevirtual 76, 3) := by decide +kernel
theorem dX2_take_115 : decode cX2_take 115 = .ok (.ifCond .ne 11, 3) := by decide +kernel
theorem dX2_take_118 : decode cX2_take 118 = .ok (.aload_n 0, 1) := by decide +kernel
theorem dX2_take_119 : decode cX2_take 119 = .ok (.iload_n 1, 1) := by decide +kernel
theorem dX2_take_120 : decode cX2_take 120 = .ok (.invokevirtual 79, 3) := by decide +kernel
theorem dX2_take_123 : decode cX2_take 123 = .ok (.ifCond .eq 7, 3) := by decide +kernel
theorem dX2_take_126 : decode cX2_take 126 = .ok (.iconst 1, 1) := by decide +kernel
theorem dX2_take_127 : decode cX2_take 127 = .ok (.goto 4, 3) := by decide +kernel
theorem dX2_take_130 : decode cX2_take 130 = .ok (.iconst 0, 1) := by decide +kernel
theorem dX2_take_131 : decode cX2_take 131 = .ok (.ireturn, 1) := by decide +kernel
theorem dX2_take_132 : decode cX2_take 132 = .ok (.aload_n 0, 1) := by decide +kernel
theorem dX2_take_133 : decode cX2_take 133 = .ok (.iload_n 1, 1) := by decide +kernel
theorem dX2_take_134 : decode cX2_take 134 = .ok (.invokevirtual 70, 3) := by decide +kernel
theorem dX2_take_137 : decode cX2_take 137 = .ok (.ireturn, 1) := by decide +kernel
theorem dX2_takeAtom_0 : decode cX2_takeAtom 0 = .ok (.iload_n 1, 1) := by decide +kernel
theorem dX2_takeAtom_1 : decode cX2_takeAtom 1 = .ok (.invokestatic 82, 3) := by decide +kernel
theorem dX2_takeAtom_4 : decode cX2_takeAtom 4 = .ok (.ifCond .eq 13, 3) := by decide +kernel
theorem dX2_takeAtom_7 : decode cX2_takeAtom 7 = .ok (.aload_n 0, 1) := by decide +kernel
theorem dX2_takeAtom_8 : decode cX2_takeAtom 8 = .ok (.iload_n 1, 1) := by decide +kernel
theorem dX2_takeAtom_9 : decode cX2_takeAtom 9 = .ok (.invokestatic 85, 3) := by decide +kernel
theorem dX2_takeAtom_12 : decode cX2_takeAtom 12 = .ok (.invokevirtual 89, 3) := by decide +kernel
theorem dX2_takeAtom_15 : decode cX2_takeAtom 15 = .ok (.iconst 1, 1) := by decide +kernel
theorem dX2_takeAtom_16 : decode cX2_takeAtom 16 = .ok (.ireturn, 1) := by decide +kernel
theorem dX2_takeAtom_17 : decode cX2_takeAtom 17 = .ok (.iload_n 1, 1) := by decide +kernel
theorem dX2_takeAtom_18 : decode cX2_takeAtom 18 = .ok (.lookupswitch 64 #[(40, 59), (46, 34), (91, 42)], 34) := by decide +kernel
theorem dX2_takeAtom_52 : decode cX2_takeAtom 52 = .ok (.aload_n 0, 1) := by decide +kernel
theorem dX2_takeAtom_53 : decode cX2_takeAtom 53 = .ok (.ldc 93, 2) := by decide +kernel
theorem dX2_takeAtom_55 : decode cX2_takeAtom 55 = .ok (.invokevirtual 89, 3) := by decide +kernel
theorem dX2_takeAtom_58 : decode cX2_takeAtom 58 = .ok (.iconst 1, 1) := by decide +kernel
theorem dX2_takeAtom_59 : decode cX2_takeAtom 59 = .ok (.ireturn, 1) := by decide +kernel
theorem dX2_takeAtom_60 : decode cX2_takeAtom 60 = .ok (.aload_n 0, 1) := by decide +kernel
theorem dX2_takeAtom_61 : decode cX2_takeAtom 61 = .ok (.iconst 0, 1) := by decide +kernel
theorem dX2_takeAtom_62 : decode cX2_takeAtom 62 = .ok (.putfield 35, 3) := by decide +kernel
theorem dX2_takeAtom_65 : decode cX2_takeAtom 65 = .ok (.aload_n 0, 1) := by decide +kernel
theorem dX2_takeAtom_66 : decode cX2_takeAtom 66 = .ok (.iconst 0, 1) := by decide +kernel
theorem dX2_takeAtom_67 : decode cX2_takeAtom 67 = .ok (.putfield 38, 3) := by decide +kernel
theorem dX2_takeAtom_70 : decode cX2_takeAtom 70 = .ok (.aload_n 0, 1) := by decide +kernel
theorem dX2_takeAtom_71 : decode cX2_takeAtom 71 = .ok (.iconst 4, 1) := by decide +kernel
theorem dX2_takeAtom_72 : decode cX2_takeAtom 72 = .ok (.putfield 18, 3) := by decide +kernel
theorem dX2_takeAtom_75 : decode cX2_takeAtom 75 = .ok (.iconst 1, 1) := by decide +kernel
theorem dX2_takeAtom_76 : decode cX2_takeAtom 76 = .ok (.ireturn, 1) := by decide +kernel
theorem dX2_takeAtom_77 : decode cX2_takeAtom 77 = .ok (.aload_n 0, 1) := by decide +kernel
theorem dX2_takeAtom_78 : decode cX2_takeAtom 78 = .ok (.invokevirtual 94, 3) := by decide +kernel
theorem dX2_takeAtom_81 : decode cX2_takeAtom 81 = .ok (.ireturn, 1) := by decide +kernel
theorem dX2_takeAtom_82 : decode cX2_takeAtom 82 = .ok (.iconst 0, 1) := by decide +kernel
theorem dX2_takeAtom_83 : decode cX2_takeAtom 83 = .ok (.ireturn, 1) := by decide +kernel
theorem dX2_takeOpening_0 : decode cX2_takeOpening 0 = .ok (.aload_n 0, 1) := by decide +kernel
theorem dX2_takeOpening_1 : decode cX2_takeOpening 1 = .ok (.getfield 22, 3) := by decide +kernel
theorem dX2_takeOpening_4 : decode cX2_takeOpening 4 = .ok (.bipush 6, 2) := by decide +kernel
theorem dX2_takeOpening_6 : decode cX2_takeOpening 6 = .ok (.if_icmp .lt 5, 3) := by decide +kernel
theorem dX2_takeOpening_9 : decode cX2_takeOpening 9 = .ok (.iconst 0, 1) := by decide +kernel
theorem dX2_takeOpening_10 : decode cX2_takeOpening 10 = .ok (.ireturn, 1) := by decide +kernel
theorem dX2_takeOpening_11 : decode cX2_takeOpening 11 = .ok (.aload_n 0, 1) := by decide +kernel
theorem dX2_takeOpening_12 : decode cX2_takeOpening 12 = .ok (.dup, 1) := by decide +kernel
theorem dX2_takeOpening_13 : decode cX2_takeOpening 13 = .ok (.getfield 22, 3) := by decide +kernel
theorem dX2_takeOpening_16 : decode cX2_takeOpening 16 = .ok (.iconst 1, 1) := by decide +kernel
theorem dX2_takeOpening_17 : decode cX2_takeOpening 17 = .ok (.iadd, 1) := by decide +kernel
theorem dX2_takeOpening_18 : decode cX2_takeOpening 18 = .ok (.putfield 22, 3) := by decide +kernel
theorem dX2_takeOpening_21 : decode cX2_takeOpening 21 = .ok (.aload_n 0, 1) := by decide +kernel
theorem dX2_takeOpening_22 : decode cX2_takeOpening 22 = .ok (.invokevirtual 48, 3) := by decide +kernel
theorem dX2_takeOpening_25 : decode cX2_takeOpening 25 = .ok (.iconst 1, 1) := by decide +kernel
theorem dX2_takeOpening_26 : decode cX2_takeOpening 26 = .ok (.ireturn, 1) := by decide +kernel
theorem dX2_takeOthersSign_0 : decode cX2_takeOthersSign 0 = .ok (.iload_n 1, 1) := by decide +kernel
theorem dX2_takeOthersSign_1 : decode cX2_takeOthersSign 1 = .ok (.bipush 94, 2) := by decide +kernel
theorem dX2_takeOthersSign_3 : decode cX2_takeOthersSign 3 = .ok (.if_icmp .eq 5, 3) := by decide +kernel
theorem dX2_takeOthersSign_6 : decode cX2_takeOthersSign 6 = .ok (.iconst 0, 1) := by decide +kernel
theorem dX2_takeOthersSign_7 : decode cX2_takeOthersSign 7 = .ok (.ireturn, 1) := by decide +kernel
theorem dX2_takeOthersSign_8 : decode cX2_takeOthersSign 8 = .ok (.aload_n 0, 1) := by decide +kernel
theorem dX2_takeOthersSign_9 : decode cX2_takeOthersSign 9 = .ok (.iconst 1, 1) := by decide +kernel
theorem dX2_takeOthersSign_10 : decode cX2_takeOthersSign 10 = .ok (.putfield 38, 3) := by decide +kernel
theorem dX2_takeOthersSign_13 : decode cX2_takeOthersSign 13 = .ok (.aload_n 0, 1) := by decide +kernel
theorem dX2_takeOthersSign_14 : decode cX2_takeOthersSign 14 = .ok (.iconst 5, 1) := by decide +kernel
theorem dX2_takeOthersSign_15 : decode cX2_takeOthersSign 15 = .ok (.putfield 18, 3) := by decide +kernel
theorem dX2_takeOthersSign_18 : decode cX2_takeOthersSign 18 = .ok (.iconst 1, 1) := by decide +kernel
theorem dX2_takeOthersSign_19 : decode cX2_takeOthersSign 19 = .ok (.ireturn, 1) := by decide +kernel
theorem dX2_takeSetLetter_0 : decode cX2_takeSetLetter 0 = .ok (.iload_n 1, 1) := by decide +kernel
theorem dX2_takeSetLetter_1 : decode cX2_takeSetLetter 1 = .ok (.invokestatic 82, 3) := by decide +kernel
theorem dX2_takeSetLetter_4 : decode cX2_takeSetLetter 4 = .ok (.ifCond .ne 5, 3) := by decide +kernel
theorem dX2_takeSetLetter_7 : decode cX2_takeSetLetter 7 = .ok (.iconst 0, 1) := by decide +kernel
theorem dX2_takeSetLetter_8 : decode cX2_takeSetLetter 8 = .ok (.ireturn, 1) := by decide +kernel
theorem dX2_takeSetLetter_9 : decode cX2_takeSetLetter 9 = .ok (.aload_n 0, 1) := by decide +kernel
theorem dX2_takeSetLetter_10 : decode cX2_takeSetLetter 10 = .ok (.dup, 1) := by decide +kernel
theorem dX2_takeSetLetter_11 : decode cX2_takeSetLetter 11 = .ok (.getfield 35, 3) := by decide +kernel
theorem dX2_takeSetLetter_14 : decode cX2_takeSetLetter 14 = .ok (.iload_n 1, 1) := by decide +kernel
theorem dX2_takeSetLetter_15 : decode cX2_takeSetLetter 15 = .ok (.invokestatic 85, 3) := by decide +kernel
theorem dX2_takeSetLetter_18 : decode cX2_takeSetLetter 18 = .ok (.ior, 1) := by decide +kernel
theorem dX2_takeSetLetter_19 : decode cX2_takeSetLetter 19 = .ok (.putfield 35, 3) := by decide +kernel
theorem dX2_takeSetLetter_22 : decode cX2_takeSetLetter 22 = .ok (.aload_n 0, 1) := by decide +kernel
theorem dX2_takeSetLetter_23 : decode cX2_takeSetLetter 23 = .ok (.bipush 6, 2) := by decide +kernel
theorem dX2_takeSetLetter_25 : decode cX2_takeSetLetter 25 = .ok (.putfield 18, 3) := by decide +kernel
theorem dX2_takeSetLetter_28 : decode cX2_takeSetLetter 28 = .ok (.iconst 1, 1) := by decide +kernel
theorem dX2_takeSetLetter_29 : decode cX2_takeSetLetter 29 = .ok (.ireturn, 1) := by decide +kernel
theorem dX2_takeSetEnd_0 : decode cX2_takeSetEnd 0 = .ok (.iload_n 1, 1) := by decide +kernel
theorem dX2_takeSetEnd_1 : decode cX2_takeSetEnd 1 = .ok (.bipush 93, 2) := by decide +kernel
theorem dX2_takeSetEnd_3 : decode cX2_takeSetEnd 3 = .ok (.if_icmp .eq 5, 3) := by decide +kernel
theorem dX2_takeSetEnd_6 : decode cX2_takeSetEnd 6 = .ok (.iconst 0, 1) := by decide +kernel
theorem dX2_takeSetEnd_7 : decode cX2_takeSetEnd 7 = .ok (.ireturn, 1) := by decide +kernel
theorem dX2_takeSetEnd_8 : decode cX2_takeSetEnd 8 = .ok (.aload_n 0, 1) := by decide +kernel
theorem dX2_takeSetEnd_9 : decode cX2_takeSetEnd 9 = .ok (.aload_n 0, 1) := by decide +kernel
theorem dX2_takeSetEnd_10 : decode cX2_takeSetEnd 10 = .ok (.getfield 38, 3) := by decide +kernel
theorem dX2_takeSetEnd_13 : decode cX2_takeSetEnd 13 = .ok (.ifCond .eq 15, 3) := by decide +kernel
theorem dX2_takeSetEnd_16 : decode cX2_takeSetEnd 16 = .ok (.ldc 93, 2) := by decide +kernel
theorem dX2_takeSetEnd_18 : decode cX2_takeSetEnd 18 = .ok (.aload_n 0, 1) := by decide +kernel
theorem dX2_takeSetEnd_19 : decode cX2_takeSetEnd 19 = .ok (.getfield 35, 3) := by decide +kernel
theorem dX2_takeSetEnd_22 : decode cX2_takeSetEnd 22 = .ok (.iconst (-1), 1) := by decide +kernel
theorem dX2_takeSetEnd_23 : decode cX2_takeSetEnd 23 = .ok (.ixor, 1) := by decide +kernel
theorem dX2_takeSetEnd_24 : decode cX2_takeSetEnd 24 = .ok (.iand, 1) := by decide +kernel
theorem dX2_takeSetEnd_25 : decode cX2_takeSetEnd 25 = .ok (.goto 7, 3) := by decide +kernel
theorem dX2_takeSetEnd_28 : decode cX2_takeSetEnd 28 = .ok (.aload_n 0, 1) := by decide +kernel
theorem dX2_takeSetEnd_29 : decode cX2_takeSetEnd 29 = .ok (.getfield 35, 3) := by decide +kernel
theorem dX2_takeSetEnd_32 : decode cX2_takeSetEnd 32 = .ok (.invokevirtual 89, 3) := by decide +kernel
theorem dX2_takeSetEnd_35 : decode cX2_takeSetEnd 35 = .ok (.iconst 1, 1) := by decide +kernel
theorem dX2_takeSetEnd_36 : decode cX2_takeSetEnd 36 = .ok (.ireturn, 1) := by decide +kernel
theorem dX2_takeFirstDigit_0 : decode cX2_takeFirstDigit 0 = .ok (.iload_n 1, 1) := by decide +kernel
theorem dX2_takeFirstDigit_1 : decode cX2_takeFirstDigit 1 = .ok (.invokestatic 98, 3) := by decide +kernel
theorem dX2_takeFirstDigit_4 : decode cX2_takeFirstDigit 4 = .ok (.ifCond .ne 5, 3) := by decide +kernel
theorem dX2_takeFirstDigit_7 : decode cX2_takeFirstDigit 7 = .ok (.iconst 0, 1) := by decide +kernel
theorem dX2_takeFirstDigit_8 : decode cX2_takeFirstDigit 8 = .ok (.ireturn, 1) := by decide +kernel
theorem dX2_takeFirstDigit_9 : decode cX2_takeFirstDigit 9 = .ok (.aload_n 0, 1) := by decide +kernel
theorem dX2_takeFirstDigit_10 : decode cX2_takeFirstDigit 10 = .ok (.iload_n 1, 1) := by decide +kernel
theorem dX2_takeFirstDigit_11 : decode cX2_takeFirstDigit 11 = .ok (.bipush 48, 2) := by decide +kernel
theorem dX2_takeFirstDigit_13 : decode cX2_takeFirstDigit 13 = .ok (.isub, 1) := by decide +kernel
theorem dX2_takeFirstDigit_14 : decode cX2_takeFirstDigit 14 = .ok (.putfield 42, 3) := by decide +kernel
theorem dX2_takeFirstDigit_17 : decode cX2_takeFirstDigit 17 = .ok (.aload_n 0, 1) := by decide +kernel
theorem dX2_takeFirstDigit_18 : decode cX2_takeFirstDigit 18 = .ok (.bipush 6, 2) := by decide +kernel
theorem dX2_takeFirstDigit_20 : decode cX2_takeFirstDigit 20 = .ok (.aload_n 0, 1) := by decide +kernel
theorem dX2_takeFirstDigit_21 : decode cX2_takeFirstDigit 21 = .ok (.getfield 42, 3) := by decide +kernel
theorem dX2_takeFirstDigit_24 : decode cX2_takeFirstDigit 24 = .ok (.invokevirtual 101, 3) := by decide +kernel
theorem dX2_takeFirstDigit_27 : decode cX2_takeFirstDigit 27 = .ok (.aload_n 0, 1) := by decide +kernel
theorem dX2_takeFirstDigit_28 : decode cX2_takeFirstDigit 28 = .ok (.iconst 3, 1) := by decide +kernel
theorem dX2_takeFirstDigit_29 : decode cX2_takeFirstDigit 29 = .ok (.putfield 18, 3) := by decide +kernel
theorem dX2_takeFirstDigit_32 : decode cX2_takeFirstDigit 32 = .ok (.iconst 1, 1) := by decide +kernel
theorem dX2_takeFirstDigit_33 : decode cX2_takeFirstDigit 33 = .ok (.ireturn, 1) := by decide +kernel
theorem dX2_takeSecondDigit_0 : decode cX2_takeSecondDigit 0 = .ok (.iload_n 1, 1) := by decide +kernel
theorem dX2_takeSecondDigit_1 : decode cX2_takeSecondDigit 1 = .ok (.invokestatic 98, 3) := by decide +kernel
theorem dX2_takeSecondDigit_4 : decode cX2_takeSecondDigit 4 = .ok (.ifCond .ne 5, 3) := by decide +kernel
theorem dX2_takeSecondDigit_7 : decode cX2_takeSecondDigit 7 = .ok (.iconst 0, 1) := by decide +kernel
theorem dX2_takeSecondDigit_8 : decode cX2_takeSecondDigit 8 = .ok (.ireturn, 1) := by decide +kernel
theorem dX2_takeSecondDigit_9 : decode cX2_takeSecondDigit 9 = .ok (.aload_n 0, 1) := by decide +kernel
theorem dX2_takeSecondDigit_10 : decode cX2_takeSecondDigit 10 = .ok (.getfield 12, 3) := by decide +kernel
theorem dX2_takeSecondDigit_13 : decode cX2_takeSecondDigit 13 = .ok (.aload_n 0, 1) := by decide +kernel
theorem dX2_takeSecondDigit_14 : decode cX2_takeSecondDigit 14 = .ok (.getfield 25, 3) := by decide +kernel
theorem dX2_takeSecondDigit_17 : decode cX2_takeSecondDigit 17 = .ok (.aload_n 0, 1) := by decide +kernel
theorem dX2_takeSecondDigit_18 : decode cX2_takeSecondDigit 18 = .ok (.getfield 22, 3) := by decide +kernel
theorem dX2_takeSecondDigit_21 : decode cX2_takeSecondDigit 21 = .ok (.iaload, 1) := by decide +kernel
theorem dX2_takeSecondDigit_22 : decode cX2_takeSecondDigit 22 = .ok (.aload_n 0, 1) := by decide +kernel
theorem dX2_takeSecondDigit_23 : decode cX2_takeSecondDigit 23 = .ok (.getfield 42, 3) := by decide +kernel
theorem dX2_takeSecondDigit_26 : decode cX2_takeSecondDigit 26 = .ok (.bipush 10, 2) := by decide +kernel
theorem dX2_takeSecondDigit_28 : decode cX2_takeSecondDigit 28 = .ok (.imul, 1) := by decide +kernel
theorem dX2_takeSecondDigit_29 : decode cX2_takeSecondDigit 29 = .ok (.iload_n 1, 1) := by decide +kernel
theorem dX2_takeSecondDigit_30 : decode cX2_takeSecondDigit 30 = .ok (.bipush 48, 2) := by decide +kernel
theorem dX2_takeSecondDigit_32 : decode cX2_takeSecondDigit 32 = .ok (.isub, 1) := by decide +kernel
theorem dX2_takeSecondDigit_33 : decode cX2_takeSecondDigit 33 = .ok (.iadd, 1) := by decide +kernel
theorem dX2_takeSecondDigit_34 : decode cX2_takeSecondDigit 34 = .ok (.invokevirtual 105, 3) := by decide +kernel
theorem dX2_takeSecondDigit_37 : decode cX2_takeSecondDigit 37 = .ok (.aload_n 0, 1) := by decide +kernel
theorem dX2_takeSecondDigit_38 : decode cX2_takeSecondDigit 38 = .ok (.iconst 1, 1) := by decide +kernel
theorem dX2_takeSecondDigit_39 : decode cX2_takeSecondDigit 39 = .ok (.putfield 18, 3) := by decide +kernel
theorem dX2_takeSecondDigit_42 : decode cX2_takeSecondDigit 42 = .ok (.iconst 1, 1) := by decide +kernel
theorem dX2_takeSecondDigit_43 : decode cX2_takeSecondDigit 43 = .ok (.ireturn, 1) := by decide +kernel
theorem dX2_takeAfterItem_0 : decode cX2_takeAfterItem 0 = .ok (.aload_n 0, 1) := by decide +kernel
theorem dX2_takeAfterItem_1 : decode cX2_takeAfterItem 1 = .ok (.iload_n 1, 1) := by decide +kernel
theorem dX2_takeAfterItem_2 : decode cX2_takeAfterItem 2 = .ok (.invokevirtual 108, 3) := by decide +kernel
theorem dX2_takeAfterItem_5 : decode cX2_takeAfterItem 5 = .ok (.ifCond .eq 5, 3) := by decide +kernel
theorem dX2_takeAfterItem_8 : decode cX2_takeAfterItem 8 = .ok (.iconst 1, 1) := by decide +kernel
theorem dX2_takeAfterItem_9 : decode cX2_takeAfterItem 9 = .ok (.ireturn, 1) := by decide +kernel
theorem dX2_takeAfterItem_10 : decode cX2_takeAfterItem 10 = .ok (.aload_n 0, 1) := by decide +kernel
theorem dX2_takeAfterItem_11 : decode cX2_takeAfterItem 11 = .ok (.invokevirtual 55, 3) := by decide +kernel
theorem dX2_takeAfterItem_14 : decode cX2_takeAfterItem 14 = .ok (.iload_n 1, 1) := by decide +kernel
theorem dX2_takeAfterItem_15 : decode cX2_takeAfterItem 15 = .ok (.lookupswitch 41 #[(41, 36), (124, 25)], 25) := by decide +kernel
theorem dX2_takeAfterItem_40 : decode cX2_takeAfterItem 40 = .ok (.aload_n 0, 1) := by decide +kernel
theorem dX2_takeAfterItem_41 : decode cX2_takeAfterItem 41 = .ok (.invokevirtual 58, 3) := by decide +kernel
theorem dX2_takeAfterItem_44 : decode cX2_takeAfterItem 44 = .ok (.aload_n 0, 1) := by decide +kernel
theorem dX2_takeAfterItem_45 : decode cX2_takeAfterItem 45 = .ok (.iconst 0, 1) := by decide +kernel
theorem dX2_takeAfterItem_46 : decode cX2_takeAfterItem 46 = .ok (.putfield 18, 3) := by decide +kernel
theorem dX2_takeAfterItem_49 : decode cX2_takeAfterItem 49 = .ok (.iconst 1, 1) := by decide +kernel
theorem dX2_takeAfterItem_50 : decode cX2_takeAfterItem 50 = .ok (.ireturn, 1) := by decide +kernel
theorem dX2_takeAfterItem_51 : decode cX2_takeAfterItem 51 = .ok (.aload_n 0, 1) := by decide +kernel
theorem dX2_takeAfterItem_52 : decode cX2_takeAfterItem 52 = .ok (.invokevirtual 111, 3) := by decide +kernel
theorem dX2_takeAfterItem_55 : decode cX2_takeAfterItem 55 = .ok (.ireturn, 1) := by decide +kernel
theorem dX2_takeAfterItem_56 : decode cX2_takeAfterItem 56 = .ok (.aload_n 0, 1) := by decide +kernel
theorem dX2_takeAfterItem_57 : decode cX2_takeAfterItem 57 = .ok (.iload_n 1, 1) := by decide +kernel
theorem dX2_takeAfterItem_58 : decode cX2_takeAfterItem 58 = .ok (.invokevirtual 61, 3) := by decide +kernel
theorem dX2_takeAfterItem_61 : decode cX2_takeAfterItem 61 = .ok (.ireturn, 1) := by decide +kernel
theorem dX2_takeSuffix_0 : decode cX2_takeSuffix 0 = .ok (.iload_n 1, 1) := by decide +kernel
theorem dX2_takeSuffix_1 : decode cX2_takeSuffix 1 = .ok (.lookupswitch 74 #[(42, 43), (43, 51), (60, 67), (63, 59)], 43) := by decide +kernel
theorem dX2_takeSuffix_44 : decode cX2_takeSuffix 44 = .ok (.aload_n 0, 1) := by decide +kernel
theorem dX2_takeSuffix_45 : decode cX2_takeSuffix 45 = .ok (.iconst 4, 1) := by decide +kernel
theorem dX2_takeSuffix_46 : decode cX2_takeSuffix 46 = .ok (.iconst 0, 1) := by decide +kernel
theorem dX2_takeSuffix_47 : decode cX2_takeSuffix 47 = .ok (.invokevirtual 101, 3) := by decide +kernel
theorem dX2_takeSuffix_50 : decode cX2_takeSuffix 50 = .ok (.iconst 1, 1) := by decide +kernel
theorem dX2_takeSuffix_51 : decode cX2_takeSuffix 51 = .ok (.ireturn, 1) := by decide +kernel
theorem dX2_takeSuffix_52 : decode cX2_takeSuffix 52 = .ok (.aload_n 0, 1) := by decide +kernel
theorem dX2_takeSuffix_53 : decode cX2_takeSuffix 53 = .ok (.iconst 5, 1) := by decide +kernel
theorem dX2_takeSuffix_54 : decode cX2_takeSuffix 54 = .ok (.iconst 0, 1) := by decide +kernel
theorem dX2_takeSuffix_55 : decode cX2_takeSuffix 55 = .ok (.invokevirtual 101, 3) := by decide +kernel
theorem dX2_takeSuffix_58 : decode cX2_takeSuffix 58 = .ok (.iconst 1, 1) := by decide +kernel
theorem dX2_takeSuffix_59 : decode cX2_takeSuffix 59 = .ok (.ireturn, 1) := by decide +kernel
theorem dX2_takeSuffix_60 : decode cX2_takeSuffix 60 = .ok (.aload_n 0, 1) := by decide +kernel
theorem dX2_takeSuffix_61 : decode cX2_takeSuffix 61 = .ok (.iconst 3, 1) := by decide +kernel
theorem dX2_takeSuffix_62 : decode cX2_takeSuffix 62 = .ok (.iconst 0, 1) := by decide +kernel
theorem dX2_takeSuffix_63 : decode cX2_takeSuffix 63 = .ok (.invokevirtual 101, 3) := by decide +kernel
theorem dX2_takeSuffix_66 : decode cX2_takeSuffix 66 = .ok (.iconst 1, 1) := by decide +kernel
theorem dX2_takeSuffix_67 : decode cX2_takeSuffix 67 = .ok (.ireturn, 1) := by decide +kernel
theorem dX2_takeSuffix_68 : decode cX2_takeSuffix 68 = .ok (.aload_n 0, 1) := by decide +kernel
theorem dX2_takeSuffix_69 : decode cX2_takeSuffix 69 = .ok (.iconst 2, 1) := by decide +kernel
theorem dX2_takeSuffix_70 : decode cX2_takeSuffix 70 = .ok (.putfield 18, 3) := by decide +kernel
theorem dX2_takeSuffix_73 : decode cX2_takeSuffix 73 = .ok (.iconst 1, 1) := by decide +kernel
theorem dX2_takeSuffix_74 : decode cX2_takeSuffix 74 = .ok (.ireturn, 1) := by decide +kernel
theorem dX2_takeSuffix_75 : decode cX2_takeSuffix 75 = .ok (.iconst 0, 1) := by decide +kernel
theorem dX2_takeSuffix_76 : decode cX2_takeSuffix 76 = .ok (.ireturn, 1) := by decide +kernel
theorem dX2_takeClosing_0 : decode cX2_takeClosing 0 = .ok (.aload_n 0, 1) := by decide +kernel
theorem dX2_takeClosing_1 : decode cX2_takeClosing 1 = .ok (.getfield 22, 3) := by decide +kernel
theorem dX2_takeClosing_4 : decode cX2_takeClosing 4 = .ok (.ifCond .ne 5, 3) := by decide +kernel
theorem dX2_takeClosing_7 : decode cX2_takeClosing 7 = .ok (.iconst 0, 1) := by decide +kernel
theorem dX2_takeClosing_8 : decode cX2_takeClosing 8 = .ok (.ireturn, 1) := by decide +kernel
theorem dX2_takeClosing_9 : decode cX2_takeClosing 9 = .ok (.aload_n 0, 1) := by decide +kernel
theorem dX2_takeClosing_10 : decode cX2_takeClosing 10 = .ok (.invokevirtual 58, 3) := by decide +kernel
theorem dX2_takeClosing_13 : decode cX2_takeClosing 13 = .ok (.aload_n 0, 1) := by decide +kernel
theorem dX2_takeClosing_14 : decode cX2_takeClosing 14 = .ok (.getfield 32, 3) := by decide +kernel
theorem dX2_takeClosing_17 : decode cX2_takeClosing 17 = .ok (.aload_n 0, 1) := by decide +kernel
theorem dX2_takeClosing_18 : decode cX2_takeClosing 18 = .ok (.getfield 22, 3) := by decide +kernel
theorem dX2_takeClosing_21 : decode cX2_takeClosing 21 = .ok (.iaload, 1) := by decide +kernel
theorem dX2_takeClosing_22 : decode cX2_takeClosing 22 = .ok (.istore_n 1, 1) := by decide +kernel
theorem dX2_takeClosing_23 : decode cX2_takeClosing 23 = .ok (.aload_n 0, 1) := by decide +kernel
theorem dX2_takeClosing_24 : decode cX2_takeClosing 24 = .ok (.dup, 1) := by decide +kernel
theorem dX2_takeClosing_25 : decode cX2_takeClosing 25 = .ok (.getfield 22, 3) := by decide +kernel
theorem dX2_takeClosing_28 : decode cX2_takeClosing 28 = .ok (.iconst 1, 1) := by decide +kernel
theorem dX2_takeClosing_29 : decode cX2_takeClosing 29 = .ok (.isub, 1) := by decide +kernel
theorem dX2_takeClosing_30 : decode cX2_takeClosing 30 = .ok (.putfield 22, 3) := by decide +kernel
theorem dX2_takeClosing_33 : decode cX2_takeClosing 33 = .ok (.aload_n 0, 1) := by decide +kernel
theorem dX2_takeClosing_34 : decode cX2_takeClosing 34 = .ok (.getfield 25, 3) := by decide +kernel
theorem dX2_takeClosing_37 : decode cX2_takeClosing 37 = .ok (.aload_n 0, 1) := by decide +kernel
theorem dX2_takeClosing_38 : decode cX2_takeClosing 38 = .ok (.getfield 22, 3) := by decide +kernel
theorem dX2_takeClosing_41 : decode cX2_takeClosing 41 = .ok (.iload_n 1, 1) := by decide +kernel
theorem dX2_takeClosing_42 : decode cX2_takeClosing 42 = .ok (.iastore, 1) := by decide +kernel
theorem dX2_takeClosing_43 : decode cX2_takeClosing 43 = .ok (.aload_n 0, 1) := by decide +kernel
theorem dX2_takeClosing_44 : decode cX2_takeClosing 44 = .ok (.iconst 1, 1) := by decide +kernel
theorem dX2_takeClosing_45 : decode cX2_takeClosing 45 = .ok (.putfield 18, 3) := by decide +kernel
theorem dX2_takeClosing_48 : decode cX2_takeClosing 48 = .ok (.iconst 1, 1) := by decide +kernel
theorem dX2_takeClosing_49 : decode cX2_takeClosing 49 = .ok (.ireturn, 1) := by decide +kernel
theorem dX2_beginBracket_0 : decode cX2_beginBracket 0 = .ok (.aload_n 0, 1) := by decide +kernel
theorem dX2_beginBracket_1 : decode cX2_beginBracket 1 = .ok (.getfield 25, 3) := by decide +kernel
theorem dX2_beginBracket_4 : decode cX2_beginBracket 4 = .ok (.aload_n 0, 1) := by decide +kernel
theorem dX2_beginBracket_5 : decode cX2_beginBracket 5 = .ok (.getfield 22, 3) := by decide +kernel
theorem dX2_beginBracket_8 : decode cX2_beginBracket 8 = .ok (.iconst (-1), 1) := by decide +kernel
theorem dX2_beginBracket_9 : decode cX2_beginBracket 9 = .ok (.iastore, 1) := by decide +kernel
theorem dX2_beginBracket_10 : decode cX2_beginBracket 10 = .ok (.aload_n 0, 1) := by decide +kernel
theorem dX2_beginBracket_11 : decode cX2_beginBracket 11 = .ok (.getfield 29, 3) := by decide +kernel
theorem dX2_beginBracket_14 : decode cX2_beginBracket 14 = .ok (.aload_n 0, 1) := by decide +kernel
theorem dX2_beginBracket_15 : decode cX2_beginBracket 15 = .ok (.getfield 22, 3) := by decide +kernel
theorem dX2_beginBracket_18 : decode cX2_beginBracket 18 = .ok (.iconst (-1), 1) := by decide +kernel
theorem dX2_beginBracket_19 : decode cX2_beginBracket 19 = .ok (.iastore, 1) := by decide +kernel
theorem dX2_beginBracket_20 : decode cX2_beginBracket 20 = .ok (.aload_n 0, 1) := by decide +kernel
theorem dX2_beginBracket_21 : decode cX2_beginBracket 21 = .ok (.getfield 32, 3) := by decide +kernel
theorem dX2_beginBracket_24 : decode cX2_beginBracket 24 = .ok (.aload_n 0, 1) := by decide +kernel
theorem dX2_beginBracket_25 : decode cX2_beginBracket 25 = .ok (.getfield 22, 3) := by decide +kernel
theorem dX2_beginBracket_28 : decode cX2_beginBracket 28 = .ok (.iconst (-1), 1) := by decide +kernel
theorem dX2_beginBracket_29 : decode cX2_beginBracket 29 = .ok (.iastore, 1) := by decide +kernel
theorem dX2_beginBracket_30 : decode cX2_beginBracket 30 = .ok (.aload_n 0, 1) := by decide +kernel
theorem dX2_beginBracket_31 : decode cX2_beginBracket 31 = .ok (.iconst 0, 1) := by decide +kernel
theorem dX2_beginBracket_32 : decode cX2_beginBracket 32 = .ok (.putfield 18, 3) := by decide +kernel
theorem dX2_beginBracket_35 : decode cX2_beginBracket 35 = .ok (.return_, 1) := by decide +kernel
theorem dX2_endAtom_0 : decode cX2_endAtom 0 = .ok (.aload_n 0, 1) := by decide +kernel
theorem dX2_endAtom_1 : decode cX2_endAtom 1 = .ok (.getfield 25, 3) := by decide +kernel
theorem dX2_endAtom_4 : decode cX2_endAtom 4 = .ok (.aload_n 0, 1) := by decide +kernel
theorem dX2_endAtom_5 : decode cX2_endAtom 5 = .ok (.getfield 22, 3) := by decide +kernel
theorem dX2_endAtom_8 : decode cX2_endAtom 8 = .ok (.aload_n 0, 1) := by decide +kernel
theorem dX2_endAtom_9 : decode cX2_endAtom 9 = .ok (.getfield 12, 3) := by decide +kernel
theorem dX2_endAtom_12 : decode cX2_endAtom 12 = .ok (.iconst 0, 1) := by decide +kernel
theorem dX2_endAtom_13 : decode cX2_endAtom 13 = .ok (.iconst (-1), 1) := by decide +kernel
theorem dX2_endAtom_14 : decode cX2_endAtom 14 = .ok (.iconst (-1), 1) := by decide +kernel
theorem dX2_endAtom_15 : decode cX2_endAtom 15 = .ok (.iload_n 1, 1) := by decide +kernel
theorem dX2_endAtom_16 : decode cX2_endAtom 16 = .ok (.invokevirtual 114, 3) := by decide +kernel
theorem dX2_endAtom_19 : decode cX2_endAtom 19 = .ok (.iastore, 1) := by decide +kernel
theorem dX2_endAtom_20 : decode cX2_endAtom 20 = .ok (.aload_n 0, 1) := by decide +kernel
theorem dX2_endAtom_21 : decode cX2_endAtom 21 = .ok (.iconst 1, 1) := by decide +kernel
theorem dX2_endAtom_22 : decode cX2_endAtom 22 = .ok (.putfield 18, 3) := by decide +kernel
theorem dX2_endAtom_25 : decode cX2_endAtom 25 = .ok (.return_, 1) := by decide +kernel
theorem dX2_endSuffix_0 : decode cX2_endSuffix 0 = .ok (.aload_n 0, 1) := by decide +kernel
theorem dX2_endSuffix_1 : decode cX2_endSuffix 1 = .ok (.getfield 25, 3) := by decide +kernel
theorem dX2_endSuffix_4 : decode cX2_endSuffix 4 = .ok (.aload_n 0, 1) := by decide +kernel
theorem dX2_endSuffix_5 : decode cX2_endSuffix 5 = .ok (.getfield 22, 3) := by decide +kernel
theorem dX2_endSuffix_8 : decode cX2_endSuffix 8 = .ok (.aload_n 0, 1) := by decide +kernel
theorem dX2_endSuffix_9 : decode cX2_endSuffix 9 = .ok (.getfield 12, 3) := by decide +kernel
theorem dX2_endSuffix_12 : decode cX2_endSuffix 12 = .ok (.iload_n 1, 1) := by decide +kernel
theorem dX2_endSuffix_13 : decode cX2_endSuffix 13 = .ok (.aload_n 0, 1) := by decide +kernel
theorem dX2_endSuffix_14 : decode cX2_endSuffix 14 = .ok (.getfield 25, 3) := by decide +kernel
theorem dX2_endSuffix_17 : decode cX2_endSuffix 17 = .ok (.aload_n 0, 1) := by decide +kernel
theorem dX2_endSuffix_18 : decode cX2_endSuffix 18 = .ok (.getfield 22, 3) := by decide +kernel
theorem dX2_endSuffix_21 : decode cX2_endSuffix 21 = .ok (.iaload, 1) := by decide +kernel
theorem dX2_endSuffix_22 : decode cX2_endSuffix 22 = .ok (.iconst (-1), 1) := by decide +kernel
theorem dX2_endSuffix_23 : decode cX2_endSuffix 23 = .ok (.iload_n 2, 1) := by decide +kernel
theorem dX2_endSuffix_24 : decode cX2_endSuffix 24 = .ok (.invokevirtual 114, 3) := by decide +kernel
theorem dX2_endSuffix_27 : decode cX2_endSuffix 27 = .ok (.iastore, 1) := by decide +kernel
theorem dX2_endSuffix_28 : decode cX2_endSuffix 28 = .ok (.aload_n 0, 1) := by decide +kernel
theorem dX2_endSuffix_29 : decode cX2_endSuffix 29 = .ok (.iconst 1, 1) := by decide +kernel
theorem dX2_endSuffix_30 : decode cX2_endSuffix 30 = .ok (.putfield 18, 3) := by decide +kernel
theorem dX2_endSuffix_33 : decode cX2_endSuffix 33 = .ok (.return_, 1) := by decide +kernel
theorem dX2_endItem_0 : decode cX2_endItem 0 = .ok (.aload_n 0, 1) := by decide +kernel
theorem dX2_endItem_1 : decode cX2_endItem 1 = .ok (.getfield 29, 3) := by decide +kernel
theorem dX2_endItem_4 : decode cX2_endItem 4 = .ok (.aload_n 0, 1) := by decide +kernel
theorem dX2_endItem_5 : decode cX2_endItem 5 = .ok (.getfield 22, 3) := by decide +kernel
theorem dX2_endItem_8 : decode cX2_endItem 8 = .ok (.iaload, 1) := by decide +kernel
theorem dX2_endItem_9 : decode cX2_endItem 9 = .ok (.istore_n 1, 1) := by decide +kernel
theorem dX2_endItem_10 : decode cX2_endItem 10 = .ok (.aload_n 0, 1) := by decide +kernel
theorem dX2_endItem_11 : decode cX2_endItem 11 = .ok (.getfield 25, 3) := by decide +kernel
theorem dX2_endItem_14 : decode cX2_endItem 14 = .ok (.aload_n 0, 1) := by decide +kernel
theorem dX2_endItem_15 : decode cX2_endItem 15 = .ok (.getfield 22, 3) := by decide +kernel
theorem dX2_endItem_18 : decode cX2_endItem 18 = .ok (.iaload, 1) := by decide +kernel
theorem dX2_endItem_19 : decode cX2_endItem 19 = .ok (.istore_n 2, 1) := by decide +kernel
theorem dX2_endItem_20 : decode cX2_endItem 20 = .ok (.aload_n 0, 1) := by decide +kernel
theorem dX2_endItem_21 : decode cX2_endItem 21 = .ok (.getfield 29, 3) := by decide +kernel
theorem dX2_endItem_24 : decode cX2_endItem 24 = .ok (.aload_n 0, 1) := by decide +kernel
theorem dX2_endItem_25 : decode cX2_endItem 25 = .ok (.getfield 22, 3) := by decide +kernel
theorem dX2_endItem_28 : decode cX2_endItem 28 = .ok (.iload_n 1, 1) := by decide +kernel
theorem dX2_endItem_29 : decode cX2_endItem 29 = .ok (.iconst (-1), 1) := by decide +kernel
theorem dX2_endItem_30 : decode cX2_endItem 30 = .ok (.if_icmp .ne 7, 3) := by decide +kernel
theorem dX2_endItem_33 : decode cX2_endItem 33 = .ok (.iload_n 2, 1) := by decide +kernel
theorem dX2_endItem_34 : decode cX2_endItem 34 = .ok (.goto 14, 3) := by decide +kernel
theorem dX2_endItem_37 : decode cX2_endItem 37 = .ok (.aload_n 0, 1) := by decide +kernel
theorem dX2_endItem_38 : decode cX2_endItem 38 = .ok (.getfield 12, 3) := by decide +kernel
theorem dX2_endItem_41 : decode cX2_endItem 41 = .ok (.iconst 1, 1) := by decide +kernel
theorem dX2_endItem_42 : decode cX2_endItem 42 = .ok (.iload_n 1, 1) := by decide +kernel
theorem dX2_endItem_43 : decode cX2_endItem 43 = .ok (.iload_n 2, 1) := by decide +kernel
theorem dX2_endItem_44 : decode cX2_endItem 44 = .ok (.iconst 0, 1) := by decide +kernel
theorem dX2_endItem_45 : decode cX2_endItem 45 = .ok (.invokevirtual 114, 3) := by decide +kernel
theorem dX2_endItem_48 : decode cX2_endItem 48 = .ok (.iastore, 1) := by decide +kernel
theorem dX2_endItem_49 : decode cX2_endItem 49 = .ok (.return_, 1) := by decide +kernel
theorem dX2_endRow_0 : decode cX2_endRow 0 = .ok (.aload_n 0, 1) := by decide +kernel
theorem dX2_endRow_1 : decode cX2_endRow 1 = .ok (.getfield 32, 3) := by decide +kernel
theorem dX2_endRow_4 : decode cX2_endRow 4 = .ok (.aload_n 0, 1) := by decide +kernel
theorem dX2_endRow_5 : decode cX2_endRow 5 = .ok (.getfield 22, 3) := by decide +kernel
theorem dX2_endRow_8 : decode cX2_endRow 8 = .ok (.iaload, 1) := by decide +kernel
theorem dX2_endRow_9 : decode cX2_endRow 9 = .ok (.istore_n 1, 1) := by decide +kernel
theorem dX2_endRow_10 : decode cX2_endRow 10 = .ok (.aload_n 0, 1) := by decide +kernel
theorem dX2_endRow_11 : decode cX2_endRow 11 = .ok (.getfield 29, 3) := by decide +kernel
theorem dX2_endRow_14 : decode cX2_endRow 14 = .ok (.aload_n 0, 1) := by decide +kernel
theorem dX2_endRow_15 : decode cX2_endRow 15 = .ok (.getfield 22, 3) := by decide +kernel
theorem dX2_endRow_18 : decode cX2_endRow 18 = .ok (.iaload, 1) := by decide +kernel
theorem dX2_endRow_19 : decode cX2_endRow 19 = .ok (.istore_n 2, 1) := by decide +kernel
theorem dX2_endRow_20 : decode cX2_endRow 20 = .ok (.aload_n 0, 1) := by decide +kernel
theorem dX2_endRow_21 : decode cX2_endRow 21 = .ok (.getfield 32, 3) := by decide +kernel
theorem dX2_endRow_24 : decode cX2_endRow 24 = .ok (.aload_n 0, 1) := by decide +kernel
theorem dX2_endRow_25 : decode cX2_endRow 25 = .ok (.getfield 22, 3) := by decide +kernel
theorem dX2_endRow_28 : decode cX2_endRow 28 = .ok (.iload_n 1, 1) := by decide +kernel
theorem dX2_endRow_29 : decode cX2_endRow 29 = .ok (.iconst (-1), 1) := by decide +kernel
theorem dX2_endRow_30 : decode cX2_endRow 30 = .ok (.if_icmp .ne 7, 3) := by decide +kernel
theorem dX2_endRow_33 : decode cX2_endRow 33 = .ok (.iload_n 2, 1) := by decide +kernel
theorem dX2_endRow_34 : decode cX2_endRow 34 = .ok (.goto 14, 3) := by decide +kernel
theorem dX2_endRow_37 : decode cX2_endRow 37 = .ok (.aload_n 0, 1) := by decide +kernel
theorem dX2_endRow_38 : decode cX2_endRow 38 = .ok (.getfield 12, 3) := by decide +kernel
theorem dX2_endRow_41 : decode cX2_endRow 41 = .ok (.iconst 2, 1) := by decide +kernel
theorem dX2_endRow_42 : decode cX2_endRow 42 = .ok (.iload_n 1, 1) := by decide +kernel
theorem dX2_endRow_43 : decode cX2_endRow 43 = .ok (.iload_n 2, 1) := by decide +kernel
theorem dX2_endRow_44 : decode cX2_endRow 44 = .ok (.iconst 0, 1) := by decide +kernel
theorem dX2_endRow_45 : decode cX2_endRow 45 = .ok (.invokevirtual 114, 3) := by decide +kernel
theorem dX2_endRow_48 : decode cX2_endRow 48 = .ok (.iastore, 1) := by decide +kernel
theorem dX2_endRow_49 : decode cX2_endRow 49 = .ok (.aload_n 0, 1) := by decide +kernel
theorem dX2_endRow_50 : decode cX2_endRow 50 = .ok (.getfield 29, 3) := by decide +kernel
theorem dX2_endRow_53 : decode cX2_endRow 53 = .ok (.aload_n 0, 1) := by decide +kernel
theorem dX2_endRow_54 : decode cX2_endRow 54 = .ok (.getfield 22, 3) := by decide +kernel
theorem dX2_endRow_57 : decode cX2_endRow 57 = .ok (.iconst (-1), 1) := by decide +kernel
theorem dX2_endRow_58 : decode cX2_endRow 58 = .ok (.iastore, 1) := by decide +kernel
theorem dX2_endRow_59 : decode cX2_endRow 59 = .ok (.return_, 1) := by decide +kernel
theorem dX2_bitOf_0 : decode cX2_bitOf 0 = .ok (.iconst 1, 1) := by decide +kernel
theorem dX2_bitOf_1 : decode cX2_bitOf 1 = .ok (.iload_n 0, 1) := by decide +kernel
theorem dX2_bitOf_2 : decode cX2_bitOf 2 = .ok (.bipush 97, 2) := by decide +kernel
theorem dX2_bitOf_4 : decode cX2_bitOf 4 = .ok (.isub, 1) := by decide +kernel
theorem dX2_bitOf_5 : decode cX2_bitOf 5 = .ok (.ishl, 1) := by decide +kernel
theorem dX2_bitOf_6 : decode cX2_bitOf 6 = .ok (.ireturn, 1) := by decide +kernel
theorem dX3_init_0 : decode cX3_init 0 = .ok (.aload_n 0, 1) := by decide +kernel
theorem dX3_init_1 : decode cX3_init 1 = .ok (.invokespecial 3, 3) := by decide +kernel
theorem dX3_init_4 : decode cX3_init 4 = .ok (.aload_n 0, 1) := by decide +kernel
theorem dX3_init_5 : decode cX3_init 5 = .ok (.bipush 24, 2) := by decide +kernel
theorem dX3_init_7 : decode cX3_init 7 = .ok (.newarray .char, 2) := by decide +kernel
theorem dX3_init_9 : decode cX3_init 9 = .ok (.putfield 9, 3) := by decide +kernel
theorem dX3_init_12 : decode cX3_init 12 = .ok (.aload_n 0, 1) := by decide +kernel
theorem dX3_init_13 : decode cX3_init 13 = .ok (.iconst 0, 1) := by decide +kernel
theorem dX3_init_14 : decode cX3_init 14 = .ok (.putfield 15, 3) := by decide +kernel
theorem dX3_init_17 : decode cX3_init 17 = .ok (.return_, 1) := by decide +kernel
theorem dX3_append_0 : decode cX3_append 0 = .ok (.aload_n 0, 1) := by decide +kernel
theorem dX3_append_1 : decode cX3_append 1 = .ok (.getfield 15, 3) := by decide +kernel
theorem dX3_append_4 : decode cX3_append 4 = .ok (.aload_n 0, 1) := by decide +kernel
theorem dX3_append_5 : decode cX3_append 5 = .ok (.getfield 9, 3) := by decide +kernel
theorem dX3_append_8 : decode cX3_append 8 = .ok (.arraylength, 1) := by decide +kernel
theorem dX3_append_9 : decode cX3_append 9 = .ok (.if_icmp .ge 23, 3) := by decide +kernel
theorem dX3_append_12 : decode cX3_append 12 = .ok (.aload_n 0, 1) := by decide +kernel
theorem dX3_append_13 : decode cX3_append 13 = .ok (.getfield 9, 3) := by decide +kernel
theorem dX3_append_16 : decode cX3_append 16 = .ok (.aload_n 0, 1) := by decide +kernel
theorem dX3_append_17 : decode cX3_append 17 = .ok (.getfield 15, 3) := by decide +kernel
theorem dX3_append_20 : decode cX3_append 20 = .ok (.iload_n 1, 1) := by decide +kernel
theorem dX3_append_21 : decode cX3_append 21 = .ok (.castore, 1) := by decide +kernel
theorem dX3_append_22 : decode cX3_append 22 = .ok (.aload_n 0, 1) := by decide +kernel
theorem dX3_append_23 : decode cX3_append 23 = .ok (.dup, 1) := by decide +kernel
theorem dX3_append_24 : decode cX3_append 24 = .ok (.getfield 15, 3) := by decide +kernel
theorem dX3_append_27 : decode cX3_append 27 = .ok (.iconst 1, 1) := by decide +kernel
theorem dX3_append_28 : decode cX3_append 28 = .ok (.iadd, 1) := by decide +kernel
theorem dX3_append_29 : decode cX3_append 29 = .ok (.putfield 15, 3) := by decide +kernel
theorem dX3_append_32 : decode cX3_append 32 = .ok (.return_, 1) := by decide +kernel
theorem dX3_clear_0 : decode cX3_clear 0 = .ok (.aload_n 0, 1) := by decide +kernel
theorem dX3_clear_1 : decode cX3_clear 1 = .ok (.iconst 0, 1) := by decide +kernel
theorem dX3_clear_2 : decode cX3_clear 2 = .ok (.putfield 15, 3) := by decide +kernel
theorem dX3_clear_5 : decode cX3_clear 5 = .ok (.return_, 1) := by decide +kernel
theorem dX3_letterAt_0 : decode cX3_letterAt 0 = .ok (.iload_n 1, 1) := by decide +kernel
theorem dX3_letterAt_1 : decode cX3_letterAt 1 = .ok (.ifCond .lt 20, 3) := by decide +kernel
theorem dX3_letterAt_4 : decode cX3_letterAt 4 = .ok (.iload_n 1, 1) := by decide +kernel
theorem dX3_letterAt_5 : decode cX3_letterAt 5 = .ok (.aload_n 0, 1) := by decide +kernel
theorem dX3_letterAt_6 : decode cX3_letterAt 6 = .ok (.getfield 15, 3) := by decide +kernel
theorem dX3_letterAt_9 : decode cX3_letterAt 9 = .ok (.if_icmp .ge 12, 3) := by decide +kernel
theorem dX3_letterAt_12 : decode cX3_letterAt 12 = .ok (.aload_n 0, 1) := by decide +kernel
theorem dX3_letterAt_13 : decode cX3_letterAt 13 = .ok (.getfield 9, 3) := by decide +kernel
theorem dX3_letterAt_16 : decode cX3_letterAt 16 = .ok (.iload_n 1, 1) := by decide +kernel
theorem dX3_letterAt_17 : decode cX3_letterAt 17 = .ok (.caload, 1) := by decide +kernel
theorem dX3_letterAt_18 : decode cX3_letterAt 18 = .ok (.goto 4, 3) := by decide +kernel
theorem dX3_letterAt_21 : decode cX3_letterAt 21 = .ok (.iconst 0, 1) := by decide +kernel
theorem dX3_letterAt_22 : decode cX3_letterAt 22 = .ok (.ireturn, 1) := by decide +kernel
theorem dX3_copyFrom_0 : decode cX3_copyFrom 0 = .ok (.aload_n 0, 1) := by decide +kernel
theorem dX3_copyFrom_1 : decode cX3_copyFrom 1 = .ok (.invokevirtual 19, 3) := by decide +kernel
theorem dX3_copyFrom_4 : decode cX3_copyFrom 4 = .ok (.iconst 0, 1) := by decide +kernel
theorem dX3_copyFrom_5 : decode cX3_copyFrom 5 = .ok (.istore_n 2, 1) := by decide +kernel
theorem dX3_copyFrom_6 : decode cX3_copyFrom 6 = .ok (.iload_n 2, 1) := by decide +kernel
theorem dX3_copyFrom_7 : decode cX3_copyFrom 7 = .ok (.aload_n 1, 1) := by decide +kernel
theorem dX3_copyFrom_8 : decode cX3_copyFrom 8 = .ok (.getfield 15, 3) := by decide +kernel
theorem dX3_copyFrom_11 : decode cX3_copyFrom 11 = .ok (.if_icmp .ge 18, 3) := by decide +kernel
theorem dX3_copyFrom_14 : decode cX3_copyFrom 14 = .ok (.aload_n 0, 1) := by decide +kernel
theorem dX3_copyFrom_15 : decode cX3_copyFrom 15 = .ok (.aload_n 1, 1) := by decide +kernel
theorem dX3_copyFrom_16 : decode cX3_copyFrom 16 = .ok (.iload_n 2, 1) := by decide +kernel
theorem dX3_copyFrom_17 : decode cX3_copyFrom 17 = .ok (.invokevirtual 22, 3) := by decide +kernel
theorem dX3_copyFrom_20 : decode cX3_copyFrom 20 = .ok (.invokevirtual 26, 3) := by decide +kernel
theorem dX3_copyFrom_23 : decode cX3_copyFrom 23 = .ok (.iinc 2 1, 3) := by decide +kernel
theorem dX3_copyFrom_26 : decode cX3_copyFrom 26 = .ok (.goto (-20), 3) := by decide +kernel
theorem dX3_copyFrom_29 : decode cX3_copyFrom 29 = .ok (.return_, 1) := by decide +kernel
theorem dX3_compareWith_0 : decode cX3_compareWith 0 = .ok (.aload_n 0, 1) := by decide +kernel
theorem dX3_compareWith_1 : decode cX3_compareWith 1 = .ok (.getfield 15, 3) := by decide +kernel
theorem dX3_compareWith_4 : decode cX3_compareWith 4 = .ok (.aload_n 1, 1) := by decide +kernel
theorem dX3_compareWith_5 : decode cX3_compareWith 5 = .ok (.getfield 15, 3) := by decide +kernel
theorem dX3_compareWith_8 : decode cX3_compareWith 8 = .ok (.invokestatic 30, 3) := by decide +kernel
theorem dX3_compareWith_11 : decode cX3_compareWith 11 = .ok (.istore_n 2, 1) := by decide +kernel
theorem dX3_compareWith_12 : decode cX3_compareWith 12 = .ok (.iconst 0, 1) := by decide +kernel
theorem dX3_compareWith_13 : decode cX3_compareWith 13 = .ok (.istore_n 3, 1) := by decide +kernel
theorem dX3_compareWith_14 : decode cX3_compareWith 14 = .ok (.iload_n 3, 1) := by decide +kernel
theorem dX3_compareWith_15 : decode cX3_compareWith 15 = .ok (.iload_n 2, 1) := by decide +kernel
theorem dX3_compareWith_16 : decode cX3_compareWith 16 = .ok (.if_icmp .ge 30, 3) := by decide +kernel
theorem dX3_compareWith_19 : decode cX3_compareWith 19 = .ok (.aload_n 0, 1) := by decide +kernel
theorem dX3_compareWith_20 : decode cX3_compareWith 20 = .ok (.iload_n 3, 1) := by decide +kernel
theorem dX3_compareWith_21 : decode cX3_compareWith 21 = .ok (.invokevirtual 22, 3) := by decide +kernel
theorem dX3_compareWith_24 : decode cX3_compareWith 24 = .ok (.aload_n 1, 1) := by decide +kernel
theorem dX3_compareWith_25 : decode cX3_compareWith 25 = .ok (.iload_n 3, 1) := by decide +kernel
theorem dX3_compareWith_26 : decode cX3_compareWith 26 = .ok (.invokevirtual 22, 3) := by decide +kernel
theorem dX3_compareWith_29 : decode cX3_compareWith 29 = .ok (.isub, 1) := by decide +kernel
theorem dX3_compareWith_30 : decode cX3_compareWith 30 = .ok (.istore 4, 2) := by decide +kernel
theorem dX3_compareWith_32 : decode cX3_compareWith 32 = .ok (.iload 4, 2) := by decide +kernel
theorem dX3_compareWith_34 : decode cX3_compareWith 34 = .ok (.ifCond .eq 6, 3) := by decide +kernel
theorem dX3_compareWith_37 : decode cX3_compareWith 37 = .ok (.iload 4, 2) := by decide +kernel
theorem dX3_compareWith_39 : decode cX3_compareWith 39 = .ok (.ireturn, 1) := by decide +kernel
theorem dX3_compareWith_40 : decode cX3_compareWith 40 = .ok (.iinc 3 1, 3) := by decide +kernel
theorem dX3_compareWith_43 : decode cX3_compareWith 43 = .ok (.goto (-29), 3) := by decide +kernel
theorem dX3_compareWith_46 : decode cX3_compareWith 46 = .ok (.aload_n 0, 1) := by decide +kernel
theorem dX3_compareWith_47 : decode cX3_compareWith 47 = .ok (.getfield 15, 3) := by decide +kernel
theorem dX3_compareWith_50 : decode cX3_compareWith 50 = .ok (.aload_n 1, 1) := by decide +kernel
theorem dX3_compareWith_51 : decode cX3_compareWith 51 = .ok (.getfield 15, 3) := by decide +kernel
theorem dX3_compareWith_54 : decode cX3_compareWith 54 = .ok (.isub, 1) := by decide +kernel
theorem dX3_compareWith_55 : decode cX3_compareWith 55 = .ok (.ireturn, 1) := by decide +kernel
theorem dX4_init_0 : decode cX4_init 0 = .ok (.aload_n 0, 1) := by decide +kernel
theorem dX4_init_1 : decode cX4_init 1 = .ok (.invokespecial 3, 3) := by decide +kernel
theorem dX4_init_4 : decode cX4_init 4 = .ok (.aload_n 0, 1) := by decide +kernel
theorem dX4_init_5 : decode cX4_init 5 = .ok (.bipush 24, 2) := by decide +kernel
theorem dX4_init_7 : decode cX4_init 7 = .ok (.newarray .int, 2) := by decide +kernel
theorem dX4_init_9 : decode cX4_init 9 = .ok (.putfield 9, 3) := by decide +kernel
theorem dX4_init_12 : decode cX4_init 12 = .ok (.aload_n 0, 1) := by decide +kernel
theorem dX4_init_13 : decode cX4_init 13 = .ok (.bipush 24, 2) := by decide +kernel
theorem dX4_init_15 : decode cX4_init 15 = .ok (.newarray .int, 2) := by decide +kernel
theorem dX4_init_17 : decode cX4_init 17 = .ok (.putfield 15, 3) := by decide +kernel
theorem dX4_init_20 : decode cX4_init 20 = .ok (.aload_n 0, 1) := by decide +kernel
theorem dX4_init_21 : decode cX4_init 21 = .ok (.bipush 24, 2) := by decide +kernel
theorem dX4_init_23 : decode cX4_init 23 = .ok (.newarray .int, 2) := by decide +kernel
theorem dX4_init_25 : decode cX4_init 25 = .ok (.putfield 18, 3) := by decide +kernel
theorem dX4_init_28 : decode cX4_init 28 = .ok (.aload_n 0, 1) := by decide +kernel
theorem dX4_init_29 : decode cX4_init 29 = .ok (.bipush 24, 2) := by decide +kernel
theorem dX4_init_31 : decode cX4_init 31 = .ok (.newarray .int, 2) := by decide +kernel
theorem dX4_init_33 : decode cX4_init 33 = .ok (.putfield 21, 3) := by decide +kernel
theorem dX4_init_36 : decode cX4_init 36 = .ok (.aload_n 0, 1) := by decide +kernel
theorem dX4_init_37 : decode cX4_init 37 = .ok (.iconst 0, 1) := by decide +kernel
theorem dX4_init_38 : decode cX4_init 38 = .ok (.putfield 24, 3) := by decide +kernel
theorem dX4_init_41 : decode cX4_init 41 = .ok (.return_, 1) := by decide +kernel
theorem dX4_clear_0 : decode cX4_clear 0 = .ok (.aload_n 0, 1) := by decide +kernel
theorem dX4_clear_1 : decode cX4_clear 1 = .ok (.iconst 0, 1) := by decide +kernel
theorem dX4_clear_2 : decode cX4_clear 2 = .ok (.putfield 24, 3) := by decide +kernel
theorem dX4_clear_5 : decode cX4_clear 5 = .ok (.return_, 1) := by decide +kernel
theorem dX4_put_0 : decode cX4_put 0 = .ok (.aload_n 0, 1) := by decide +kernel
theorem dX4_put_1 : decode cX4_put 1 = .ok (.getfield 24, 3) := by decide +kernel
theorem dX4_put_4 : decode cX4_put 4 = .ok (.istore 5, 2) := by decide +kernel
theorem dX4_put_6 : decode cX4_put 6 = .ok (.iload 5, 2) := by decide +kernel
theorem dX4_put_8 : decode cX4_put 8 = .ok (.bipush 24, 2) := by decide +kernel
theorem dX4_put_10 : decode cX4_put 10 = .ok (.if_icmp .ge 36, 3) := by decide +kernel
theorem dX4_put_13 : decode cX4_put 13 = .ok (.aload_n 0, 1) := by decide +kernel
theorem dX4_put_14 : decode cX4_put 14 = .ok (.getfield 9, 3) := by decide +kernel
theorem dX4_put_17 : decode cX4_put 17 = .ok (.iload 5, 2) := by decide +kernel
theorem dX4_put_19 : decode cX4_put 19 = .ok (.iload_n 1, 1) := by decide +kernel
theorem dX4_put_20 : decode cX4_put 20 = .ok (.iastore, 1) := by decide +kernel
theorem dX4_put_21 : decode cX4_put 21 = .ok (.aload_n 0, 1) := by decide +kernel
theorem dX4_put_22 : decode cX4_put 22 = .ok (.getfield 15, 3) := by decide +kernel
theorem dX4_put_25 : decode cX4_put 25 = .ok (.iload 5, 2) := by decide +kernel
theorem dX4_put_27 : decode cX4_put 27 = .ok (.iload_n 2, 1) := by decide +kernel
theorem dX4_put_28 : decode cX4_put 28 = .ok (.iastore, 1) := by decide +kernel
theorem dX4_put_29 : decode cX4_put 29 = .ok (.aload_n 0, 1) := by decide +kernel
theorem dX4_put_30 : decode cX4_put 30 = .ok (.getfield 18, 3) := by decide +kernel
theorem dX4_put_33 : decode cX4_put 33 = .ok (.iload 5, 2) := by decide +kernel
theorem dX4_put_35 : decode cX4_put 35 = .ok (.iload_n 3, 1) := by decide +kernel
theorem dX4_put_36 : decode cX4_put 36 = .ok (.iastore, 1) := by decide +kernel
theorem dX4_put_37 : decode cX4_put 37 = .ok (.aload_n 0, 1) := by decide +kernel
theorem dX4_put_38 : decode cX4_put 38 = .ok (.getfield 21, 3) := by decide +kernel
theorem dX4_put_41 : decode cX4_put 41 = .ok (.iload 5, 2) := by decide +kernel
theorem dX4_put_43 : decode cX4_put 43 = .ok (.iload 4, 2) := by decide +kernel
theorem dX4_put_45 : decode cX4_put 45 = .ok (.iastore, 1) := by decide +kernel
theorem dX4_put_46 : decode cX4_put 46 = .ok (.aload_n 0, 1) := by decide +kernel
theorem dX4_put_47 : decode cX4_put 47 = .ok (.dup, 1) := by decide +kernel
theorem dX4_put_48 : decode cX4_put 48 = .ok (.getfield 24, 3) := by decide +kernel
theorem dX4_put_51 : decode cX4_put 51 = .ok (.iconst 1, 1) := by decide +kernel
theorem dX4_put_52 : decode cX4_put 52 = .ok (.iadd, 1) := by decide +kernel
theorem dX4_put_53 : decode cX4_put 53 = .ok (.putfield 24, 3) := by decide +kernel
theorem dX4_put_56 : decode cX4_put 56 = .ok (.iload 5, 2) := by decide +kernel
theorem dX4_put_58 : decode cX4_put 58 = .ok (.ireturn, 1) := by decide +kernel
theorem dX4_changeValue_0 : decode cX4_changeValue 0 = .ok (.iload_n 1, 1) := by decide +kernel
theorem dX4_changeValue_1 : decode cX4_changeValue 1 = .ok (.ifCond .lt 16, 3) := by decide +kernel
theorem dX4_changeValue_4 : decode cX4_changeValue 4 = .ok (.iload_n 1, 1) := by decide +kernel
theorem dX4_changeValue_5 : decode cX4_changeValue 5 = .ok (.bipush 24, 2) := by decide +kernel
theorem dX4_changeValue_7 : decode cX4_changeValue 7 = .ok (.if_icmp .ge 10, 3) := by decide +kernel
theorem dX4_changeValue_10 : decode cX4_changeValue 10 = .ok (.aload_n 0, 1) := by decide +kernel
theorem dX4_changeValue_11 : decode cX4_changeValue 11 = .ok (.getfield 21, 3) := by decide +kernel
theorem dX4_changeValue_14 : decode cX4_changeValue 14 = .ok (.iload_n 1, 1) := by decide +kernel
theorem dX4_changeValue_15 : decode cX4_changeValue 15 = .ok (.iload_n 2, 1) := by decide +kernel
theorem dX4_changeValue_16 : decode cX4_changeValue 16 = .ok (.iastore, 1) := by decide +kernel
theorem dX4_changeValue_17 : decode cX4_changeValue 17 = .ok (.return_, 1) := by decide +kernel
theorem dX4_copyFrom_0 : decode cX4_copyFrom 0 = .ok (.aload_n 0, 1) := by decide +kernel
theorem dX4_copyFrom_1 : decode cX4_copyFrom 1 = .ok (.invokevirtual 28, 3) := by decide +kernel
theorem dX4_copyFrom_4 : decode cX4_copyFrom 4 = .ok (.aload_n 1, 1) := by decide +kernel
theorem dX4_copyFrom_5 : decode cX4_copyFrom 5 = .ok (.getfield 24, 3) := by decide +kernel
theorem dX4_copyFrom_8 : decode cX4_copyFrom 8 = .ok (.bipush 24, 2) := by decide +kernel
theorem dX4_copyFrom_10 : decode cX4_copyFrom 10 = .ok (.invokestatic 31, 3) := by decide +kernel
theorem dX4_copyFrom_13 : decode cX4_copyFrom 13 = .ok (.istore_n 2, 1) := by decide +kernel
theorem dX4_copyFrom_14 : decode cX4_copyFrom 14 = .ok (.iconst 0, 1) := by decide +kernel
theorem dX4_copyFrom_15 : decode cX4_copyFrom 15 = .ok (.istore_n 3, 1) := by decide +kernel
theorem dX4_copyFrom_16 : decode cX4_copyFrom 16 = .ok (.iload_n 3, 1) := by decide +kernel
theorem dX4_copyFrom_17 : decode cX4_copyFrom 17 = .ok (.iload_n 2, 1) := by decide +kernel
theorem dX4_copyFrom_18 : decode cX4_copyFrom 18 = .ok (.if_icmp .ge 38, 3) := by decide +kernel
theorem dX4_copyFrom_21 : decode cX4_copyFrom 21 = .ok (.aload_n 0, 1) := by decide +kernel
theorem dX4_copyFrom_22 : decode cX4_copyFrom 22 = .ok (.aload_n 1, 1) := by decide +kernel
theorem dX4_copyFrom_23 : decode cX4_copyFrom 23 = .ok (.getfield 9, 3) := by decide +kernel
theorem dX4_copyFrom_26 : decode cX4_copyFrom 26 = .ok (.iload_n 3, 1) := by decide +kernel
theorem dX4_copyFrom_27 : decode cX4_copyFrom 27 = .ok (.iaload, 1) := by decide +kernel
theorem dX4_copyFrom_28 : decode cX4_copyFrom 28 = .ok (.aload_n 1, 1) := by decide +kernel
theorem dX4_copyFrom_29 : decode cX4_copyFrom 29 = .ok (.getfield 15, 3) := by decide +kernel
theorem dX4_copyFrom_32 : decode cX4_copyFrom 32 = .ok (.iload_n 3, 1) := by decide +kernel
theorem dX4_copyFrom_33 : decode cX4_copyFrom 33 = .ok (.iaload, 1) := by decide +kernel
theorem dX4_copyFrom_34 : decode cX4_copyFrom 34 = .ok (.aload_n 1, 1) := by decide +kernel
theorem dX4_copyFrom_35 : decode cX4_copyFrom 35 = .ok (.getfield 18, 3) := by decide +kernel
theorem dX4_copyFrom_38 : decode cX4_copyFrom 38 = .ok (.iload_n 3, 1) := by decide +kernel
theorem dX4_copyFrom_39 : decode cX4_copyFrom 39 = .ok (.iaload, 1) := by decide +kernel
theorem dX4_copyFrom_40 : decode cX4_copyFrom 40 = .ok (.aload_n 1, 1) := by decide +kernel
theorem dX4_copyFrom_41 : decode cX4_copyFrom 41 = .ok (.getfield 21, 3) := by decide +kernel
theorem dX4_copyFrom_44 : decode cX4_copyFrom 44 = .ok (.iload_n 3, 1) := by decide +kernel
theorem dX4_copyFrom_45 : decode cX4_copyFrom 45 = .ok (.iaload, 1) := by decide +kernel
theorem dX4_copyFrom_46 : decode cX4_copyFrom 46 = .ok (.invokevirtual 37, 3) := by decide +kernel
theorem dX4_copyFrom_49 : decode cX4_copyFrom 49 = .ok (.pop, 1) := by decide +kernel
theorem dX4_copyFrom_50 : decode cX4_copyFrom 50 = .ok (.iinc 3 1, 3) := by decide +kernel
theorem dX4_copyFrom_53 : decode cX4_copyFrom 53 = .ok (.goto (-37), 3) := by decide +kernel
theorem dX4_copyFrom_56 : decode cX4_copyFrom 56 = .ok (.return_, 1) := by decide +kernel
theorem dX5_init_0 : decode cX5_init 0 = .ok (.aload_n 0, 1) := by decide +kernel
theorem dX5_init_1 : decode cX5_init 1 = .ok (.invokespecial 1, 3) := by decide +kernel
theorem dX5_init_4 : decode cX5_init 4 = .ok (.aload_n 0, 1) := by decide +kernel
theorem dX5_init_5 : decode cX5_init 5 = .ok (.bipush 40, 2) := by decide +kernel
theorem dX5_init_7 : decode cX5_init 7 = .ok (.newarray .char, 2) := by decide +kernel
theorem dX5_init_9 : decode cX5_init 9 = .ok (.putfield 9, 3) := by decide +kernel
theorem dX5_init_12 : decode cX5_init 12 = .ok (.aload_n 0, 1) := by decide +kernel
theorem dX5_init_13 : decode cX5_init 13 = .ok (.iconst 0, 1) := by decide +kernel
theorem dX5_init_14 : decode cX5_init 14 = .ok (.putfield 13, 3) := by decide +kernel
theorem dX5_init_17 : decode cX5_init 17 = .ok (.aload_n 0, 1) := by decide +kernel
theorem dX5_init_18 : decode cX5_init 18 = .ok (.new 17, 3) := by decide +kernel
theorem dX5_init_21 : decode cX5_init 21 = .ok (.dup, 1) := by decide +kernel
theorem dX5_init_22 : decode cX5_init 22 = .ok (.invokespecial 19, 3) := by decide +kernel
theorem dX5_init_25 : decode cX5_init 25 = .ok (.putfield 20, 3) := by decide +kernel
theorem dX5_init_28 : decode cX5_init 28 = .ok (.aload_n 0, 1) := by decide +kernel
theorem dX5_init_29 : decode cX5_init 29 = .ok (.new 24, 3) := by decide +kernel
theorem dX5_init_32 : decode cX5_init 32 = .ok (.dup, 1) := by decide +kernel
theorem dX5_init_33 : decode cX5_init 33 = .ok (.invokespecial 26, 3) := by decide +kernel
theorem dX5_init_36 : decode cX5_init 36 = .ok (.putfield 27, 3) := by decide +kernel
theorem dX5_init_39 : decode cX5_init 39 = .ok (.aload_n 0, 1) := by decide +kernel
theorem dX5_init_40 : decode cX5_init 40 = .ok (.new 31, 3) := by decide +kernel
theorem dX5_init_43 : decode cX5_init 43 = .ok (.dup, 1) := by decide +kernel
theorem dX5_init_44 : decode cX5_init 44 = .ok (.invokespecial 33, 3) := by decide +kernel
theorem dX5_init_47 : decode cX5_init 47 = .ok (.putfield 34, 3) := by decide +kernel
theorem dX5_init_50 : decode cX5_init 50 = .ok (.aload_n 0, 1) := by decide +kernel
theorem dX5_init_51 : decode cX5_init 51 = .ok (.new 38, 3) := by decide +kernel
theorem dX5_init_54 : decode cX5_init 54 = .ok (.dup, 1) := by decide +kernel
theorem dX5_init_55 : decode cX5_init 55 = .ok (.invokespecial 40, 3) := by decide +kernel
theorem dX5_init_58 : decode cX5_init 58 = .ok (.putfield 41, 3) := by decide +kernel
theorem dX5_init_61 : decode cX5_init 61 = .ok (.aload_n 0, 1) := by decide +kernel
theorem dX5_init_62 : decode cX5_init 62 = .ok (.new 45, 3) := by decide +kernel
theorem dX5_init_65 : decode cX5_init 65 = .ok (.dup, 1) := by decide +kernel
theorem dX5_init_66 : decode cX5_init 66 = .ok (.invokespecial 47, 3) := by decide +kernel
theorem dX5_init_69 : decode cX5_init 69 = .ok (.putfield 48, 3) := by decide +kernel
theorem dX5_init_72 : decode cX5_init 72 = .ok (.aload_n 0, 1) := by decide +kernel
theorem dX5_init_73 : decode cX5_init 73 = .ok (.iconst 0, 1) := by decide +kernel
theorem dX5_init_74 : decode cX5_init 74 = .ok (.putfield 52, 3) := by decide +kernel
theorem dX5_init_77 : decode cX5_init 77 = .ok (.aload_n 0, 1) := by decide +kernel
theorem dX5_init_78 : decode cX5_init 78 = .ok (.iconst (-1), 1) := by decide +kernel
theorem dX5_init_79 : decode cX5_init 79 = .ok (.putfield 55, 3) := by decide +kernel
theorem dX5_init_82 : decode cX5_init 82 = .ok (.aload_n 0, 1) := by decide +kernel
theorem dX5_init_83 : decode cX5_init 83 = .ok (.iconst (-1), 1) := by decide +kernel
theorem dX5_init_84 : decode cX5_init 84 = .ok (.putfield 58, 3) := by decide +kernel
theorem dX5_init_87 : decode cX5_init 87 = .ok (.return_, 1) := by decide +kernel
theorem dX5_type_0 : decode cX5_type 0 = .ok (.iload_n 1, 1) := by decide +kernel
theorem dX5_type_1 : decode cX5_type 1 = .ok (.bipush 33, 2) := by decide +kernel
theorem dX5_type_3 : decode cX5_type 3 = .ok (.if_icmp .lt 18, 3) := by decide +kernel
theorem dX5_type_6 : decode cX5_type 6 = .ok (.iload_n 1, 1) := by decide +kernel
theorem dX5_type_7 : decode cX5_type 7 = .ok (.bipush 126, 2) := by decide +kernel
theorem dX5_type_9 : decode cX5_type 9 = .ok (.if_icmp .gt 12, 3) := by decide +kernel
theorem dX5_type_12 : decode cX5_type 12 = .ok (.aload_n 0, 1) := by decide +kernel
theorem dX5_type_13 : decode cX5_type 13 = .ok (.getfield 13, 3) := by decide +kernel
theorem dX5_type_16 : decode cX5_type 16 = .ok (.bipush 40, 2) := by decide +kernel
theorem dX5_type_18 : decode cX5_type 18 = .ok (.if_icmp .lt 5, 3) := by decide +kernel
theorem dX5_type_21 : decode cX5_type 21 = .ok (.iconst 0, 1) := by decide +kernel
theorem dX5_type_22 : decode cX5_type 22 = .ok (.ireturn, 1) := by decide +kernel
theorem dX5_type_23 : decode cX5_type 23 = .ok (.aload_n 0, 1) := by decide +kernel
theorem dX5_type_24 : decode cX5_type 24 = .ok (.getfield 9, 3) := by decide +kernel
theorem dX5_type_27 : decode cX5_type 27 = .ok (.aload_n 0, 1) := by decide +kernel
theorem dX5_type_28 : decode cX5_type 28 = .ok (.getfield 13, 3) := by decide +kernel
theorem dX5_type_31 : decode cX5_type 31 = .ok (.iload_n 1, 1) := by decide +kernel
theorem dX5_type_32 : decode cX5_type 32 = .ok (.castore, 1) := by decide +kernel
theorem dX5_type_33 : decode cX5_type 33 = .ok (.aload_n 0, 1) := by decide +kernel
theorem dX5_type_34 : decode cX5_type 34 = .ok (.dup, 1) := by decide +kernel
theorem dX5_type_35 : decode cX5_type 35 = .ok (.getfield 13, 3) := by decide +kernel
theorem dX5_type_38 : decode cX5_type 38 = .ok (.iconst 1, 1) := by decide +kernel
theorem dX5_type_39 : decode cX5_type 39 = .ok (.iadd, 1) := by decide +kernel
theorem dX5_type_40 : decode cX5_type 40 = .ok (.putfield 13, 3) := by decide +kernel
theorem dX5_type_43 : decode cX5_type 43 = .ok (.iconst 1, 1) := by decide +kernel
theorem dX5_type_44 : decode cX5_type 44 = .ok (.ireturn, 1) := by decide +kernel
theorem dX5_compile_0 : decode cX5_compile 0 = .ok (.aload_n 0, 1) := by decide +kernel
theorem dX5_compile_1 : decode cX5_compile 1 = .ok (.getfield 20, 3) := by decide +kernel
theorem dX5_compile_4 : decode cX5_compile 4 = .ok (.aload_n 0, 1) := by decide +kernel
theorem dX5_compile_5 : decode cX5_compile 5 = .ok (.getfield 9, 3) := by decide +kernel
theorem dX5_compile_8 : decode cX5_compile 8 = .ok (.aload_n 0, 1) := by decide +kernel
theorem dX5_compile_9 : decode cX5_compile 9 = .ok (.getfield 13, 3) := by decide +kernel
theorem dX5_compile_12 : decode cX5_compile 12 = .ok (.invokevirtual 61, 3) := by decide +kernel
theorem dX5_compile_15 : decode cX5_compile 15 = .ok (.istore_n 1, 1) := by decide +kernel
theorem dX5_compile_16 : decode cX5_compile 16 = .ok (.aload_n 0, 1) := by decide +kernel
theorem dX5_compile_17 : decode cX5_compile 17 = .ok (.iconst 0, 1) := by decide +kernel
theorem dX5_compile_18 : decode cX5_compile 18 = .ok (.putfield 13, 3) := by decide +kernel
theorem dX5_compile_21 : decode cX5_compile 21 = .ok (.iload_n 1, 1) := by decide +kernel
theorem dX5_compile_22 : decode cX5_compile 22 = .ok (.iconst (-1), 1) := by decide +kernel
theorem dX5_compile_23 : decode cX5_compile 23 = .ok (.if_icmp .eq 5, 3) := by decide +kernel
theorem dX5_compile_26 : decode cX5_compile 26 = .ok (.iload_n 1, 1) := by decide +kernel
theorem dX5_compile_27 : decode cX5_compile 27 = .ok (.ireturn, 1) := by decide +kernel
theorem dX5_compile_28 : decode cX5_compile 28 = .ok (.aload_n 0, 1) := by decide +kernel
theorem dX5_compile_29 : decode cX5_compile 29 = .ok (.getfield 20, 3) := by decide +kernel
theorem dX5_compile_32 : decode cX5_compile 32 = .ok (.getfield 65, 3) := by decide +kernel
theorem dX5_compile_35 : decode cX5_compile 35 = .ok (.getfield 68, 3) := by decide +kernel
theorem dX5_compile_38 : decode cX5_compile 38 = .ok (.bipush 24, 2) := by decide +kernel
theorem dX5_compile_40 : decode cX5_compile 40 = .ok (.if_icmp .le 6, 3) := by decide +kernel
theorem dX5_compile_43 : decode cX5_compile 43 = .ok (.bipush (-2), 2) := by decide +kernel
theorem dX5_compile_45 : decode cX5_compile 45 = .ok (.ireturn, 1) := by decide +kernel
theorem dX5_compile_46 : decode cX5_compile 46 = .ok (.aload_n 0, 1) := by decide +kernel
theorem dX5_compile_47 : decode cX5_compile 47 = .ok (.getfield 27, 3) := by decide +kernel
theorem dX5_compile_50 : decode cX5_compile 50 = .ok (.aload_n 0, 1) := by decide +kernel
theorem dX5_compile_51 : decode cX5_compile 51 = .ok (.getfield 20, 3) := by decide +kernel
theorem dX5_compile_54 : decode cX5_compile 54 = .ok (.getfield 65, 3) := by decide +kernel
theorem dX5_compile_57 : decode cX5_compile 57 = .ok (.invokevirtual 71, 3) := by decide +kernel
theorem dX5_compile_60 : decode cX5_compile 60 = .ok (.aload_n 0, 1) := by decide +kernel
theorem dX5_compile_61 : decode cX5_compile 61 = .ok (.getfield 41, 3) := by decide +kernel
theorem dX5_compile_64 : decode cX5_compile 64 = .ok (.invokevirtual 75, 3) := by decide +kernel
theorem dX5_compile_67 : decode cX5_compile 67 = .ok (.aload_n 0, 1) := by decide +kernel
theorem dX5_compile_68 : decode cX5_compile 68 = .ok (.invokevirtual 78, 3) := by decide +kernel
theorem dX5_compile_71 : decode cX5_compile 71 = .ok (.iconst (-1), 1) := by decide +kernel
theorem dX5_compile_72 : decode cX5_compile 72 = .ok (.ireturn, 1) := by decide +kernel
theorem dX5_nodes_0 : decode cX5_nodes 0 = .ok (.aload_n 0, 1) := by decide +kernel
theorem dX5_nodes_1 : decode cX5_nodes 1 = .ok (.getfield 27, 3) := by decide +kernel
theorem dX5_nodes_4 : decode cX5_nodes 4 = .ok (.getfield 68, 3) := by decide +kernel
theorem dX5_nodes_7 : decode cX5_nodes 7 = .ok (.ireturn, 1) := by decide +kernel
theorem dX5_weights_0 : decode cX5_weights 0 = .ok (.iload_n 1, 1) := by decide +kernel
theorem dX5_weights_1 : decode cX5_weights 1 = .ok (.invokestatic 81, 3) := by decide +kernel
theorem dX5_weights_4 : decode cX5_weights 4 = .ok (.ifCond .eq 17, 3) := by decide +kernel
theorem dX5_weights_7 : decode cX5_weights 7 = .ok (.iload_n 2, 1) := by decide +kernel
theorem dX5_weights_8 : decode cX5_weights 8 = .ok (.invokestatic 81, 3) := by decide +kernel
theorem dX5_weights_11 : decode cX5_weights 11 = .ok (.ifCond .eq 10, 3) := by decide +kernel
theorem dX5_weights_14 : decode cX5_weights 14 = .ok (.iload_n 3, 1) := by decide +kernel
theorem dX5_weights_15 : decode cX5_weights 15 = .ok (.invokestatic 81, 3) := by decide +kernel
theorem dX5_weights_18 : decode cX5_weights 18 = .ok (.ifCond .ne 5, 3) := by decide +kernel
theorem dX5_weights_21 : decode cX5_weights 21 = .ok (.iconst 0, 1) := by decide +kernel
theorem dX5_weights_22 : decode cX5_weights 22 = .ok (.ireturn, 1) := by decide +kernel
theorem dX5_weights_23 : decode cX5_weights 23 = .ok (.aload_n 0, 1) := by decide +kernel
theorem dX5_weights_24 : decode cX5_weights 24 = .ok (.getfield 41, 3) := by decide +kernel
theorem dX5_weights_27 : decode cX5_weights 27 = .ok (.iload_n 1, 1) := by decide +kernel
theorem dX5_weights_28 : decode cX5_weights 28 = .ok (.iload_n 2, 1) := by decide +kernel
theorem dX5_weights_29 : decode cX5_weights 29 = .ok (.iload_n 3, 1) := by decide +kernel
theorem dX5_weights_30 : decode cX5_weights 30 = .ok (.invokevirtual 85, 3) := by decide +kernel
theorem dX5_weights_33 : decode cX5_weights 33 = .ok (.aload_n 0, 1) := by decide +kernel
theorem dX5_weights_34 : decode cX5_weights 34 = .ok (.invokevirtual 78, 3) := by decide +kernel
theorem dX5_weights_37 : decode cX5_weights 37 = .ok (.iconst 1, 1) := by decide +kernel
theorem dX5_weights_38 : decode cX5_weights 38 = .ok (.ireturn, 1) := by decide +kernel
theorem dX5_bound_0 : decode cX5_bound 0 = .ok (.iload_n 1, 1) := by decide +kernel
theorem dX5_bound_1 : decode cX5_bound 1 = .ok (.ifCond .lt 10, 3) := by decide +kernel
theorem dX5_bound_4 : decode cX5_bound 4 = .ok (.iload_n 1, 1) := by decide +kernel
theorem dX5_bound_5 : decode cX5_bound 5 = .ok (.sipush 999, 3) := by decide +kernel
theorem dX5_bound_8 : decode cX5_bound 8 = .ok (.if_icmp .le 5, 3) := by decide +kernel
theorem dX5_bound_11 : decode cX5_bound 11 = .ok (.iconst 0, 1) := by decide +kernel
theorem dX5_bound_12 : decode cX5_bound 12 = .ok (.ireturn, 1) := by decide +kernel
theorem dX5_bound_13 : decode cX5_bound 13 = .ok (.aload_n 0, 1) := by decide +kernel
theorem dX5_bound_14 : decode cX5_bound 14 = .ok (.iload_n 1, 1) := by decide +kernel
theorem dX5_bound_15 : decode cX5_bound 15 = .ok (.putfield 52, 3) := by decide +kernel
theorem dX5_bound_18 : decode cX5_bound 18 = .ok (.aload_n 0, 1) := by decide +kernel
theorem dX5_bound_19 : decode cX5_bound 19 = .ok (.invokevirtual 78, 3) := by decide +kernel
theorem dX5_bound_22 : decode cX5_bound 22 = .ok (.iconst 1, 1) := by decide +kernel
theorem dX5_bound_23 : decode cX5_bound 23 = .ok (.ireturn, 1) := by decide +kernel
theorem dX5_write_0 : decode cX5_write 0 = .ok (.iload_n 1, 1) := by decide +kernel
theorem dX5_write_1 : decode cX5_write 1 = .ok (.invokestatic 89, 3) := by decide +kernel
theorem dX5_write_4 : decode cX5_write 4 = .ok (.ifCond .eq 15, 3) := by decide +kernel
theorem dX5_write_7 : decode cX5_write 7 = .ok (.aload_n 0, 1) := by decide +kernel
theorem dX5_write_8 : decode cX5_write 8 = .ok (.getfield 34, 3) := by decide +kernel
theorem dX5_write_11 : decode cX5_write 11 = .ok (.getfield 93, 3) := by decide +kernel
theorem dX5_write_14 : decode cX5_write 14 = .ok (.bipush 24, 2) := by decide +kernel
theorem dX5_write_16 : decode cX5_write 16 = .ok (.if_icmp .lt 5, 3) := by decide +kernel
theorem dX5_write_19 : decode cX5_write 19 = .ok (.iconst 0, 1) := by decide +kernel
theorem dX5_write_20 : decode cX5_write 20 = .ok (.ireturn, 1) := by decide +kernel
theorem dX5_write_21 : decode cX5_write 21 = .ok (.aload_n 0, 1) := by decide +kernel
theorem dX5_write_22 : decode cX5_write 22 = .ok (.getfield 34, 3) := by decide +kernel
theorem dX5_write_25 : decode cX5_write 25 = .ok (.iload_n 1, 1) := by decide +kernel
theorem dX5_write_26 : decode cX5_write 26 = .ok (.invokevirtual 94, 3) := by decide +kernel
theorem dX5_write_29 : decode cX5_write 29 = .ok (.aload_n 0, 1) := by decide +kernel
theorem dX5_write_30 : decode cX5_write 30 = .ok (.invokevirtual 78, 3) := by decide +kernel
theorem dX5_write_33 : decode cX5_write 33 = .ok (.iconst 1, 1) := by decide +kernel
theorem dX5_write_34 : decode cX5_write 34 = .ok (.ireturn, 1) := by decide +kernel
theorem dX5_erase_0 : decode cX5_erase 0 = .ok (.aload_n 0, 1) := by decide +kernel
theorem dX5_erase_1 : decode cX5_erase 1 = .ok (.getfield 34, 3) := by decide +kernel
theorem dX5_erase_4 : decode cX5_erase 4 = .ok (.invokevirtual 98, 3) := by decide +kernel
theorem dX5_erase_7 : decode cX5_erase 7 = .ok (.aload_n 0, 1) := by decide +kernel
theorem dX5_erase_8 : decode cX5_erase 8 = .ok (.getfield 41, 3) := by decide +kernel
theorem dX5_erase_11 : decode cX5_erase 11 = .ok (.invokevirtual 75, 3) := by decide +kernel
theorem dX5_erase_14 : decode cX5_erase 14 = .ok (.aload_n 0, 1) := by decide +kernel
theorem dX5_erase_15 : decode cX5_erase 15 = .ok (.invokevirtual 78, 3) := by decide +kernel
theorem dX5_erase_18 : decode cX5_erase 18 = .ok (.return_, 1) := by decide +kernel
theorem dX5_cost_0 : decode cX5_cost 0 = .ok (.aload_n 0, 1) := by decide +kernel
theorem dX5_cost_1 : decode cX5_cost 1 = .ok (.getfield 27, 3) := by decide +kernel
theorem dX5_cost_4 : decode cX5_cost 4 = .ok (.getfield 68, 3) := by decide +kernel
theorem dX5_cost_7 : decode cX5_cost 7 = .ok (.ifCond .eq 23, 3) := by decide +kernel
theorem dX5_cost_10 : decode cX5_cost 10 = .ok (.iload_n 1, 1) := by decide +kernel
theorem dX5_cost_11 : decode cX5_cost 11 = .ok (.ifCond .lt 19, 3) := by decide +kernel
theorem dX5_cost_14 : decode cX5_cost 14 = .ok (.iload_n 2, 1) := by decide +kernel
theorem dX5_cost_15 : decode cX5_cost 15 = .ok (.iload_n 1, 1) := by decide +kernel
theorem dX5_cost_16 : decode cX5_cost 16 = .ok (.if_icmp .lt 14, 3) := by decide +kernel
theorem dX5_cost_19 : decode cX5_cost 19 = .ok (.iload_n 2, 1) := by decide +kernel
theorem dX5_cost_20 : decode cX5_cost 20 = .ok (.aload_n 0, 1) := by decide +kernel
theorem dX5_cost_21 : decode cX5_cost 21 = .ok (.getfield 34, 3) := by decide +kernel
theorem dX5_cost_24 : decode cX5_cost 24 = .ok (.getfield 93, 3) := by decide +kernel
theorem dX5_cost_27 : decode cX5_cost 27 = .ok (.if_icmp .le 5, 3) := by decide +kernel
theorem dX5_cost_30 : decode cX5_cost 30 = .ok (.iconst (-1), 1) := by decide +kernel
theorem dX5_cost_31 : decode cX5_cost 31 = .ok (.ireturn, 1) := by decide +kernel
theorem dX5_cost_32 : decode cX5_cost 32 = .ok (.aload_n 0, 1) := by decide +kernel
theorem dX5_cost_33 : decode cX5_cost 33 = .ok (.getfield 41, 3) := by decide +kernel
theorem dX5_cost_36 : decode cX5_cost 36 = .ok (.aload_n 0, 1) := by decide +kernel
theorem dX5_cost_37 : decode cX5_cost 37 = .ok (.getfield 27, 3) := by decide +kernel
theorem dX5_cost_40 : decode cX5_cost 40 = .ok (.aload_n 0, 1) := by decide +kernel
theorem dX5_cost_41 : decode cX5_cost 41 = .ok (.getfield 34, 3) := by decide +kernel
theorem dX5_cost_44 : decode cX5_cost 44 = .ok (.invokevirtual 101, 3) := by decide +kernel
theorem dX5_cost_47 : decode cX5_cost 47 = .ok (.aload_n 0, 1) := by decide +kernel
theorem dX5_cost_48 : decode cX5_cost 48 = .ok (.getfield 41, 3) := by decide +kernel
theorem dX5_cost_51 : decode cX5_cost 51 = .ok (.aload_n 0, 1) := by decide +kernel
theorem dX5_cost_52 : decode cX5_cost 52 = .ok (.getfield 27, 3) := by decide +kernel
theorem dX5_cost_55 : decode cX5_cost 55 = .ok (.iload_n 1, 1) := by decide +kernel
theorem dX5_cost_56 : decode cX5_cost 56 = .ok (.iload_n 2, 1) := by decide +kernel
theorem dX5_cost_57 : decode cX5_cost 57 = .ok (.invokevirtual 105, 3) := by decide +kernel
theorem dX5_cost_60 : decode cX5_cost 60 = .ok (.istore_n 3, 1) := by decide +kernel
theorem dX5_cost_61 : decode cX5_cost 61 = .ok (.iload_n 3, 1) := by decide +kernel
theorem dX5_cost_62 : decode cX5_cost 62 = .ok (.ldc 109, 2) := by decide +kernel
theorem dX5_cost_64 : decode cX5_cost 64 = .ok (.if_icmp .lt 7, 3) := by decide +kernel
theorem dX5_cost_67 : decode cX5_cost 67 = .ok (.iconst (-1), 1) := by decide +kernel
theorem dX5_cost_68 : decode cX5_cost 68 = .ok (.goto 4, 3) := by decide +kernel
theorem dX5_cost_71 : decode cX5_cost 71 = .ok (.iload_n 3, 1) := by decide +kernel
theorem dX5_cost_72 : decode cX5_cost 72 = .ok (.ireturn, 1) := by decide +kernel
theorem dX5_find_0 : decode cX5_find 0 = .ok (.aload_n 0, 1) := by decide +kernel
theorem dX5_find_1 : decode cX5_find 1 = .ok (.invokevirtual 78, 3) := by decide +kernel
theorem dX5_find_4 : decode cX5_find 4 = .ok (.aload_n 0, 1) := by decide +kernel
theorem dX5_find_5 : decode cX5_find 5 = .ok (.getfield 27, 3) := by decide +kernel
theorem dX5_find_8 : decode cX5_find 8 = .ok (.getfield 68, 3) := by decide +kernel
theorem dX5_find_11 : decode cX5_find 11 = .ok (.ifCond .ne 5, 3) := by decide +kernel
theorem dX5_find_14 : decode cX5_find 14 = .ok (.iconst (-1), 1) := by decide +kernel
theorem dX5_find_15 : decode cX5_find 15 = .ok (.ireturn, 1) := by decide +kernel
theorem dX5_find_16 : decode cX5_find 16 = .ok (.aload_n 0, 1) := by decide +kernel
theorem dX5_find_17 : decode cX5_find 17 = .ok (.getfield 41, 3) := by decide +kernel
theorem dX5_find_20 : decode cX5_find 20 = .ok (.aload_n 0, 1) := by decide +kernel
theorem dX5_find_21 : decode cX5_find 21 = .ok (.getfield 27, 3) := by decide +kernel
theorem dX5_find_24 : decode cX5_find 24 = .ok (.aload_n 0, 1) := by decide +kernel
theorem dX5_find_25 : decode cX5_find 25 = .ok (.getfield 34, 3) := by decide +kernel
theorem dX5_find_28 : decode cX5_find 28 = .ok (.invokevirtual 101, 3) := by decide +kernel
theorem dX5_find_31 : decode cX5_find 31 = .ok (.aload_n 0, 1) := by decide +kernel
theorem dX5_find_32 : decode cX5_find 32 = .ok (.getfield 52, 3) := by decide +kernel
theorem dX5_find_35 : decode cX5_find 35 = .ok (.iconst 1, 1) := by decide +kernel
theorem dX5_find_36 : decode cX5_find 36 = .ok (.iadd, 1) := by decide +kernel
theorem dX5_find_37 : decode cX5_find 37 = .ok (.istore_n 2, 1) := by decide +kernel
theorem dX5_find_38 : decode cX5_find 38 = .ok (.iconst 0, 1) := by decide +kernel
theorem dX5_find_39 : decode cX5_find 39 = .ok (.istore_n 3, 1) := by decide +kernel
theorem dX5_find_40 : decode cX5_find 40 = .ok (.iload_n 3, 1) := by decide +kernel
theorem dX5_find_41 : decode cX5_find 41 = .ok (.aload_n 0, 1) := by decide +kernel
theorem dX5_find_42 : decode cX5_find 42 = .ok (.getfield 34, 3) := by decide +kernel
theorem dX5_find_45 : decode cX5_find 45 = .ok (.getfield 93, 3) := by decide +kernel
theorem dX5_find_48 : decode cX5_find 48 = .ok (.if_icmp .gt 81, 3) := by decide +kernel
theorem dX5_find_51 : decode cX5_find 51 = .ok (.aload_n 0, 1) := by decide +kernel
theorem dX5_find_52 : decode cX5_find 52 = .ok (.getfield 34, 3) := by decide +kernel
theorem dX5_find_55 : decode cX5_find 55 = .ok (.getfield 93, 3) := by decide +kernel
theorem dX5_find_58 : decode cX5_find 58 = .ok (.istore 4, 2) := by decide +kernel
theorem dX5_find_60 : decode cX5_find 60 = .ok (.iload 4, 2) := by decide +kernel
theorem dX5_find_62 : decode cX5_find 62 = .ok (.iload_n 3, 1) := by decide +kernel
theorem dX5_find_63 : decode cX5_find 63 = .ok (.if_icmp .lt 45, 3) := by decide +kernel
theorem dX5_find_66 : decode cX5_find 66 = .ok (.aload_n 0, 1) := by decide +kernel
theorem dX5_find_67 : decode cX5_find 67 = .ok (.getfield 41, 3) := by decide +kernel
theorem dX5_find_70 : decode cX5_find 70 = .ok (.aload_n 0, 1) := by decide +kernel
theorem dX5_find_71 : decode cX5_find 71 = .ok (.getfield 27, 3) := by decide +kernel
theorem dX5_find_74 : decode cX5_find 74 = .ok (.iload_n 3, 1) := by decide +kernel
theorem dX5_find_75 : decode cX5_find 75 = .ok (.iload 4, 2) := by decide +kernel
theorem dX5_find_77 : decode cX5_find 77 = .ok (.invokevirtual 105, 3) := by decide +kernel
theorem dX5_find_80 : decode cX5_find 80 = .ok (.istore 5, 2) := by decide +kernel
theorem dX5_find_82 : decode cX5_find 82 = .ok (.iload 5, 2) := by decide +kernel
theorem dX5_find_84 : decode cX5_find 84 = .ok (.iload_n 2, 1) := by decide +kernel
theorem dX5_find_85 : decode cX5_find 85 = .ok (.if_icmp .ge 17, 3) := by decide +kernel
theorem dX5_find_88 : decode cX5_find 88 = .ok (.iload 5, 2) := by decide +kernel
theorem dX5_find_90 : decode cX5_find 90 = .ok (.istore_n 2, 1) := by decide +kernel
theorem dX5_find_91 : decode cX5_find 91 = .ok (.aload_n 0, 1) := by decide +kernel
theorem dX5_find_92 : decode cX5_find 92 = .ok (.iload_n 3, 1) := by decide +kernel
theorem dX5_find_93 : decode cX5_find 93 = .ok (.putfield 55, 3) := by decide +kernel
theorem dX5_find_96 : decode cX5_find 96 = .ok (.aload_n 0, 1) := by decide +kernel
theorem dX5_find_97 : decode cX5_find 97 = .ok (.iload 4, 2) := by decide +kernel
theorem dX5_find_99 : decode cX5_find 99 = .ok (.putfield 58, 3) := by decide +kernel
theorem dX5_find_102 : decode cX5_find 102 = .ok (.iinc 4 (-1), 3) := by decide +kernel
theorem dX5_find_105 : decode cX5_find 105 = .ok (.goto (-45), 3) := by decide +kernel
theorem dX5_find_108 : decode cX5_find 108 = .ok (.iload_n 1, 1) := by decide +kernel
theorem dX5_find_109 : decode cX5_find 109 = .ok (.ifCond .ne 14, 3) := by decide +kernel
theorem dX5_find_112 : decode cX5_find 112 = .ok (.aload_n 0, 1) := by decide +kernel
theorem dX5_find_113 : decode cX5_find 113 = .ok (.getfield 55, 3) := by decide +kernel
theorem dX5_find_116 : decode cX5_find 116 = .ok (.iconst (-1), 1) := by decide +kernel
theorem dX5_find_117 : decode cX5_find 117 = .ok (.if_icmp .eq 6, 3) := by decide +kernel
theorem dX5_find_120 : decode cX5_find 120 = .ok (.goto 9, 3) := by decide +kernel
theorem dX5_find_123 : decode cX5_find 123 = .ok (.iinc 3 1, 3) := by decide +kernel
theorem dX5_find_126 : decode cX5_find 126 = .ok (.goto (-86), 3) := by decide +kernel
theorem dX5_find_129 : decode cX5_find 129 = .ok (.aload_n 0, 1) := by decide +kernel
theorem dX5_find_130 : decode cX5_find 130 = .ok (.getfield 55, 3) := by decide +kernel
theorem dX5_find_133 : decode cX5_find 133 = .ok (.iconst (-1), 1) := by decide +kernel
theorem dX5_find_134 : decode cX5_find 134 = .ok (.if_icmp .ne 7, 3) := by decide +kernel
theorem dX5_find_137 : decode cX5_find 137 = .ok (.iconst (-1), 1) := by decide +kernel
theorem dX5_find_138 : decode cX5_find 138 = .ok (.goto 4, 3) := by decide +kernel
theorem dX5_find_141 : decode cX5_find 141 = .ok (.iload_n 2, 1) := by decide +kernel
theorem dX5_find_142 : decode cX5_find 142 = .ok (.ireturn, 1) := by decide +kernel
theorem dX5_from_0 : decode cX5_from 0 = .ok (.aload_n 0, 1) := by decide +kernel
theorem dX5_from_1 : decode cX5_from 1 = .ok (.getfield 55, 3) := by decide +kernel
theorem dX5_from_4 : decode cX5_from 4 = .ok (.ireturn, 1) := by decide +kernel
theorem dX5_to_0 : decode cX5_to 0 = .ok (.aload_n 0, 1) := by decide +kernel
theorem dX5_to_1 : decode cX5_to 1 = .ok (.getfield 58, 3) := by decide +kernel
theorem dX5_to_4 : decode cX5_to 4 = .ok (.ireturn, 1) := by decide +kernel
theorem dX5_ends_0 : decode cX5_ends 0 = .ok (.aload_n 0, 1) := by decide +kernel
theorem dX5_ends_1 : decode cX5_ends 1 = .ok (.getfield 27, 3) := by decide +kernel
theorem dX5_ends_4 : decode cX5_ends 4 = .ok (.getfield 68, 3) := by decide +kernel
theorem dX5_ends_7 : decode cX5_ends 7 = .ok (.ifCond .ne 5, 3) := by decide +kernel
theorem dX5_ends_10 : decode cX5_ends 10 = .ok (.iconst 0, 1) := by decide +kernel
theorem dX5_ends_11 : decode cX5_ends 11 = .ok (.ireturn, 1) := by decide +kernel
theorem dX5_ends_12 : decode cX5_ends 12 = .ok (.aload_n 0, 1) := by decide +kernel
theorem dX5_ends_13 : decode cX5_ends 13 = .ok (.getfield 41, 3) := by decide +kernel
theorem dX5_ends_16 : decode cX5_ends 16 = .ok (.aload_n 0, 1) := by decide +kernel
theorem dX5_ends_17 : decode cX5_ends 17 = .ok (.getfield 27, 3) := by decide +kernel
theorem dX5_ends_20 : decode cX5_ends 20 = .ok (.aload_n 0, 1) := by decide +kernel
theorem dX5_ends_21 : decode cX5_ends 21 = .ok (.getfield 34, 3) := by decide +kernel
theorem dX5_ends_24 : decode cX5_ends 24 = .ok (.invokevirtual 101, 3) := by decide +kernel
theorem dX5_ends_27 : decode cX5_ends 27 = .ok (.iconst 0, 1) := by decide +kernel
theorem dX5_ends_28 : decode cX5_ends 28 = .ok (.istore_n 1, 1) := by decide +kernel
theorem dX5_ends_29 : decode cX5_ends 29 = .ok (.iconst 0, 1) := by decide +kernel
theorem dX5_ends_30 : decode cX5_ends 30 = .ok (.istore_n 2, 1) := by decide +kernel
theorem dX5_ends_31 : decode cX5_ends 31 = .ok (.iload_n 2, 1) := by decide +kernel
theorem dX5_ends_32 : decode cX5_ends 32 = .ok (.aload_n 0, 1) := by decide +kernel
theorem dX5_ends_33 : decode cX5_ends 33 = .ok (.getfield 34, 3) := by decide +kernel
theorem dX5_ends_36 : decode cX5_ends 36 = .ok (.getfield 93, 3) := by decide +kernel
theorem dX5_ends_39 : decode cX5_ends 39 = .ok (.if_icmp .gt 48, 3) := by decide +kernel
theorem dX5_ends_42 : decode cX5_ends 42 = .ok (.iconst 0, 1) := by decide +kernel
theorem dX5_ends_43 : decode cX5_ends 43 = .ok (.istore_n 3, 1) := by decide +kernel
theorem dX5_ends_44 : decode cX5_ends 44 = .ok (.iload_n 3, 1) := by decide +kernel
theorem dX5_ends_45 : decode cX5_ends 45 = .ok (.iload_n 2, 1) := by decide +kernel
theorem dX5_ends_46 : decode cX5_ends 46 = .ok (.if_icmp .gt 35, 3) := by decide +kernel
theorem dX5_ends_49 : decode cX5_ends 49 = .ok (.aload_n 0, 1) := by decide +kernel
theorem dX5_ends_50 : decode cX5_ends 50 = .ok (.getfield 41, 3) := by decide +kernel
theorem dX5_ends_53 : decode cX5_ends 53 = .ok (.aload_n 0, 1) := by decide +kernel
theorem dX5_ends_54 : decode cX5_ends 54 = .ok (.getfield 27, 3) := by decide +kernel
theorem dX5_ends_57 : decode cX5_ends 57 = .ok (.iload_n 3, 1) := by decide +kernel
theorem dX5_ends_58 : decode cX5_ends 58 = .ok (.iload_n 2, 1) := by decide +kernel
theorem dX5_ends_59 : decode cX5_ends 59 = .ok (.invokevirtual 105, 3) := by decide +kernel
theorem dX5_ends_62 : decode cX5_ends 62 = .ok (.aload_n 0, 1) := by decide +kernel
theorem dX5_ends_63 : decode cX5_ends 63 = .ok (.getfield 52, 3) := by decide +kernel
theorem dX5_ends_66 : decode cX5_ends 66 = .ok (.if_icmp .gt 9, 3) := by decide +kernel
theorem dX5_ends_69 : decode cX5_ends 69 = .ok (.iload_n 1, 1) := by decide +kernel
theorem dX5_ends_70 : decode cX5_ends 70 = .ok (.iconst 1, 1) := by decide +kernel
theorem dX5_ends_71 : decode cX5_ends 71 = .ok (.iload_n 2, 1) := by decide +kernel
theorem dX5_ends_72 : decode cX5_ends 72 = .ok (.ishl, 1) := by decide +kernel
theorem dX5_ends_73 : decode cX5_ends 73 = .ok (.ior, 1) := by decide +kernel
theorem dX5_ends_74 : decode cX5_ends 74 = .ok (.istore_n 1, 1) := by decide +kernel
theorem dX5_ends_75 : decode cX5_ends 75 = .ok (.iinc 3 1, 3) := by decide +kernel
theorem dX5_ends_78 : decode cX5_ends 78 = .ok (.goto (-34), 3) := by decide +kernel
theorem dX5_ends_81 : decode cX5_ends 81 = .ok (.iinc 2 1, 3) := by decide +kernel
theorem dX5_ends_84 : decode cX5_ends 84 = .ok (.goto (-53), 3) := by decide +kernel
theorem dX5_ends_87 : decode cX5_ends 87 = .ok (.iload_n 1, 1) := by decide +kernel
theorem dX5_ends_88 : decode cX5_ends 88 = .ok (.ireturn, 1) := by decide +kernel
theorem dX5_add_0 : decode cX5_add 0 = .ok (.aload_n 0, 1) := by decide +kernel
theorem dX5_add_1 : decode cX5_add 1 = .ok (.getfield 48, 3) := by decide +kernel
theorem dX5_add_4 : decode cX5_add 4 = .ok (.aload_n 0, 1) := by decide +kernel
theorem dX5_add_5 : decode cX5_add 5 = .ok (.getfield 34, 3) := by decide +kernel
theorem dX5_add_8 : decode cX5_add 8 = .ok (.invokevirtual 110, 3) := by decide +kernel
theorem dX5_add_11 : decode cX5_add 11 = .ok (.ireturn, 1) := by decide +kernel
theorem dX5_words_0 : decode cX5_words 0 = .ok (.aload_n 0, 1) := by decide +kernel
theorem dX5_words_1 : decode cX5_words 1 = .ok (.getfield 48, 3) := by decide +kernel
theorem dX5_words_4 : decode cX5_words 4 = .ok (.getfield 114, 3) := by decide +kernel
theorem dX5_words_7 : decode cX5_words 7 = .ok (.ireturn, 1) := by decide +kernel
theorem dX5_distance_0 : decode cX5_distance 0 = .ok (.aload_n 0, 1) := by decide +kernel
theorem dX5_distance_1 : decode cX5_distance 1 = .ok (.getfield 48, 3) := by decide +kernel
theorem dX5_distance_4 : decode cX5_distance 4 = .ok (.iload_n 1, 1) := by decide +kernel
theorem dX5_distance_5 : decode cX5_distance 5 = .ok (.aload_n 0, 1) := by decide +kernel
theorem dX5_distance_6 : decode cX5_distance 6 = .ok (.getfield 34, 3) := by decide +kernel
theorem dX5_distance_9 : decode cX5_distance 9 = .ok (.iload_n 2, 1) := by decide +kernel
theorem dX5_distance_10 : decode cX5_distance 10 = .ok (.invokevirtual 115, 3) := by decide +kernel
theorem dX5_distance_13 : decode cX5_distance 13 = .ok (.ireturn, 1) := by decide +kernel
theorem dX5_near_0 : decode cX5_near 0 = .ok (.aload_n 0, 1) := by decide +kernel
theorem dX5_near_1 : decode cX5_near 1 = .ok (.getfield 48, 3) := by decide +kernel
theorem dX5_near_4 : decode cX5_near 4 = .ok (.iload_n 1, 1) := by decide +kernel
theorem dX5_near_5 : decode cX5_near 5 = .ok (.aload_n 0, 1) := by decide +kernel
theorem dX5_near_6 : decode cX5_near 6 = .ok (.getfield 34, 3) := by decide +kernel
theorem dX5_near_9 : decode cX5_near 9 = .ok (.iload_n 2, 1) := by decide +kernel
theorem dX5_near_10 : decode cX5_near 10 = .ok (.invokevirtual 119, 3) := by decide +kernel
theorem dX5_near_13 : decode cX5_near 13 = .ok (.ireturn, 1) := by decide +kernel
theorem dX5_rank_0 : decode cX5_rank 0 = .ok (.aload_n 0, 1) := by decide +kernel
theorem dX5_rank_1 : decode cX5_rank 1 = .ok (.getfield 48, 3) := by decide +kernel
theorem dX5_rank_4 : decode cX5_rank 4 = .ok (.iload_n 1, 1) := by decide +kernel
theorem dX5_rank_5 : decode cX5_rank 5 = .ok (.aload_n 0, 1) := by decide +kernel
theorem dX5_rank_6 : decode cX5_rank 6 = .ok (.getfield 34, 3) := by decide +kernel
theorem dX5_rank_9 : decode cX5_rank 9 = .ok (.iload_n 2, 1) := by decide +kernel
theorem dX5_rank_10 : decode cX5_rank 10 = .ok (.invokevirtual 122, 3) := by decide +kernel
theorem dX5_rank_13 : decode cX5_rank 13 = .ok (.ireturn, 1) := by decide +kernel
theorem dX5_forgetMatch_0 : decode cX5_forgetMatch 0 = .ok (.aload_n 0, 1) := by decide +kernel
theorem dX5_forgetMatch_1 : decode cX5_forgetMatch 1 = .ok (.iconst (-1), 1) := by decide +kernel
theorem dX5_forgetMatch_2 : decode cX5_forgetMatch 2 = .ok (.putfield 55, 3) := by decide +kernel
theorem dX5_forgetMatch_5 : decode cX5_forgetMatch 5 = .ok (.aload_n 0, 1) := by decide +kernel
theorem dX5_forgetMatch_6 : decode cX5_forgetMatch 6 = .ok (.iconst (-1), 1) := by decide +kernel
theorem dX5_forgetMatch_7 : decode cX5_forgetMatch 7 = .ok (.putfield 58, 3) := by decide +kernel
theorem dX5_forgetMatch_10 : decode cX5_forgetMatch 10 = .ok (.return_, 1) := by decide +kernel
theorem dX5_isLetter_0 : decode cX5_isLetter 0 = .ok (.iload_n 0, 1) := by decide +kernel
theorem dX5_isLetter_1 : decode cX5_isLetter 1 = .ok (.bipush 97, 2) := by decide +kernel
theorem dX5_isLetter_3 : decode cX5_isLetter 3 = .ok (.if_icmp .lt 13, 3) := by decide +kernel
theorem dX5_isLetter_6 : decode cX5_isLetter 6 = .ok (.iload_n 0, 1) := by decide +kernel
theorem dX5_isLetter_7 : decode cX5_isLetter 7 = .ok (.bipush 122, 2) := by decide +kernel
theorem dX5_isLetter_9 : decode cX5_isLetter 9 = .ok (.if_icmp .gt 7, 3) := by decide +kernel
theorem dX5_isLetter_12 : decode cX5_isLetter 12 = .ok (.iconst 1, 1) := by decide +kernel
theorem dX5_isLetter_13 : decode cX5_isLetter 13 = .ok (.goto 4, 3) := by decide +kernel
theorem dX5_isLetter_16 : decode cX5_isLetter 16 = .ok (.iconst 0, 1) := by decide +kernel
theorem dX5_isLetter_17 : decode cX5_isLetter 17 = .ok (.ireturn, 1) := by decide +kernel
theorem dX5_isDigit_0 : decode cX5_isDigit 0 = .ok (.iload_n 0, 1) := by decide +kernel
theorem dX5_isDigit_1 : decode cX5_isDigit 1 = .ok (.bipush 48, 2) := by decide +kernel
theorem dX5_isDigit_3 : decode cX5_isDigit 3 = .ok (.if_icmp .lt 13, 3) := by decide +kernel
theorem dX5_isDigit_6 : decode cX5_isDigit 6 = .ok (.iload_n 0, 1) := by decide +kernel
theorem dX5_isDigit_7 : decode cX5_isDigit 7 = .ok (.bipush 57, 2) := by decide +kernel
theorem dX5_isDigit_9 : decode cX5_isDigit 9 = .ok (.if_icmp .gt 7, 3) := by decide +kernel
theorem dX5_isDigit_12 : decode cX5_isDigit 12 = .ok (.iconst 1, 1) := by decide +kernel
theorem dX5_isDigit_13 : decode cX5_isDigit 13 = .ok (.goto 4, 3) := by decide +kernel
theorem dX5_isDigit_16 : decode cX5_isDigit 16 = .ok (.iconst 0, 1) := by decide +kernel
theorem dX5_isDigit_17 : decode cX5_isDigit 17 = .ok (.ireturn, 1) := by decide +kernel
theorem dX5_isWeight_0 : decode cX5_isWeight 0 = .ok (.iload_n 0, 1) := by decide +kernel
theorem dX5_isWeight_1 : decode cX5_isWeight 1 = .ok (.ifCond .lt 13, 3) := by decide +kernel
theorem dX5_isWeight_4 : decode cX5_isWeight 4 = .ok (.iload_n 0, 1) := by decide +kernel
theorem dX5_isWeight_5 : decode cX5_isWeight 5 = .ok (.bipush 9, 2) := by decide +kernel
theorem dX5_isWeight_7 : decode cX5_isWeight 7 = .ok (.if_icmp .gt 7, 3) := by decide +kernel
theorem dX5_isWeight_10 : decode cX5_isWeight 10 = .ok (.iconst 1, 1) := by decide +kernel
theorem dX5_isWeight_11 : decode cX5_isWeight 11 = .ok (.goto 4, 3) := by decide +kernel
theorem dX5_isWeight_14 : decode cX5_isWeight 14 = .ok (.iconst 0, 1) := by decide +kernel
theorem dX5_isWeight_15 : decode cX5_isWeight 15 = .ok (.ireturn, 1) := by decide +kernel
theorem dL_law_0 : decode cL_law 0 = .ok (.new 7, 3) := by decide +kernel
theorem dL_law_3 : decode cL_law 3 = .ok (.dup, 1) := by decide +kernel
theorem dL_law_4 : decode cL_law 4 = .ok (.invokespecial 9, 3) := by decide +kernel
theorem dL_law_7 : decode cL_law 7 = .ok (.astore_n 1, 1) := by decide +kernel
theorem dL_law_8 : decode cL_law 8 = .ok (.new 10, 3) := by decide +kernel
theorem dL_law_11 : decode cL_law 11 = .ok (.dup, 1) := by decide +kernel
theorem dL_law_12 : decode cL_law 12 = .ok (.invokespecial 12, 3) := by decide +kernel
theorem dL_law_15 : decode cL_law 15 = .ok (.astore_n 2, 1) := by decide +kernel
theorem dL_law_16 : decode cL_law 16 = .ok (.iconst 0, 1) := by decide +kernel
theorem dL_law_17 : decode cL_law 17 = .ok (.istore_n 3, 1) := by decide +kernel
theorem dL_law_18 : decode cL_law 18 = .ok (.iload_n 3, 1) := by decide +kernel
theorem dL_law_19 : decode cL_law 19 = .ok (.aload_n 0, 1) := by decide +kernel
theorem dL_law_20 : decode cL_law 20 = .ok (.arraylength, 1) := by decide +kernel
theorem dL_law_21 : decode cL_law 21 = .ok (.iconst 4, 1) := by decide +kernel
theorem dL_law_22 : decode cL_law 22 = .ok (.isub, 1) := by decide +kernel
theorem dL_law_23 : decode cL_law 23 = .ok (.if_icmp .gt 536, 3) := by decide +kernel
theorem dL_law_26 : decode cL_law 26 = .ok (.aload_n 0, 1) := by decide +kernel
theorem dL_law_27 : decode cL_law 27 = .ok (.iload_n 3, 1) := by decide +kernel
theorem dL_law_28 : decode cL_law 28 = .ok (.iaload, 1) := by decide +kernel
theorem dL_law_29 : decode cL_law 29 = .ok (.bipush 31, 2) := by decide +kernel
theorem dL_law_31 : decode cL_law 31 = .ok (.iand, 1) := by decide +kernel
theorem dL_law_32 : decode cL_law 32 = .ok (.tableswitch 521 0 16 #[84, 109, 122, 135, 178, 201, 226, 237, 270, 309, 322, 335, 348, 361, 374, 423, 472], 84) := by decide +kernel
theorem dL_law_116 : decode cL_law 116 = .ok (.aload_n 1, 1) := by decide +kernel
theorem dL_law_117 : decode cL_law 117 = .ok (.aload_n 0, 1) := by decide +kernel
theorem dL_law_118 : decode cL_law 118 = .ok (.iload_n 3, 1) := by decide +kernel
theorem dL_law_119 : decode cL_law 119 = .ok (.iconst 1, 1) := by decide +kernel
theorem dL_law_120 : decode cL_law 120 = .ok (.iadd, 1) := by decide +kernel
theorem dL_law_121 : decode cL_law 121 = .ok (.iaload, 1) := by decide +kernel
theorem dL_law_122 : decode cL_law 122 = .ok (.i2c, 1) := by decide +kernel
theorem dL_law_123 : decode cL_law 123 = .ok (.invokevirtual 13, 3) := by decide +kernel
theorem dL_law_126 : decode cL_law 126 = .ok (.aload_n 2, 1) := by decide +kernel
theorem dL_law_127 : decode cL_law 127 = .ok (.aload_n 0, 1) := by decide +kernel
theorem dL_law_128 : decode cL_law 128 = .ok (.iload_n 3, 1) := by decide +kernel
theorem dL_law_129 : decode cL_law 129 = .ok (.iconst 1, 1) := by decide +kernel
theorem dL_law_130 : decode cL_law 130 = .ok (.iadd, 1) := by decide +kernel
theorem dL_law_131 : decode cL_law 131 = .ok (.iaload, 1) := by decide +kernel
theorem dL_law_132 : decode cL_law 132 = .ok (.i2c, 1) := by decide +kernel
theorem dL_law_133 : decode cL_law 133 = .ok (.invokevirtual 17, 3) := by decide +kernel
theorem dL_law_136 : decode cL_law 136 = .ok (.if_icmp .eq 417, 3) := by decide +kernel
theorem dL_law_139 : decode cL_law 139 = .ok (.iconst 0, 1) := by decide +kernel
theorem dL_law_140 : decode cL_law 140 = .ok (.ireturn, 1) := by decide +kernel
theorem dL_law_141 : decode cL_law 141 = .ok (.aload_n 1, 1) := by decide +kernel
theorem dL_law_142 : decode cL_law 142 = .ok (.invokevirtual 18, 3) := by decide +kernel
theorem dL_law_145 : decode cL_law 145 = .ok (.aload_n 2, 1) := by decide +kernel
theorem dL_law_146 : decode cL_law 146 = .ok (.invokevirtual 22, 3) := by decide +kernel
theorem dL_law_149 : decode cL_law 149 = .ok (.if_icmp .eq 404, 3) := by decide +kernel
theorem dL_law_152 : decode cL_law 152 = .ok (.iconst 0, 1) := by decide +kernel
theorem dL_law_153 : decode cL_law 153 = .ok (.ireturn, 1) := by decide +kernel
theorem dL_law_154 : decode cL_law 154 = .ok (.aload_n 1, 1) := by decide +kernel
theorem dL_law_155 : decode cL_law 155 = .ok (.invokevirtual 23, 3) := by decide +kernel
theorem dL_law_158 : decode cL_law 158 = .ok (.aload_n 2, 1) := by decide +kernel
theorem dL_law_159 : decode cL_law 159 = .ok (.invokevirtual 26, 3) := by decide +kernel
theorem dL_law_162 : decode cL_law 162 = .ok (.if_icmp .eq 391, 3) := by decide +kernel
theorem dL_law_165 : decode cL_law 165 = .ok (.iconst 0, 1) := by decide +kernel
theorem dL_law_166 : decode cL_law 166 = .ok (.ireturn, 1) := by decide +kernel
theorem dL_law_167 : decode cL_law 167 = .ok (.aload_n 1, 1) := by decide +kernel
theorem dL_law_168 : decode cL_law 168 = .ok (.aload_n 0, 1) := by decide +kernel
theorem dL_law_169 : decode cL_law 169 = .ok (.iload_n 3, 1) := by decide +kernel
theorem dL_law_170 : decode cL_law 170 = .ok (.iconst 1, 1) := by decide +kernel
theorem dL_law_171 : decode cL_law 171 = .ok (.iadd, 1) := by decide +kernel
theorem dL_law_172 : decode cL_law 172 = .ok (.iaload, 1) := by decide +kernel
theorem dL_law_173 : decode cL_law 173 = .ok (.aload_n 0, 1) := by decide +kernel
theorem dL_law_174 : decode cL_law 174 = .ok (.iload_n 3, 1) := by decide +kernel
theorem dL_law_175 : decode cL_law 175 = .ok (.iconst 2, 1) := by decide +kernel
theorem dL_law_176 : decode cL_law 176 = .ok (.iadd, 1) := by decide +kernel
theorem dL_law_177 : decode cL_law 177 = .ok (.iaload, 1) := by decide +kernel
theorem dL_law_178 : decode cL_law 178 = .ok (.aload_n 0, 1) := by decide +kernel
theorem dL_law_179 : decode cL_law 179 = .ok (.iload_n 3, 1) := by decide +kernel
theorem dL_law_180 : decode cL_law 180 = .ok (.iconst 3, 1) := by decide +kernel
theorem dL_law_181 : decode cL_law 181 = .ok (.iadd, 1) := by decide +kernel
theorem dL_law_182 : decode cL_law 182 = .ok (.iaload, 1) := by decide +kernel
theorem dL_law_183 : decode cL_law 183 = .ok (.invokevirtual 27, 3) := by decide +kernel
theorem dL_law_186 : decode cL_law 186 = .ok (.aload_n 2, 1) := by decide +kernel
theorem dL_law_187 : decode cL_law 187 = .ok (.aload_n 0, 1) := by decide +kernel
theorem dL_law_188 : decode cL_law 188 = .ok (.iload_n 3, 1) := by decide +kernel
theorem dL_law_189 : decode cL_law 189 = .ok (.iconst 1, 1) := by decide +kernel
theorem dL_law_190 : decode cL_law 190 = .ok (.iadd, 1) := by decide +kernel
theorem dL_law_191 : decode cL_law 191 = .ok (.iaload, 1) := by decide +kernel
theorem dL_law_192 : decode cL_law 192 = .ok (.aload_n 0, 1) := by decide +kernel
theorem dL_law_193 : decode cL_law 193 = .ok (.iload_n 3, 1) := by decide +kernel
theorem dL_law_194 : decode cL_law 194 = .ok (.iconst 2, 1) := by decide +kernel
theorem dL_law_195 : decode cL_law 195 = .ok (.iadd, 1) := by decide +kernel
theorem dL_law_196 : decode cL_law 196 = .ok (.iaload, 1) := by decide +kernel
theorem dL_law_197 : decode cL_law 197 = .ok (.aload_n 0, 1) := by decide +kernel
theorem dL_law_198 : decode cL_law 198 = .ok (.iload_n 3, 1) := by decide +kernel
theorem dL_law_199 : decode cL_law 199 = .ok (.iconst 3, 1) := by decide +kernel
theorem dL_law_200 : decode cL_law 200 = .ok (.iadd, 1) := by decide +kernel
theorem dL_law_201 : decode cL_law 201 = .ok (.iaload, 1) := by decide +kernel
theorem dL_law_202 : decode cL_law 202 = .ok (.invokevirtual 31, 3) := by decide +kernel
theorem dL_law_205 : decode cL_law 205 = .ok (.if_icmp .eq 348, 3) := by decide +kernel
theorem dL_law_208 : decode cL_law 208 = .ok (.iconst 0, 1) := by decide +kernel
theorem dL_law_209 : decode cL_law 209 = .ok (.ireturn, 1) := by decide +kernel
theorem dL_law_210 : decode cL_law 210 = .ok (.aload_n 1, 1) := by decide +kernel
theorem dL_law_211 : decode cL_law 211 = .ok (.aload_n 0, 1) := by decide +kernel
theorem dL_law_212 : decode cL_law 212 = .ok (.iload_n 3, 1) := by decide +kernel
theorem dL_law_213 : decode cL_law 213 = .ok (.iconst 1, 1) := by decide +kernel
theorem dL_law_214 : decode cL_law 214 = .ok (.iadd, 1) := by decide +kernel
theorem dL_law_215 : decode cL_law 215 = .ok (.iaload, 1) := by decide +kernel
theorem dL_law_216 : decode cL_law 216 = .ok (.invokevirtual 32, 3) := by decide +kernel
theorem dL_law_219 : decode cL_law 219 = .ok (.aload_n 2, 1) := by decide +kernel
theorem dL_law_220 : decode cL_law 220 = .ok (.aload_n 0, 1) := by decide +kernel
theorem dL_law_221 : decode cL_law 221 = .ok (.iload_n 3, 1) := by decide +kernel
theorem dL_law_222 : decode cL_law 222 = .ok (.iconst 1, 1) := by decide +kernel
theorem dL_law_223 : decode cL_law 223 = .ok (.iadd, 1) := by decide +kernel
theorem dL_law_224 : decode cL_law 224 = .ok (.iaload, 1) := by decide +kernel
theorem dL_law_225 : decode cL_law 225 = .ok (.invokevirtual 36, 3) := by decide +kernel
theorem dL_law_228 : decode cL_law 228 = .ok (.if_icmp .eq 325, 3) := by decide +kernel
theorem dL_law_231 : decode cL_law 231 = .ok (.iconst 0, 1) := by decide +kernel
theorem dL_law_232 : decode cL_law 232 = .ok (.ireturn, 1) := by decide +kernel
theorem dL_law_233 : decode cL_law 233 = .ok (.aload_n 1, 1) := by decide +kernel
theorem dL_law_234 : decode cL_law 234 = .ok (.aload_n 0, 1) := by decide +kernel
theorem dL_law_235 : decode cL_law 235 = .ok (.iload_n 3, 1) := by decide +kernel
theorem dL_law_236 : decode cL_law 236 = .ok (.iconst 1, 1) := by decide +kernel
theorem dL_law_237 : decode cL_law 237 = .ok (.iadd, 1) := by decide +kernel
theorem dL_law_238 : decode cL_law 238 = .ok (.iaload, 1) := by decide +kernel
theorem dL_law_239 : decode cL_law 239 = .ok (.i2c, 1) := by decide +kernel
theorem dL_law_240 : decode cL_law 240 = .ok (.invokevirtual 37, 3) := by decide +kernel
theorem dL_law_243 : decode cL_law 243 = .ok (.aload_n 2, 1) := by decide +kernel
theorem dL_law_244 : decode cL_law 244 = .ok (.aload_n 0, 1) := by decide +kernel
theorem dL_law_245 : decode cL_law 245 = .ok (.iload_n 3, 1) := by decide +kernel
theorem dL_law_246 : decode cL_law 246 = .ok (.iconst 1, 1) := by decide +kernel
theorem dL_law_247 : decode cL_law 247 = .ok (.iadd, 1) := by decide +kernel
theorem dL_law_248 : decode cL_law 248 = .ok (.iaload, 1) := by decide +kernel
theorem dL_law_249 : decode cL_law 249 = .ok (.i2c, 1) := by decide +kernel
theorem dL_law_250 : decode cL_law 250 = .ok (.invokevirtual 40, 3) := by decide +kernel
theorem dL_law_253 : decode cL_law 253 = .ok (.if_icmp .eq 300, 3) := by decide +kernel
theorem dL_law_256 : decode cL_law 256 = .ok (.iconst 0, 1) := by decide +kernel
theorem dL_law_257 : decode cL_law 257 = .ok (.ireturn, 1) := by decide +kernel
theorem dL_law_258 : decode cL_law 258 = .ok (.aload_n 1, 1) := by decide +kernel
theorem dL_law_259 : decode cL_law 259 = .ok (.invokevirtual 41, 3) := by decide +kernel
theorem dL_law_262 : decode cL_law 262 = .ok (.aload_n 2, 1) := by decide +kernel
theorem dL_law_263 : decode cL_law 263 = .ok (.invokevirtual 44, 3) := by decide +kernel
theorem dL_law_266 : decode cL_law 266 = .ok (.goto 287, 3) := by decide +kernel
theorem dL_law_269 : decode cL_law 269 = .ok (.aload_n 1, 1) := by decide +kernel
theorem dL_law_270 : decode cL_law 270 = .ok (.aload_n 0, 1) := by decide +kernel
theorem dL_law_271 : decode cL_law 271 = .ok (.iload_n 3, 1) := by decide +kernel
theorem dL_law_272 : decode cL_law 272 = .ok (.iconst 1, 1) := by decide +kernel
theorem dL_law_273 : decode cL_law 273 = .ok (.iadd, 1) := by decide +kernel
theorem dL_law_274 : decode cL_law 274 = .ok (.iaload, 1) := by decide +kernel
theorem dL_law_275 : decode cL_law 275 = .ok (.aload_n 0, 1) := by decide +kernel
theorem dL_law_276 : decode cL_law 276 = .ok (.iload_n 3, 1) := by decide +kernel
theorem dL_law_277 : decode cL_law 277 = .ok (.iconst 2, 1) := by decide +kernel
theorem dL_law_278 : decode cL_law 278 = .ok (.iadd, 1) := by decide +kernel
theorem dL_law_279 : decode cL_law 279 = .ok (.iaload, 1) := by decide +kernel
theorem dL_law_280 : decode cL_law 280 = .ok (.invokevirtual 45, 3) := by decide +kernel
theorem dL_law_283 : decode cL_law 283 = .ok (.aload_n 2, 1) := by decide +kernel
theorem dL_law_284 : decode cL_law 284 = .ok (.aload_n 0, 1) := by decide +kernel
theorem dL_law_285 : decode cL_law 285 = .ok (.iload_n 3, 1) := by decide +kernel
theorem dL_law_286 : decode cL_law 286 = .ok (.iconst 1, 1) := by decide +kernel
theorem dL_law_287 : decode cL_law 287 = .ok (.iadd, 1) := by decide +kernel
theorem dL_law_288 : decode cL_law 288 = .ok (.iaload, 1) := by decide +kernel
theorem dL_law_289 : decode cL_law 289 = .ok (.aload_n 0, 1) := by decide +kernel
theorem dL_law_290 : decode cL_law 290 = .ok (.iload_n 3, 1) := by decide +kernel
theorem dL_law_291 : decode cL_law 291 = .ok (.iconst 2, 1) := by decide +kernel
theorem dL_law_292 : decode cL_law 292 = .ok (.iadd, 1) := by decide +kernel
theorem dL_law_293 : decode cL_law 293 = .ok (.iaload, 1) := by decide +kernel
theorem dL_law_294 : decode cL_law 294 = .ok (.invokevirtual 49, 3) := by decide +kernel
theorem dL_law_297 : decode cL_law 297 = .ok (.if_icmp .eq 256, 3) := by decide +kernel
theorem dL_law_300 : decode cL_law 300 = .ok (.iconst 0, 1) := by decide +kernel
theorem dL_law_301 : decode cL_law 301 = .ok (.ireturn, 1) := by decide +kernel
theorem dL_law_302 : decode cL_law 302 = .ok (.aload_n 1, 1) := by decide +kernel
theorem dL_law_303 : decode cL_law 303 = .ok (.aload_n 0, 1) := by decide +kernel
theorem dL_law_304 : decode cL_law 304 = .ok (.iload_n 3, 1) := by decide +kernel
theorem dL_law_305 : decode cL_law 305 = .ok (.iconst 1, 1) := by decide +kernel
theorem dL_law_306 : decode cL_law 306 = .ok (.iadd, 1) := by decide +kernel
theorem dL_law_307 : decode cL_law 307 = .ok (.iaload, 1) := by decide +kernel
theorem dL_law_308 : decode cL_law 308 = .ok (.ifCond .eq 7, 3) := by decide +kernel
theorem dL_law_311 : decode cL_law 311 = .ok (.iconst 1, 1) := by decide +kernel
theorem dL_law_312 : decode cL_law 312 = .ok (.goto 4, 3) := by decide +kernel
theorem dL_law_315 : decode cL_law 315 = .ok (.iconst 0, 1) := by decide +kernel
theorem dL_law_316 : decode cL_law 316 = .ok (.invokevirtual 50, 3) := by decide +kernel
theorem dL_law_319 : decode cL_law 319 = .ok (.aload_n 2, 1) := by decide +kernel
theorem dL_law_320 : decode cL_law 320 = .ok (.aload_n 0, 1) := by decide +kernel
theorem dL_law_321 : decode cL_law 321 = .ok (.iload_n 3, 1) := by decide +kernel
theorem dL_law_322 : decode cL_law 322 = .ok (.iconst 1, 1) := by decide +kernel
theorem dL_law_323 : decode cL_law 323 = .ok (.iadd, 1) := by decide +kernel
theorem dL_law_324 : decode cL_law 324 = .ok (.iaload, 1) := by decide +kernel
theorem dL_law_325 : decode cL_law 325 = .ok (.ifCond .eq 7, 3) := by decide +kernel
theorem dL_law_328 : decode cL_law 328 = .ok (.iconst 1, 1) := by decide +kernel
theorem dL_law_329 : decode cL_law 329 = .ok (.goto 4, 3) := by decide +kernel
theorem dL_law_332 : decode cL_law 332 = .ok (.iconst 0, 1) := by decide +kernel
theorem dL_law_333 : decode cL_law 333 = .ok (.invokevirtual 54, 3) := by decide +kernel
theorem dL_law_336 : decode cL_law 336 = .ok (.if_icmp .eq 217, 3) := by decide +kernel
theorem dL_law_339 : decode cL_law 339 = .ok (.iconst 0, 1) := by decide +kernel
theorem dL_law_340 : decode cL_law 340 = .ok (.ireturn, 1) := by decide +kernel
theorem dL_law_341 : decode cL_law 341 = .ok (.aload_n 1, 1) := by decide +kernel
theorem dL_law_342 : decode cL_law 342 = .ok (.invokevirtual 55, 3) := by decide +kernel
theorem dL_law_345 : decode cL_law 345 = .ok (.aload_n 2, 1) := by decide +kernel
theorem dL_law_346 : decode cL_law 346 = .ok (.invokevirtual 58, 3) := by decide +kernel
theorem dL_law_349 : decode cL_law 349 = .ok (.if_icmp .eq 204, 3) := by decide +kernel
theorem dL_law_352 : decode cL_law 352 = .ok (.iconst 0, 1) := by decide +kernel
theorem dL_law_353 : decode cL_law 353 = .ok (.ireturn, 1) := by decide +kernel
theorem dL_law_354 : decode cL_law 354 = .ok (.aload_n 1, 1) := by decide +kernel
theorem dL_law_355 : decode cL_law 355 = .ok (.invokevirtual 59, 3) := by decide +kernel
theorem dL_law_358 : decode cL_law 358 = .ok (.aload_n 2, 1) := by decide +kernel
theorem dL_law_359 : decode cL_law 359 = .ok (.invokevirtual 62, 3) := by decide +kernel
theorem dL_law_362 : decode cL_law 362 = .ok (.if_icmp .eq 191, 3) := by decide +kernel
theorem dL_law_365 : decode cL_law 365 = .ok (.iconst 0, 1) := by decide +kernel
theorem dL_law_366 : decode cL_law 366 = .ok (.ireturn, 1) := by decide +kernel
theorem dL_law_367 : decode cL_law 367 = .ok (.aload_n 1, 1) := by decide +kernel
theorem dL_law_368 : decode cL_law 368 = .ok (.invokevirtual 63, 3) := by decide +kernel
theorem dL_law_371 : decode cL_law 371 = .ok (.aload_n 2, 1) := by decide +kernel
theorem dL_law_372 : decode cL_law 372 = .ok (.invokevirtual 66, 3) := by decide +kernel
theorem dL_law_375 : decode cL_law 375 = .ok (.if_icmp .eq 178, 3) := by decide +kernel
theorem dL_law_378 : decode cL_law 378 = .ok (.iconst 0, 1) := by decide +kernel
theorem dL_law_379 : decode cL_law 379 = .ok (.ireturn, 1) := by decide +kernel
theorem dL_law_380 : decode cL_law 380 = .ok (.aload_n 1, 1) := by decide +kernel
theorem dL_law_381 : decode cL_law 381 = .ok (.invokevirtual 67, 3) := by decide +kernel
theorem dL_law_384 : decode cL_law 384 = .ok (.aload_n 2, 1) := by decide +kernel
theorem dL_law_385 : decode cL_law 385 = .ok (.invokevirtual 70, 3) := by decide +kernel
theorem dL_law_388 : decode cL_law 388 = .ok (.if_icmp .eq 165, 3) := by decide +kernel
theorem dL_law_391 : decode cL_law 391 = .ok (.iconst 0, 1) := by decide +kernel
theorem dL_law_392 : decode cL_law 392 = .ok (.ireturn, 1) := by decide +kernel
theorem dL_law_393 : decode cL_law 393 = .ok (.aload_n 1, 1) := by decide +kernel
theorem dL_law_394 : decode cL_law 394 = .ok (.invokevirtual 71, 3) := by decide +kernel
theorem dL_law_397 : decode cL_law 397 = .ok (.aload_n 2, 1) := by decide +kernel
theorem dL_law_398 : decode cL_law 398 = .ok (.invokevirtual 74, 3) := by decide +kernel
theorem dL_law_401 : decode cL_law 401 = .ok (.if_icmp .eq 152, 3) := by decide +kernel
theorem dL_law_404 : decode cL_law 404 = .ok (.iconst 0, 1) := by decide +kernel
theorem dL_law_405 : decode cL_law 405 = .ok (.ireturn, 1) := by decide +kernel
theorem dL_law_406 : decode cL_law 406 = .ok (.aload_n 1, 1) := by decide +kernel
theorem dL_law_407 : decode cL_law 407 = .ok (.aload_n 0, 1) := by decide +kernel
theorem dL_law_408 : decode cL_law 408 = .ok (.iload_n 3, 1) := by decide +kernel
theorem dL_law_409 : decode cL_law 409 = .ok (.iconst 1, 1) := by decide +kernel
theorem dL_law_410 : decode cL_law 410 = .ok (.iadd, 1) := by decide +kernel
theorem dL_law_411 : decode cL_law 411 = .ok (.iaload, 1) := by decide +kernel
theorem dL_law_412 : decode cL_law 412 = .ok (.aload_n 0, 1) := by decide +kernel
theorem dL_law_413 : decode cL_law 413 = .ok (.iload_n 3, 1) := by decide +kernel
theorem dL_law_414 : decode cL_law 414 = .ok (.iconst 2, 1) := by decide +kernel
theorem dL_law_415 : decode cL_law 415 = .ok (.iadd, 1) := by decide +kernel
theorem dL_law_416 : decode cL_law 416 = .ok (.iaload, 1) := by decide +kernel
theorem dL_law_417 : decode cL_law 417 = .ok (.ifCond .eq 7, 3) := by decide +kernel
theorem dL_law_420 : decode cL_law 420 = .ok (.iconst 1, 1) := by decide +kernel
theorem dL_law_421 : decode cL_law 421 = .ok (.goto 4, 3) := by decide +kernel
theorem dL_law_424 : decode cL_law 424 = .ok (.iconst 0, 1) := by decide +kernel
theorem dL_law_425 : decode cL_law 425 = .ok (.invokevirtual 75, 3) := by decide +kernel
theorem dL_law_428 : decode cL_law 428 = .ok (.aload_n 2, 1) := by decide +kernel
theorem dL_law_429 : decode cL_law 429 = .ok (.aload_n 0, 1) := by decide +kernel
theorem dL_law_430 : decode cL_law 430 = .ok (.iload_n 3, 1) := by decide +kernel
theorem dL_law_431 : decode cL_law 431 = .ok (.iconst 1, 1) := by decide +kernel
theorem dL_law_432 : decode cL_law 432 = .ok (.iadd, 1) := by decide +kernel
theorem dL_law_433 : decode cL_law 433 = .ok (.iaload, 1) := by decide +kernel
theorem dL_law_434 : decode cL_law 434 = .ok (.aload_n 0, 1) := by decide +kernel
theorem dL_law_435 : decode cL_law 435 = .ok (.iload_n 3, 1) := by decide +kernel
theorem dL_law_436 : decode cL_law 436 = .ok (.iconst 2, 1) := by decide +kernel
theorem dL_law_437 : decode cL_law 437 = .ok (.iadd, 1) := by decide +kernel
theorem dL_law_438 : decode cL_law 438 = .ok (.iaload, 1) := by decide +kernel
theorem dL_law_439 : decode cL_law 439 = .ok (.ifCond .eq 7, 3) := by decide +kernel
theorem dL_law_442 : decode cL_law 442 = .ok (.iconst 1, 1) := by decide +kernel
theorem dL_law_443 : decode cL_law 443 = .ok (.goto 4, 3) := by decide +kernel
theorem dL_law_446 : decode cL_law 446 = .ok (.iconst 0, 1) := by decide +kernel
theorem dL_law_447 : decode cL_law 447 = .ok (.invokevirtual 79, 3) := by decide +kernel
theorem dL_law_450 : decode cL_law 450 = .ok (.if_icmp .eq 103, 3) := by decide +kernel
theorem dL_law_453 : decode cL_law 453 = .ok (.iconst 0, 1) := by decide +kernel
theorem dL_law_454 : decode cL_law 454 = .ok (.ireturn, 1) := by decide +kernel
theorem dL_law_455 : decode cL_law 455 = .ok (.aload_n 1, 1) := by decide +kernel
theorem dL_law_456 : decode cL_law 456 = .ok (.aload_n 0, 1) := by decide +kernel
theorem dL_law_457 : decode cL_law 457 = .ok (.iload_n 3, 1) := by decide +kernel
theorem dL_law_458 : decode cL_law 458 = .ok (.iconst 1, 1) := by decide +kernel
theorem dL_law_459 : decode cL_law 459 = .ok (.iadd, 1) := by decide +kernel
theorem dL_law_460 : decode cL_law 460 = .ok (.iaload, 1) := by decide +kernel
theorem dL_law_461 : decode cL_law 461 = .ok (.aload_n 0, 1) := by decide +kernel
theorem dL_law_462 : decode cL_law 462 = .ok (.iload_n 3, 1) := by decide +kernel
theorem dL_law_463 : decode cL_law 463 = .ok (.iconst 2, 1) := by decide +kernel
theorem dL_law_464 : decode cL_law 464 = .ok (.iadd, 1) := by decide +kernel
theorem dL_law_465 : decode cL_law 465 = .ok (.iaload, 1) := by decide +kernel
theorem dL_law_466 : decode cL_law 466 = .ok (.ifCond .eq 7, 3) := by decide +kernel
theorem dL_law_469 : decode cL_law 469 = .ok (.iconst 1, 1) := by decide +kernel
theorem dL_law_470 : decode cL_law 470 = .ok (.goto 4, 3) := by decide +kernel
theorem dL_law_473 : decode cL_law 473 = .ok (.iconst 0, 1) := by decide +kernel
theorem dL_law_474 : decode cL_law 474 = .ok (.invokevirtual 80, 3) := by decide +kernel
theorem dL_law_477 : decode cL_law 477 = .ok (.aload_n 2, 1) := by decide +kernel
theorem dL_law_478 : decode cL_law 478 = .ok (.aload_n 0, 1) := by decide +kernel
theorem dL_law_479 : decode cL_law 479 = .ok (.iload_n 3, 1) := by decide +kernel
theorem dL_law_480 : decode cL_law 480 = .ok (.iconst 1, 1) := by decide +kernel
theorem dL_law_481 : decode cL_law 481 = .ok (.iadd, 1) := by decide +kernel
theorem dL_law_482 : decode cL_law 482 = .ok (.iaload, 1) := by decide +kernel
theorem dL_law_483 : decode cL_law 483 = .ok (.aload_n 0, 1) := by decide +kernel
theorem dL_law_484 : decode cL_law 484 = .ok (.iload_n 3, 1) := by decide +kernel
theorem dL_law_485 : decode cL_law 485 = .ok (.iconst 2, 1) := by decide +kernel
theorem dL_law_486 : decode cL_law 486 = .ok (.iadd, 1) := by decide +kernel
theorem dL_law_487 : decode cL_law 487 = .ok (.iaload, 1) := by decide +kernel
theorem dL_law_488 : decode cL_law 488 = .ok (.ifCond .eq 7, 3) := by decide +kernel
theorem dL_law_491 : decode cL_law 491 = .ok (.iconst 1, 1) := by decide +kernel
theorem dL_law_492 : decode cL_law 492 = .ok (.goto 4, 3) := by decide +kernel
theorem dL_law_495 : decode cL_law 495 = .ok (.iconst 0, 1) := by decide +kernel
theorem dL_law_496 : decode cL_law 496 = .ok (.invokevirtual 83, 3) := by decide +kernel
theorem dL_law_499 : decode cL_law 499 = .ok (.if_icmp .eq 54, 3) := by decide +kernel
theorem dL_law_502 : decode cL_law 502 = .ok (.iconst 0, 1) := by decide +kernel
theorem dL_law_503 : decode cL_law 503 = .ok (.ireturn, 1) := by decide +kernel
theorem dL_law_504 : decode cL_law 504 = .ok (.aload_n 1, 1) := by decide +kernel
theorem dL_law_505 : decode cL_law 505 = .ok (.aload_n 0, 1) := by decide +kernel
theorem dL_law_506 : decode cL_law 506 = .ok (.iload_n 3, 1) := by decide +kernel
theorem dL_law_507 : decode cL_law 507 = .ok (.iconst 1, 1) := by decide +kernel
theorem dL_law_508 : decode cL_law 508 = .ok (.iadd, 1) := by decide +kernel
theorem dL_law_509 : decode cL_law 509 = .ok (.iaload, 1) := by decide +kernel
theorem dL_law_510 : decode cL_law 510 = .ok (.aload_n 0, 1) := by decide +kernel
theorem dL_law_511 : decode cL_law 511 = .ok (.iload_n 3, 1) := by decide +kernel
theorem dL_law_512 : decode cL_law 512 = .ok (.iconst 2, 1) := by decide +kernel
theorem dL_law_513 : decode cL_law 513 = .ok (.iadd, 1) := by decide +kernel
theorem dL_law_514 : decode cL_law 514 = .ok (.iaload, 1) := by decide +kernel
theorem dL_law_515 : decode cL_law 515 = .ok (.ifCond .eq 7, 3) := by decide +kernel
theorem dL_law_518 : decode cL_law 518 = .ok (.iconst 1, 1) := by decide +kernel
theorem dL_law_519 : decode cL_law 519 = .ok (.goto 4, 3) := by decide +kernel
theorem dL_law_522 : decode cL_law 522 = .ok (.iconst 0, 1) := by decide +kernel
theorem dL_law_523 : decode cL_law 523 = .ok (.invokevirtual 84, 3) := by decide +kernel
theorem dL_law_526 : decode cL_law 526 = .ok (.aload_n 2, 1) := by decide +kernel
theorem dL_law_527 : decode cL_law 527 = .ok (.aload_n 0, 1) := by decide +kernel
theorem dL_law_528 : decode cL_law 528 = .ok (.iload_n 3, 1) := by decide +kernel
theorem dL_law_529 : decode cL_law 529 = .ok (.iconst 1, 1) := by decide +kernel
theorem dL_law_530 : decode cL_law 530 = .ok (.iadd, 1) := by decide +kernel
theorem dL_law_531 : decode cL_law 531 = .ok (.iaload, 1) := by decide +kernel
theorem dL_law_532 : decode cL_law 532 = .ok (.aload_n 0, 1) := by decide +kernel
theorem dL_law_533 : decode cL_law 533 = .ok (.iload_n 3, 1) := by decide +kernel
theorem dL_law_534 : decode cL_law 534 = .ok (.iconst 2, 1) := by decide +kernel
theorem dL_law_535 : decode cL_law 535 = .ok (.iadd, 1) := by decide +kernel
theorem dL_law_536 : decode cL_law 536 = .ok (.iaload, 1) := by decide +kernel
theorem dL_law_537 : decode cL_law 537 = .ok (.ifCond .eq 7, 3) := by decide +kernel
theorem dL_law_540 : decode cL_law 540 = .ok (.iconst 1, 1) := by decide +kernel
theorem dL_law_541 : decode cL_law 541 = .ok (.goto 4, 3) := by decide +kernel
theorem dL_law_544 : decode cL_law 544 = .ok (.iconst 0, 1) := by decide +kernel
theorem dL_law_545 : decode cL_law 545 = .ok (.invokevirtual 87, 3) := by decide +kernel
theorem dL_law_548 : decode cL_law 548 = .ok (.if_icmp .eq 5, 3) := by decide +kernel
theorem dL_law_551 : decode cL_law 551 = .ok (.iconst 0, 1) := by decide +kernel
theorem dL_law_552 : decode cL_law 552 = .ok (.ireturn, 1) := by decide +kernel
theorem dL_law_553 : decode cL_law 553 = .ok (.iinc 3 4, 3) := by decide +kernel
theorem dL_law_556 : decode cL_law 556 = .ok (.goto (-538), 3) := by decide +kernel
theorem dL_law_559 : decode cL_law 559 = .ok (.iconst 1, 1) := by decide +kernel
theorem dL_law_560 : decode cL_law 560 = .ok (.ireturn, 1) := by decide +kernel
end
section
def cAdd (a b : Nat) : Nat := if 1000000 ≤ a ∨ 1000000 ≤ b then 1000000 else a + b
def sm (c : Nat) : Prop := 97 ≤ c ∧ c ≤ 122
def nx (s c d : Nat) : Option Nat :=
  if s = 2 ∨ s = 3 ∨ s = 4 then (if 97 ≤ c ∧ c ≤ 122 then some 4 else if s = 2 ∧ c = 94 then some 3 else if s = 4 ∧ c = 93 then some 1 else none)
  else if s = 5 then (if 48 ≤ c ∧ c ≤ 57 then some 6 else none)
  else if s = 6 ∧ 48 ≤ c ∧ c ≤ 57 then some 1
  else if (97 ≤ c ∧ c ≤ 122) ∨ c = 46 then some 1
  else if c = 91 then some 2
  else if c = 40 then (if d < 6 then some 0 else none)
  else if s = 0 then none
  else if c = 42 ∨ c = 43 ∨ c = 63 then some 1
  else if c = 60 then some 5 else if c = 124 then some 0 else if c = 41 ∧ 0 < d then some 1 else none
theorem zb_ok {x : Int32} (h1 : ¬ x < 0) (h2 : x ≤ nI 999) : 0 ≤ x ∧ x ≤ 999 := ⟨Int32.not_lt.mp h1, h2⟩
theorem zb_no {x : Int32} (h : x < 0 ∨ ¬ x ≤ nI 999) : ¬ (0 ≤ x ∧ x ≤ 999) := fun z => h.elim (fun q => absurd z.1 (Int32.not_le.mpr q)) (fun q => q z.2)
def wt (x : Int32) : Prop := 0 ≤ x ∧ x ≤ 9
theorem wt_ok {x : Int32} (h1 : ¬ x < 0) (h2 : ¬ nI 9 < x) : wt x := ⟨Int32.not_lt.mp h1, Int32.not_lt.mp h2⟩
theorem wt_ok' {x : Int32} (h1 : ¬ x < 0) (h2 : x ≤ nI 9) : wt x := ⟨Int32.not_lt.mp h1, h2⟩
theorem wt_n1 {x : Int32} (h : x < 0) : ¬ wt x := fun z => absurd z.1 (Int32.not_le.mpr h)
theorem wt_n2 {x : Int32} (h : nI 9 < x) : ¬ wt x := fun z => absurd z.2 (Int32.not_le.mpr h)
theorem wt_n3 {x : Int32} (h : ¬ x ≤ nI 9) : ¬ wt x := fun z => h z.2
set_option maxHeartbeats 4000000 in
set_option maxRecDepth 100000 in
theorem kX6_small (l : Launch) (G : zG) (A : Nat → Nat) (Y : zY) (k : Nat) (hk : k < 2 ^ 31) : ZI l yX6_small cX6_small 1 (.boolean) 0 0 G A Y [.int (nI k)] (fun r Y' => ((97 ≤ k ∧ k ≤ 122) ∧ r = nI 1 ∧ Y' = Y) ∨ (¬ (97 ≤ k ∧ k ≤ 122) ∧ r = nI 0 ∧ Y' = Y)) := by
  refine ZI.enter (by decide) (Nat.le_of_ble_eq_true rfl) ?_
  intro p e s m args below meth c R Q hxx hbb S hK hfr hlo hret H ls hP hS hl
  have hB : ∀ q, zAd A q → zAd A q := fun _ h => h
  have hl : lv_has ls 1 [(0, .int (nI k))] := hl
  have S : CallFix p m c cX6_small 1 s args wsL_law RX6 := S
  refine lv_iload_n hxx hbb dX6_small_0 rfl (lv_at hl 0 rfl) ?_
  refine lv_bipush (v := nI 97) hxx hbb dX6_small_1 (by decide) ?_
  refine zcmp_lt (tgt := 16) S (by omega) (by omega) dX6_small_3 (by decide) (fun c_1 => ?_) (fun c_1 => ?_)
  · skip
    refine lv_iconst (v := nI 0) hxx hbb dX6_small_16 (by decide) ?_
    exact hret _ _ _ _ _ _ dX6_small_17 (by first | rfl | decide) hP hS (Or.inr ⟨by omega, rfl, rfl⟩)
  · skip
    refine lv_iload_n hxx hbb dX6_small_6 rfl (lv_at hl 0 rfl) ?_
    refine lv_bipush (v := nI 122) hxx hbb dX6_small_7 (by decide) ?_
    refine zcmp_gt (tgt := 16) S (by omega) (by omega) dX6_small_9 (by decide) (fun c_2 => ?_) (fun c_2 => ?_)
    · skip
      refine lv_iconst (v := nI 0) hxx hbb dX6_small_16 (by decide) ?_
      exact hret _ _ _ _ _ _ dX6_small_17 (by first | rfl | decide) hP hS (Or.inr ⟨by omega, rfl, rfl⟩)
    · skip
      refine lv_iconst (v := nI 1) hxx hbb dX6_small_12 (by decide) ?_
      refine lv_goto (tgt := 17) hxx hbb dX6_small_13 (by decide) ?_
      exact hret _ _ _ _ _ _ dX6_small_17 (by first | rfl | decide) hP hS (Or.inl ⟨by omega, rfl, rfl⟩)

set_option maxHeartbeats 4000000 in
set_option maxRecDepth 100000 in
theorem kX6_sum (l : Launch) (G : zG) (A : Nat → Nat) (Y : zY) (a b : Nat) (ha : a < 2 ^ 30) (hb : b < 2 ^ 30) : ZI l yX6_sum cX6_sum 2 (.int) 0 0 G A Y [.int (nI a), .int (nI b)] (fun r Y' => r = nI (cAdd a b) ∧ Y' = Y) := by
  refine ZI.enter (by decide) (Nat.le_of_ble_eq_true rfl) ?_
  intro p e s m args below meth c R Q hxx hbb S hK hfr hlo hret H ls hP hS hl
  have hB : ∀ q, zAd A q → zAd A q := fun _ h => h
  have hl : lv_has ls 2 [(0, .int (nI a)), (1, .int (nI b))] := hl
  have S : CallFix p m c cX6_sum 2 s args wsL_law RX6 := S
  refine lv_iload_n hxx hbb dX6_sum_0 rfl (lv_at hl 0 rfl) ?_
  refine zldc S (v := 1000000) zxX6_138 dX6_sum_1 ?_
  rw [show (1000000 : Int32) = nI 1000000 from rfl]
  refine zcmp_ge (tgt := 12) S (by omega) (by omega) dX6_sum_3 (by decide) (fun c_1 => ?_) (fun c_1 => ?_)
  · skip
    refine zldc S (v := 1000000) zxX6_138 dX6_sum_12 ?_
    rw [show (1000000 : Int32) = nI 1000000 from rfl]
    refine lv_goto (tgt := 20) hxx hbb dX6_sum_14 (by decide) ?_
    exact hret _ _ _ _ _ _ dX6_sum_20 (rfl) hP hS (⟨by simp only [cAdd]; (repeat (first | rw [if_pos (by omega)] | rw [if_neg (by omega)])), rfl⟩)
  · skip
    refine lv_iload_n hxx hbb dX6_sum_6 rfl (lv_at hl 1 rfl) ?_
    refine zldc S (v := 1000000) zxX6_138 dX6_sum_7 ?_
    rw [show (1000000 : Int32) = nI 1000000 from rfl]
    refine zcmp_lt (tgt := 17) S (by omega) (by omega) dX6_sum_9 (by decide) (fun c_2 => ?_) (fun c_2 => ?_)
    · skip
      refine lv_iload_n hxx hbb dX6_sum_17 rfl (lv_at hl 0 rfl) ?_
      refine lv_iload_n hxx hbb dX6_sum_18 rfl (lv_at hl 1 rfl) ?_
      refine zaddN S dX6_sum_19 ?_
      exact hret _ _ _ _ _ _ dX6_sum_20 (rfl) hP hS (⟨by simp only [cAdd]; (repeat (first | rw [if_pos (by omega)] | rw [if_neg (by omega)])), rfl⟩)
    · skip
      refine zldc S (v := 1000000) zxX6_138 dX6_sum_12 ?_
      rw [show (1000000 : Int32) = nI 1000000 from rfl]
      refine lv_goto (tgt := 20) hxx hbb dX6_sum_14 (by decide) ?_
      exact hret _ _ _ _ _ _ dX6_sum_20 (rfl) hP hS (⟨by simp only [cAdd]; (repeat (first | rw [if_pos (by omega)] | rw [if_neg (by omega)])), rfl⟩)

set_option maxHeartbeats 4000000 in
set_option maxRecDepth 100000 in
theorem kX6_costOf (l : Launch) (G : zG) (A : Nat → Nat) (Y : zY) (n i j : Nat) (hn : n < 24) (hi : i ≤ 24) (hj : j ≤ 24) : ZI l yX6_costOf cX6_costOf 4 (.int) 0 0 G A Y [.ref (A 102), .int (nI n), .int (nI i), .int (nI j)] (fun r Y' => r = Y 113 (625 * n + 25 * i + j) ∧ Y' = Y) := by
  refine ZI.enter (by decide) (Nat.le_of_ble_eq_true rfl) ?_
  intro p e s m args below meth c R Q hxx hbb S hK hfr hlo hret H ls hP hS hl
  have hB : ∀ q, zAd A q → zAd A q := fun _ h => h
  have hl : lv_has ls 4 [(0, .ref (A 102)), (1, .int (nI n)), (2, .int (nI i)), (3, .int (nI j))] := hl
  have S : CallFix p m c cX6_costOf 4 s args wsL_law RX6 := S
  refine lv_aload_n hxx hbb dX6_costOf_0 rfl (lv_at hl 0 rfl) ?_
  refine zgX6_50 S hK hP 102 (by decide) zk_102 dX6_costOf_1 ?_
  refine lv_sipush (v := nI 625) hxx hbb dX6_costOf_4 (by decide) ?_
  refine lv_iload_n hxx hbb dX6_costOf_7 rfl (lv_at hl 1 rfl) ?_
  refine zmulN S dX6_costOf_8 ?_
  refine lv_bipush (v := nI 25) hxx hbb dX6_costOf_9 (by decide) ?_
  refine lv_iload_n hxx hbb dX6_costOf_11 rfl (lv_at hl 2 rfl) ?_
  refine zmulN S dX6_costOf_12 ?_
  refine zaddN S dX6_costOf_13 ?_
  refine lv_iload_n hxx hbb dX6_costOf_14 rfl (lv_at hl 3 rfl) ?_
  refine zaddN S dX6_costOf_15 ?_
  refine zaldN S hK hP 113 15000 (by decide) zk_113 zl_113 (by omega) (v := Y 113 (625 * n + (25 * i) + j)) (rfl) dX6_costOf_16 ?_
  exact hret _ _ _ _ _ _ dX6_costOf_17 (rfl) hP hS (⟨rfl, rfl⟩)

set_option maxHeartbeats 4000000 in
set_option maxRecDepth 100000 in
theorem kX6_changed (l : Launch) (G : zG) (A : Nat → Nat) (Y : zY)   : ZV l yX6_changed cX6_changed 1 0 0 G A Y [.ref (A 102)] (fun Y' => Y' = zU (zU (zU Y 102 21 (nI 0)) 102 23 (-1)) 102 24 (-1)) := by
  refine ZV.enter (by decide) (Nat.le_of_ble_eq_true rfl) ?_
  intro p e s m args below meth c R Q hxx hbb S hK hfr hlo hret H ls hP hS hl
  have hB : ∀ q, zAd A q → zAd A q := fun _ h => h
  have hl : lv_has ls 1 [(0, .ref (A 102))] := hl
  have S : CallFix p m c cX6_changed 1 s args wsL_law RX6 := S
  refine lv_aload_n hxx hbb dX6_changed_0 rfl (lv_at hl 0 rfl) ?_
  refine lv_iconst (v := nI 0) hxx hbb dX6_changed_1 (by decide) ?_
  refine zpX6_128 S hK hP hS hB 102 (by decide) zk_102 (by first | exact ⟨rfl, rfl⟩ | decide) dX6_changed_2 (fun H locs hP hS => ?_)
  refine lv_aload_n hxx hbb dX6_changed_5 rfl (lv_at hl 0 rfl) ?_
  refine lv_iconst (v := (-1)) hxx hbb dX6_changed_6 (by decide) ?_
  refine zpX6_53 S hK hP hS hB 102 (by decide) zk_102 dX6_changed_7 (fun H locs hP hS => ?_)
  refine lv_aload_n hxx hbb dX6_changed_10 rfl (lv_at hl 0 rfl) ?_
  refine lv_iconst (v := (-1)) hxx hbb dX6_changed_11 (by decide) ?_
  refine zpX6_56 S hK hP hS hB 102 (by decide) zk_102 dX6_changed_12 (fun H locs hP hS => ?_)
  exact hret _ _ _ _ _ dX6_changed_15 hP hS (rfl)

set_option maxHeartbeats 4000000 in
set_option maxRecDepth 100000 in
theorem kX6_nodes (l : Launch) (G : zG) (A : Nat → Nat) (Y : zY)   : ZI l yX6_nodes cX6_nodes 1 (.int) 0 0 G A Y [.ref (A 102)] (fun r Y' => r = Y 102 2 ∧ Y' = Y) := by
  refine ZI.enter (by decide) (Nat.le_of_ble_eq_true rfl) ?_
  intro p e s m args below meth c R Q hxx hbb S hK hfr hlo hret H ls hP hS hl
  have hB : ∀ q, zAd A q → zAd A q := fun _ h => h
  have hl : lv_has ls 1 [(0, .ref (A 102))] := hl
  have S : CallFix p m c cX6_nodes 1 s args wsL_law RX6 := S
  refine lv_aload_n hxx hbb dX6_nodes_0 rfl (lv_at hl 0 rfl) ?_
  refine zgX6_122 S hK hP 102 (by decide) zk_102 (v := Y 102 2) (rfl) dX6_nodes_1 ?_
  exact hret _ _ _ _ _ _ dX6_nodes_4 (rfl) hP hS (⟨rfl, rfl⟩)

set_option maxHeartbeats 4000000 in
set_option maxRecDepth 100000 in
theorem kX6_from (l : Launch) (G : zG) (A : Nat → Nat) (Y : zY)   : ZI l yX6_from cX6_from 1 (.int) 0 0 G A Y [.ref (A 102)] (fun r Y' => r = Y 102 23 ∧ Y' = Y) := by
  refine ZI.enter (by decide) (Nat.le_of_ble_eq_true rfl) ?_
  intro p e s m args below meth c R Q hxx hbb S hK hfr hlo hret H ls hP hS hl
  have hB : ∀ q, zAd A q → zAd A q := fun _ h => h
  have hl : lv_has ls 1 [(0, .ref (A 102))] := hl
  have S : CallFix p m c cX6_from 1 s args wsL_law RX6 := S
  refine lv_aload_n hxx hbb dX6_from_0 rfl (lv_at hl 0 rfl) ?_
  refine zgX6_53 S hK hP 102 (by decide) zk_102 (v := Y 102 23) (rfl) dX6_from_1 ?_
  exact hret _ _ _ _ _ _ dX6_from_4 (rfl) hP hS (⟨rfl, rfl⟩)

set_option maxHeartbeats 4000000 in
set_option maxRecDepth 100000 in
theorem kX6_to (l : Launch) (G : zG) (A : Nat → Nat) (Y : zY)   : ZI l yX6_to cX6_to 1 (.int) 0 0 G A Y [.ref (A 102)] (fun r Y' => r = Y 102 24 ∧ Y' = Y) := by
  refine ZI.enter (by decide) (Nat.le_of_ble_eq_true rfl) ?_
  intro p e s m args below meth c R Q hxx hbb S hK hfr hlo hret H ls hP hS hl
  have hB : ∀ q, zAd A q → zAd A q := fun _ h => h
  have hl : lv_has ls 1 [(0, .ref (A 102))] := hl
  have S : CallFix p m c cX6_to 1 s args wsL_law RX6 := S
  refine lv_aload_n hxx hbb dX6_to_0 rfl (lv_at hl 0 rfl) ?_
  refine zgX6_56 S hK hP 102 (by decide) zk_102 (v := Y 102 24) (rfl) dX6_to_1 ?_
  exact hret _ _ _ _ _ _ dX6_to_4 (rfl) hP hS (⟨rfl, rfl⟩)

set_option maxHeartbeats 4000000 in
set_option maxRecDepth 100000 in
theorem kX6_words (l : Launch) (G : zG) (A : Nat → Nat) (Y : zY)   : ZI l yX6_words cX6_words 1 (.int) 0 0 G A Y [.ref (A 102)] (fun r Y' => r = Y 102 25 ∧ Y' = Y) := by
  refine ZI.enter (by decide) (Nat.le_of_ble_eq_true rfl) ?_
  intro p e s m args below meth c R Q hxx hbb S hK hfr hlo hret H ls hP hS hl
  have hB : ∀ q, zAd A q → zAd A q := fun _ h => h
  have hl : lv_has ls 1 [(0, .ref (A 102))] := hl
  have S : CallFix p m c cX6_words 1 s args wsL_law RX6 := S
  refine lv_aload_n hxx hbb dX6_words_0 rfl (lv_at hl 0 rfl) ?_
  refine zgX6_173 S hK hP 102 (by decide) zk_102 (v := Y 102 25) (rfl) dX6_words_1 ?_
  exact hret _ _ _ _ _ _ dX6_words_4 (rfl) hP hS (⟨rfl, rfl⟩)

set_option maxHeartbeats 4000000 in
set_option maxRecDepth 100000 in
theorem kX6_type (l : Launch) (G : zG) (A : Nat → Nat) (Y : zY) (n k : Nat) (hn : n ≤ 40) (hk : k < 65536) (h0 : Y 102 0 = nI n) : ZI l yX6_type cX6_type 2 (.boolean) 0 0 G A Y [.ref (A 102), .int (nI k)] (fun r Y' => ((33 ≤ k ∧ k ≤ 126 ∧ n < 40) ∧ r = nI 1 ∧ Y' = zU (zU Y 103 n (nI k)) 102 0 (nI (n + 1))) ∨ (¬ (33 ≤ k ∧ k ≤ 126 ∧ n < 40) ∧ r = nI 0 ∧ Y' = Y)) := by
  refine ZI.enter (by decide) (Nat.le_of_ble_eq_true rfl) ?_
  intro p e s m args below meth c R Q hxx hbb S hK hfr hlo hret H ls hP hS hl
  have hB : ∀ q, zAd A q → zAd A q := fun _ h => h
  have hl : lv_has ls 2 [(0, .ref (A 102)), (1, .int (nI k))] := hl
  have S : CallFix p m c cX6_type 2 s args wsL_law RX6 := S
  refine lv_iload_n hxx hbb dX6_type_0 rfl (lv_at hl 1 rfl) ?_
  refine lv_bipush (v := nI 33) hxx hbb dX6_type_1 (by decide) ?_
  refine zcmp_lt (tgt := 21) S (by omega) (by omega) dX6_type_3 (by decide) (fun c_1 => ?_) (fun c_1 => ?_)
  · skip
    refine lv_iconst (v := nI 0) hxx hbb dX6_type_21 (by decide) ?_
    exact hret _ _ _ _ _ _ dX6_type_22 (by first | rfl | decide) hP hS (Or.inr ⟨by omega, rfl, rfl⟩)
  · skip
    refine lv_iload_n hxx hbb dX6_type_6 rfl (lv_at hl 1 rfl) ?_
    refine lv_bipush (v := nI 126) hxx hbb dX6_type_7 (by decide) ?_
    refine zcmp_gt (tgt := 21) S (by omega) (by omega) dX6_type_9 (by decide) (fun c_2 => ?_) (fun c_2 => ?_)
    · skip
      refine lv_iconst (v := nI 0) hxx hbb dX6_type_21 (by decide) ?_
      exact hret _ _ _ _ _ _ dX6_type_22 (by first | rfl | decide) hP hS (Or.inr ⟨by omega, rfl, rfl⟩)
    · skip
      refine lv_aload_n hxx hbb dX6_type_12 rfl (lv_at hl 0 rfl) ?_
      refine zgX6_68 S hK hP 102 (by decide) zk_102 (v := nI n) (h0) dX6_type_13 ?_
      refine lv_bipush (v := nI 40) hxx hbb dX6_type_16 (by decide) ?_
      refine zcmp_ne (tgt := 23) S (by omega) (by omega) dX6_type_18 (by decide) (fun c_3 => ?_) (fun c_3 => ?_)
      · skip
        refine lv_aload_n hxx hbb dX6_type_23 rfl (lv_at hl 0 rfl) ?_
        refine zgX6_7 S hK hP 102 (by decide) zk_102 dX6_type_24 ?_
        refine lv_aload_n hxx hbb dX6_type_27 rfl (lv_at hl 0 rfl) ?_
        refine zgX6_68 S hK hP 102 (by decide) zk_102 (v := nI n) (h0) dX6_type_28 ?_
        refine lv_iload_n hxx hbb dX6_type_31 rfl (lv_at hl 1 rfl) ?_
        refine zastN S hK hP hS hB 103 40 (by decide) zk_103 zl_103 (by omega) dX6_type_32 (fun H locs hP hS => ?_)
        refine lv_aload_n hxx hbb dX6_type_33 rfl (lv_at hl 0 rfl) ?_
        refine lv_dup hxx hbb dX6_type_34 rfl ?_
        refine zgX6_68 S hK hP 102 (by decide) zk_102 (v := nI n) ((zU_np (by decide)).trans (h0)) dX6_type_35 ?_
        refine lv_iconst (v := nI 1) hxx hbb dX6_type_38 (by decide) ?_
        refine zaddN S dX6_type_39 ?_
        refine zpX6_68 S hK hP hS hB 102 (by decide) zk_102 dX6_type_40 (fun H locs hP hS => ?_)
        refine lv_iconst (v := nI 1) hxx hbb dX6_type_43 (by decide) ?_
        exact hret _ _ _ _ _ _ dX6_type_44 (by first | rfl | decide) hP hS (Or.inl ⟨by omega, rfl, rfl⟩)
      · skip
        refine lv_iconst (v := nI 0) hxx hbb dX6_type_21 (by decide) ?_
        exact hret _ _ _ _ _ _ dX6_type_22 (by first | rfl | decide) hP hS (Or.inr ⟨by omega, rfl, rfl⟩)

set_option maxHeartbeats 4000000 in
set_option maxRecDepth 100000 in
theorem kX6_write (l : Launch) (G : zG) (A : Nat → Nat) (Y : zY) (n k : Nat) (hn : n ≤ 24) (hk : k < 65536) (h0 : Y 102 19 = nI n) : ZI l yX6_write cX6_write 2 (.boolean) 1 20 G A Y [.ref (A 102), .int (nI k)] (fun r Y' => (((97 ≤ k ∧ k ≤ 122) ∧ n < 24) ∧ r = nI 1 ∧ Y' = zU (zU (zU (zU (zU Y 112 n (nI k)) 102 19 (nI (n + 1))) 102 21 (nI 0)) 102 23 (-1)) 102 24 (-1)) ∨ (¬ ((97 ≤ k ∧ k ≤ 122) ∧ n < 24) ∧ r = nI 0 ∧ Y' = Y)) := by
  refine ZI.enter (by decide) (Nat.le_of_ble_eq_true rfl) ?_
  intro p e s m args below meth c R Q hxx hbb S hK hfr hlo hret H ls hP hS hl
  have hB : ∀ q, zAd A q → zAd A q := fun _ h => h
  have hl : lv_has ls 2 [(0, .ref (A 102)), (1, .int (nI k))] := hl
  have S : CallFix p m c cX6_write 2 s args wsL_law RX6 := S
  refine lv_iload_n hxx hbb dX6_write_0 rfl (lv_at hl 1 rfl) ?_
  refine ZI.callS S hK hP hS hB (kX6_small l G A Y k (by omega)) zwX6_71 zdX6_small rfl ⟨Nat.le_trans (by decide) hfr, Nat.le_trans (by decide) hlo⟩ rfl (Nat.le_of_ble_eq_true rfl) hl.1 dX6_write_1 ⟨Nat.zero_le _, Nat.zero_le _⟩ (fun r_1 Y_2 H locs hq_3 hP hS => ?_)
  rcases hq_3 with ⟨hb_4, hr9, hY9⟩ | ⟨hb_4, hr9, hY9⟩
  · skip
    subst hr9; rw [hY9] at hP
    refine zif_eq (tgt := 16) S (by omega) dX6_write_4 (by decide) (fun c_5 => ?_) (fun c_5 => ?_)
    · skip
      exact absurd c_5 (by decide)
    · skip
      refine lv_aload_n hxx hbb dX6_write_7 rfl (lv_at hl 0 rfl) ?_
      refine zgX6_135 S hK hP 102 (by decide) zk_102 (v := nI n) (h0) dX6_write_8 ?_
      refine lv_bipush (v := nI 24) hxx hbb dX6_write_11 (by decide) ?_
      refine zcmp_ne (tgt := 18) S (by omega) (by omega) dX6_write_13 (by decide) (fun c_6 => ?_) (fun c_6 => ?_)
      · skip
        refine lv_aload_n hxx hbb dX6_write_18 rfl (lv_at hl 0 rfl) ?_
        refine zgX6_47 S hK hP 102 (by decide) zk_102 dX6_write_19 ?_
        refine lv_aload_n hxx hbb dX6_write_22 rfl (lv_at hl 0 rfl) ?_
        refine zgX6_135 S hK hP 102 (by decide) zk_102 (v := nI n) (h0) dX6_write_23 ?_
        refine lv_iload_n hxx hbb dX6_write_26 rfl (lv_at hl 1 rfl) ?_
        refine zastN S hK hP hS hB 112 24 (by decide) zk_112 zl_112 (by omega) dX6_write_27 (fun H locs hP hS => ?_)
        refine lv_aload_n hxx hbb dX6_write_28 rfl (lv_at hl 0 rfl) ?_
        refine lv_dup hxx hbb dX6_write_29 rfl ?_
        refine zgX6_135 S hK hP 102 (by decide) zk_102 (v := nI n) ((zU_np (by decide)).trans (h0)) dX6_write_30 ?_
        refine lv_iconst (v := nI 1) hxx hbb dX6_write_33 (by decide) ?_
        refine zaddN S dX6_write_34 ?_
        refine zpX6_135 S hK hP hS hB 102 (by decide) zk_102 dX6_write_35 (fun H locs hP hS => ?_)
        refine lv_aload_n hxx hbb dX6_write_38 rfl (lv_at hl 0 rfl) ?_
        refine ZV.callV S hK hP hS hB (kX6_changed l G A (zU (zU Y 112 n (nI k)) 102 19 (nI (n + 1)))) zwX6_125 zdX6_changed rfl ⟨Nat.le_trans (by decide) hfr, Nat.le_trans (by decide) hlo⟩ (by decide) (zcK6 zk_102) rfl rfl (Nat.le_of_ble_eq_true rfl) hl.1 dX6_write_39 ⟨Nat.zero_le _, Nat.zero_le _⟩ (fun Y_8 H locs hq_9 hP hS => ?_)
        rw [hq_9] at hP
        refine lv_iconst (v := nI 1) hxx hbb dX6_write_42 (by decide) ?_
        exact hret _ _ _ _ _ _ dX6_write_43 (by first | rfl | decide) hP hS (Or.inl ⟨by omega, rfl, rfl⟩)
      · skip
        refine lv_iconst (v := nI 0) hxx hbb dX6_write_16 (by decide) ?_
        exact hret _ _ _ _ _ _ dX6_write_17 (by first | rfl | decide) hP hS (Or.inr ⟨by omega, rfl, rfl⟩)
  · skip
    subst hr9; rw [hY9] at hP
    refine zif_eq (tgt := 16) S (by omega) dX6_write_4 (by decide) (fun c_10 => ?_) (fun c_10 => ?_)
    · skip
      refine lv_iconst (v := nI 0) hxx hbb dX6_write_16 (by decide) ?_
      exact hret _ _ _ _ _ _ dX6_write_17 (by first | rfl | decide) hP hS (Or.inr ⟨by omega, rfl, rfl⟩)
    · skip
      exact absurd c_10 (by decide)

set_option maxHeartbeats 4000000 in
set_option maxRecDepth 100000 in
theorem kX6_erase (l : Launch) (G : zG) (A : Nat → Nat) (Y : zY)   : ZV l yX6_erase cX6_erase 1 1 20 G A Y [.ref (A 102)] (fun Y' => Y' = zU (zU (zU (zU Y 102 19 (nI 0)) 102 21 (nI 0)) 102 23 (-1)) 102 24 (-1)) := by
  refine ZV.enter (by decide) (Nat.le_of_ble_eq_true rfl) ?_
  intro p e s m args below meth c R Q hxx hbb S hK hfr hlo hret H ls hP hS hl
  have hB : ∀ q, zAd A q → zAd A q := fun _ h => h
  have hl : lv_has ls 1 [(0, .ref (A 102))] := hl
  have S : CallFix p m c cX6_erase 1 s args wsL_law RX6 := S
  refine lv_aload_n hxx hbb dX6_erase_0 rfl (lv_at hl 0 rfl) ?_
  refine lv_iconst (v := nI 0) hxx hbb dX6_erase_1 (by decide) ?_
  refine zpX6_135 S hK hP hS hB 102 (by decide) zk_102 dX6_erase_2 (fun H locs hP hS => ?_)
  refine lv_aload_n hxx hbb dX6_erase_5 rfl (lv_at hl 0 rfl) ?_
  refine ZV.callV S hK hP hS hB (kX6_changed l G A (zU Y 102 19 (nI 0))) zwX6_125 zdX6_changed rfl ⟨Nat.le_trans (by decide) hfr, Nat.le_trans (by decide) hlo⟩ (by decide) (zcK6 zk_102) rfl rfl (Nat.le_of_ble_eq_true rfl) hl.1 dX6_erase_6 ⟨Nat.zero_le _, Nat.zero_le _⟩ (fun Y_2 H locs hq_3 hP hS => ?_)
  rw [hq_3] at hP
  exact hret _ _ _ _ _ dX6_erase_9 hP hS (rfl)

set_option maxHeartbeats 4000000 in
set_option maxRecDepth 100000 in
theorem kX6_bound (l : Launch) (G : zG) (A : Nat → Nat) (Y : zY) (x : Int32)  : ZI l yX6_bound cX6_bound 2 (.boolean) 1 20 G A Y [.ref (A 102), .int x] (fun r Y' => ((0 ≤ x ∧ x ≤ 999) ∧ r = nI 1 ∧ Y' = zU (zU (zU (zU Y 102 18 x) 102 21 (nI 0)) 102 23 (-1)) 102 24 (-1)) ∨ (¬ (0 ≤ x ∧ x ≤ 999) ∧ r = nI 0 ∧ Y' = Y)) := by
  refine ZI.enter (by decide) (Nat.le_of_ble_eq_true rfl) ?_
  intro p e s m args below meth c R Q hxx hbb S hK hfr hlo hret H ls hP hS hl
  have hB : ∀ q, zAd A q → zAd A q := fun _ h => h
  have hl : lv_has ls 2 [(0, .ref (A 102)), (1, .int x)] := hl
  have S : CallFix p m c cX6_bound 2 s args wsL_law RX6 := S
  refine lv_iload_n hxx hbb dX6_bound_0 rfl (lv_at hl 1 rfl) ?_
  refine lv_if_lt (tgt := 11) hxx hbb dX6_bound_1 (by decide) (fun c_1 => ?_) (fun c_1 => ?_)
  · skip
    refine lv_iconst (v := nI 0) hxx hbb dX6_bound_11 (by decide) ?_
    exact hret _ _ _ _ _ _ dX6_bound_12 (by first | rfl | decide) hP hS (Or.inr ⟨zb_no (by first | exact Or.inl ‹_› | exact Or.inr ‹_›), rfl, rfl⟩)
  · skip
    refine lv_iload_n hxx hbb dX6_bound_4 rfl (lv_at hl 1 rfl) ?_
    refine lv_sipush (v := nI 999) hxx hbb dX6_bound_5 (by decide) ?_
    refine lv_icmp_le (tgt := 13) hxx hbb dX6_bound_8 (by decide) (fun c_2 => ?_) (fun c_2 => ?_)
    · skip
      refine lv_aload_n hxx hbb dX6_bound_13 rfl (lv_at hl 0 rfl) ?_
      refine lv_iload_n hxx hbb dX6_bound_14 rfl (lv_at hl 1 rfl) ?_
      refine zpX6_132 S hK hP hS hB 102 (by decide) zk_102 dX6_bound_15 (fun H locs hP hS => ?_)
      refine lv_aload_n hxx hbb dX6_bound_18 rfl (lv_at hl 0 rfl) ?_
      refine ZV.callV S hK hP hS hB (kX6_changed l G A (zU Y 102 18 x)) zwX6_125 zdX6_changed rfl ⟨Nat.le_trans (by decide) hfr, Nat.le_trans (by decide) hlo⟩ (by decide) (zcK6 zk_102) rfl rfl (Nat.le_of_ble_eq_true rfl) hl.1 dX6_bound_19 ⟨Nat.zero_le _, Nat.zero_le _⟩ (fun Y_4 H locs hq_5 hP hS => ?_)
      rw [hq_5] at hP
      refine lv_iconst (v := nI 1) hxx hbb dX6_bound_22 (by decide) ?_
      exact hret _ _ _ _ _ _ dX6_bound_23 (by first | rfl | decide) hP hS (Or.inl ⟨zb_ok ‹_› ‹_›, rfl, rfl⟩)
    · skip
      refine lv_iconst (v := nI 0) hxx hbb dX6_bound_11 (by decide) ?_
      exact hret _ _ _ _ _ _ dX6_bound_12 (by first | rfl | decide) hP hS (Or.inr ⟨zb_no (by first | exact Or.inl ‹_› | exact Or.inr ‹_›), rfl, rfl⟩)

set_option maxHeartbeats 4000000 in
set_option maxRecDepth 100000 in
theorem kX6_weights (l : Launch) (G : zG) (A : Nat → Nat) (Y : zY) (x y z : Int32)  : ZI l yX6_weights cX6_weights 4 (.boolean) 1 20 G A Y [.ref (A 102), .int x, .int y, .int z] (fun r Y' => ((wt x ∧ wt y ∧ wt z) ∧ r = nI 1 ∧ Y' = zU (zU (zU (zU (zU (zU Y 102 15 x) 102 16 y) 102 17 z) 102 21 (nI 0)) 102 23 (-1)) 102 24 (-1)) ∨ (¬ (wt x ∧ wt y ∧ wt z) ∧ r = nI 0 ∧ Y' = Y)) := by
  refine ZI.enter (by decide) (Nat.le_of_ble_eq_true rfl) ?_
  intro p e s m args below meth c R Q hxx hbb S hK hfr hlo hret H ls hP hS hl
  have hB : ∀ q, zAd A q → zAd A q := fun _ h => h
  have hl : lv_has ls 4 [(0, .ref (A 102)), (1, .int x), (2, .int y), (3, .int z)] := hl
  have S : CallFix p m c cX6_weights 4 s args wsL_law RX6 := S
  refine lv_iload_n hxx hbb dX6_weights_0 rfl (lv_at hl 1 rfl) ?_
  refine lv_if_lt (tgt := 30) hxx hbb dX6_weights_1 (by decide) (fun c_1 => ?_) (fun c_1 => ?_)
  · skip
    refine lv_iconst (v := nI 0) hxx hbb dX6_weights_30 (by decide) ?_
    exact hret _ _ _ _ _ _ dX6_weights_31 (by first | rfl | decide) hP hS (Or.inr ⟨by first | exact fun z => wt_n1 ‹_› z.1 | exact fun z => wt_n2 ‹_› z.1 | exact fun z => wt_n1 ‹_› z.2.1 | exact fun z => wt_n2 ‹_› z.2.1 | exact fun z => wt_n1 ‹_› z.2.2 | exact fun z => wt_n3 ‹_› z.2.2, rfl, rfl⟩)
  · skip
    refine lv_iload_n hxx hbb dX6_weights_4 rfl (lv_at hl 1 rfl) ?_
    refine lv_bipush (v := nI 9) hxx hbb dX6_weights_5 (by decide) ?_
    refine lv_icmp_gt (tgt := 30) hxx hbb dX6_weights_7 (by decide) (fun c_2 => ?_) (fun c_2 => ?_)
    · skip
      refine lv_iconst (v := nI 0) hxx hbb dX6_weights_30 (by decide) ?_
      exact hret _ _ _ _ _ _ dX6_weights_31 (by first | rfl | decide) hP hS (Or.inr ⟨by first | exact fun z => wt_n1 ‹_› z.1 | exact fun z => wt_n2 ‹_› z.1 | exact fun z => wt_n1 ‹_› z.2.1 | exact fun z => wt_n2 ‹_› z.2.1 | exact fun z => wt_n1 ‹_› z.2.2 | exact fun z => wt_n3 ‹_› z.2.2, rfl, rfl⟩)
    · skip
      refine lv_iload_n hxx hbb dX6_weights_10 rfl (lv_at hl 2 rfl) ?_
      refine lv_if_lt (tgt := 30) hxx hbb dX6_weights_11 (by decide) (fun c_3 => ?_) (fun c_3 => ?_)
      · skip
        refine lv_iconst (v := nI 0) hxx hbb dX6_weights_30 (by decide) ?_
        exact hret _ _ _ _ _ _ dX6_weights_31 (by first | rfl | decide) hP hS (Or.inr ⟨by first | exact fun z => wt_n1 ‹_› z.1 | exact fun z => wt_n2 ‹_› z.1 | exact fun z => wt_n1 ‹_› z.2.1 | exact fun z => wt_n2 ‹_› z.2.1 | exact fun z => wt_n1 ‹_› z.2.2 | exact fun z => wt_n3 ‹_› z.2.2, rfl, rfl⟩)
      · skip
        refine lv_iload_n hxx hbb dX6_weights_14 rfl (lv_at hl 2 rfl) ?_
        refine lv_bipush (v := nI 9) hxx hbb dX6_weights_15 (by decide) ?_
        refine lv_icmp_gt (tgt := 30) hxx hbb dX6_weights_17 (by decide) (fun c_4 => ?_) (fun c_4 => ?_)
        · skip
          refine lv_iconst (v := nI 0) hxx hbb dX6_weights_30 (by decide) ?_
          exact hret _ _ _ _ _ _ dX6_weights_31 (by first | rfl | decide) hP hS (Or.inr ⟨by first | exact fun z => wt_n1 ‹_› z.1 | exact fun z => wt_n2 ‹_› z.1 | exact fun z => wt_n1 ‹_› z.2.1 | exact fun z => wt_n2 ‹_› z.2.1 | exact fun z => wt_n1 ‹_› z.2.2 | exact fun z => wt_n3 ‹_› z.2.2, rfl, rfl⟩)
        · skip
          refine lv_iload_n hxx hbb dX6_weights_20 rfl (lv_at hl 3 rfl) ?_
          refine lv_if_lt (tgt := 30) hxx hbb dX6_weights_21 (by decide) (fun c_5 => ?_) (fun c_5 => ?_)
          · skip
            refine lv_iconst (v := nI 0) hxx hbb dX6_weights_30 (by decide) ?_
            exact hret _ _ _ _ _ _ dX6_weights_31 (by first | rfl | decide) hP hS (Or.inr ⟨by first | exact fun z => wt_n1 ‹_› z.1 | exact fun z => wt_n2 ‹_› z.1 | exact fun z => wt_n1 ‹_› z.2.1 | exact fun z => wt_n2 ‹_› z.2.1 | exact fun z => wt_n1 ‹_› z.2.2 | exact fun z => wt_n3 ‹_› z.2.2, rfl, rfl⟩)
          · skip
            refine lv_iload_n hxx hbb dX6_weights_24 rfl (lv_at hl 3 rfl) ?_
            refine lv_bipush (v := nI 9) hxx hbb dX6_weights_25 (by decide) ?_
            refine lv_icmp_le (tgt := 32) hxx hbb dX6_weights_27 (by decide) (fun c_6 => ?_) (fun c_6 => ?_)
            · skip
              refine lv_aload_n hxx hbb dX6_weights_32 rfl (lv_at hl 0 rfl) ?_
              refine lv_iload_n hxx hbb dX6_weights_33 rfl (lv_at hl 1 rfl) ?_
              refine zpX6_37 S hK hP hS hB 102 (by decide) zk_102 dX6_weights_34 (fun H locs hP hS => ?_)
              refine lv_aload_n hxx hbb dX6_weights_37 rfl (lv_at hl 0 rfl) ?_
              refine lv_iload_n hxx hbb dX6_weights_38 rfl (lv_at hl 2 rfl) ?_
              refine zpX6_41 S hK hP hS hB 102 (by decide) zk_102 dX6_weights_39 (fun H locs hP hS => ?_)
              refine lv_aload_n hxx hbb dX6_weights_42 rfl (lv_at hl 0 rfl) ?_
              refine lv_iload_n hxx hbb dX6_weights_43 rfl (lv_at hl 3 rfl) ?_
              refine zpX6_44 S hK hP hS hB 102 (by decide) zk_102 dX6_weights_44 (fun H locs hP hS => ?_)
              refine lv_aload_n hxx hbb dX6_weights_47 rfl (lv_at hl 0 rfl) ?_
              refine ZV.callV S hK hP hS hB (kX6_changed l G A (zU (zU (zU Y 102 15 x) 102 16 y) 102 17 z)) zwX6_125 zdX6_changed rfl ⟨Nat.le_trans (by decide) hfr, Nat.le_trans (by decide) hlo⟩ (by decide) (zcK6 zk_102) rfl rfl (Nat.le_of_ble_eq_true rfl) hl.1 dX6_weights_48 ⟨Nat.zero_le _, Nat.zero_le _⟩ (fun Y_8 H locs hq_9 hP hS => ?_)
              rw [hq_9] at hP
              refine lv_iconst (v := nI 1) hxx hbb dX6_weights_51 (by decide) ?_
              exact hret _ _ _ _ _ _ dX6_weights_52 (by first | rfl | decide) hP hS (Or.inl ⟨⟨wt_ok ‹_› ‹_›, wt_ok ‹_› ‹_›, wt_ok' ‹_› ‹_›⟩, rfl, rfl⟩)
            · skip
              refine lv_iconst (v := nI 0) hxx hbb dX6_weights_30 (by decide) ?_
              exact hret _ _ _ _ _ _ dX6_weights_31 (by first | rfl | decide) hP hS (Or.inr ⟨by first | exact fun z => wt_n1 ‹_› z.1 | exact fun z => wt_n2 ‹_› z.1 | exact fun z => wt_n1 ‹_› z.2.1 | exact fun z => wt_n2 ‹_› z.2.1 | exact fun z => wt_n1 ‹_› z.2.2 | exact fun z => wt_n3 ‹_› z.2.2, rfl, rfl⟩)
end
section
/-! ===== costs, as numbers; 1000000 stands for INFINITE ===== -/
/-- whether one of the n letters from i on fits: 1 or 0 -/
def cFit (st : Nat) (tx : Nat → Nat) (i : Nat) : Nat → Nat
  | 0 => 0
  | n + 1 => if cFit st tx i n ≠ 0 then 1 else if st / 2 ^ (tx (i + n) - 97) % 2 = 1 then 1 else 0
def cSet (st : Nat) (tx : Nat → Nat) (ad mi wr i j : Nat) : Nat :=
  if j - i = 0 then mi + (j - i) * ad
  else if mi + (j - i) * ad < (j - i - 1) * ad + (if cFit st tx i (j - i) = 0 then wr else 0) then mi + (j - i) * ad
  else (j - i - 1) * ad + (if cFit st tx i (j - i) = 0 then wr else 0)
/-- the least of the first n cuts of a row of two -/
def cRow (f g : Nat → Nat → Nat) (i j : Nat) : Nat → Nat
  | 0 => 1000000
  | n + 1 => if cAdd (f i (i + n)) (g (i + n) j) < cRow f g i j n then cAdd (f i (i + n)) (g (i + n) j) else cRow f g i j n
/-- the least over the last piece's beginnings i + 1 .. i + n -/
def cPlv (f x : Nat → Nat → Nat) (i j : Nat) : Nat → Nat
  | 0 => x i j
  | n + 1 => if cAdd (f i (i + 1 + n)) (x (i + 1 + n) j) < cPlv f x i j n then cAdd (f i (i + 1 + n)) (x (i + 1 + n) j) else cPlv f x i j n
/-- the pieces of fewer than m letters, one or more of x -/
def cPlt (x : Nat → Nat → Nat) : Nat → Nat → Nat → Nat
  | 0 => fun _ _ => 0
  | m + 1 => fun i j => if j - i = m then cPlv (cPlt x m) x i j (m - 1) else cPlt x m i j
def cPl (x : Nat → Nat → Nat) (i j : Nat) : Nat := cPlt x (j - i + 1) i j
def cNode (kd lf rt tx : Nat → Nat) (ad mi wr : Nat) (T : Nat → Nat → Nat → Nat) (n i j : Nat) : Nat :=
  if kd n = 0 then cSet (lf n) tx ad mi wr i j
  else if kd n = 1 then cRow (T (lf n)) (T (rt n)) i j (j - i + 1)
  else if kd n = 2 then (if T (lf n) i j < T (rt n) i j then T (lf n) i j else T (rt n) i j)
  else if kd n = 5 then (if T (lf n) i j < (j - i) * ad then T (lf n) i j else (j - i) * ad)
  else if kd n = 6 then (if T (lf n) i j ≤ rt n then T (lf n) i j else 1000000)
  else cPl (T (lf n)) i j
/-- a STAR's cost out of its chains' -/
def cStar (kd : Nat → Nat) (ad : Nat) (v n i j : Nat) : Nat := if kd n = 3 then (if v < (j - i) * ad then v else (j - i) * ad) else v
/-- the table of the nodes before n -/
def cTab (kd lf rt tx : Nat → Nat) (ad mi wr : Nat) : Nat → Nat → Nat → Nat → Nat
  | 0 => fun _ _ _ => 0
  | n + 1 => fun k i j => if k = n then cStar kd ad (cNode kd lf rt tx ad mi wr (cTab kd lf rt tx ad mi wr n) n i j) n i j else cTab kd lf rt tx ad mi wr n k i j
def cCost (kd lf rt tx : Nat → Nat) (ad mi wr n i j : Nat) : Nat := cTab kd lf rt tx ad mi wr (n + 1) n i j
theorem cTab_stable {kd lf rt tx : Nat → Nat} {ad mi wr : Nat} {n k i j : Nat} (h : k < n) : cTab kd lf rt tx ad mi wr n k i j = cCost kd lf rt tx ad mi wr k i j := by
  induction n with
  | zero => omega
  | succ n ih =>
    by_cases e : k = n
    · subst e; rfl
    · show (if k = n then _ else _) = _
      rw [if_neg e]
      exact ih (by omega)
theorem cPlt_stable {x : Nat → Nat → Nat} {m i j : Nat} (h : j - i < m) : cPlt x m i j = cPl x i j := by
  induction m with
  | zero => omega
  | succ m ih =>
    by_cases e : j - i = m
    · subst e; rfl
    · show (if j - i = m then _ else _) = _
      rw [if_neg e]
      exact ih (by omega)
theorem cPlv_congr {f g x : Nat → Nat → Nat} {i j n : Nat} (h : ∀ k, k < n → f i (i + 1 + k) = g i (i + 1 + k)) : cPlv f x i j n = cPlv g x i j n := by
  induction n with
  | zero => rfl
  | succ n ih =>
    show (if _ then _ else _) = (if _ then _ else _)
    rw [ih (fun k hk => h k (by omega)), h n (by omega)]
theorem cPl_eq {x : Nat → Nat → Nat} {i j : Nat} : cPl x i j = cPlv (cPl x) x i j (j - i - 1) := by
  show (if j - i = j - i then _ else _) = _
  rw [if_pos rfl]
  exact cPlv_congr (fun k hk => cPlt_stable (by omega))
theorem cNode_congr {kd lf rt tx : Nat → Nat} {ad mi wr : Nat} {T U : Nat → Nat → Nat → Nat} {n i j : Nat} (hl : kd n ≠ 0 → T (lf n) = U (lf n)) (hr : kd n = 1 ∨ kd n = 2 → T (rt n) = U (rt n)) : cNode kd lf rt tx ad mi wr T n i j = cNode kd lf rt tx ad mi wr U n i j := by
  unfold cNode
  by_cases h0 : kd n = 0
  · rw [if_pos h0, if_pos h0]
  rw [if_neg h0, if_neg h0, hl h0]
  by_cases h1 : kd n = 1
  · rw [if_pos h1, if_pos h1, hr (Or.inl h1)]
  rw [if_neg h1, if_neg h1]
  by_cases h2 : kd n = 2
  · rw [if_pos h2, if_pos h2, hr (Or.inr h2)]
  rw [if_neg h2, if_neg h2]
/-- what a pattern's rows are: operands before the node -/
def wfN (nn : Nat) (kd lf rt : Nat → Nat) : Prop := nn ≤ 24 ∧ ∀ n, n < nn → kd n ≤ 6 ∧ rt n < 2 ^ 26 ∧ (kd n = 0 → lf n < 2 ^ 26) ∧ (kd n ≠ 0 → lf n < n) ∧ (kd n = 1 ∨ kd n = 2 → rt n < n) ∧ (kd n = 6 → rt n ≤ 99)
theorem cCost_eq {kd lf rt tx : Nat → Nat} {ad mi wr : Nat} {n i j : Nat} (hl : kd n ≠ 0 → lf n < n) (hr : kd n = 1 ∨ kd n = 2 → rt n < n) : cCost kd lf rt tx ad mi wr n i j = cStar kd ad (cNode kd lf rt tx ad mi wr (cCost kd lf rt tx ad mi wr) n i j) n i j := by
  show (if n = n then _ else _) = _
  rw [if_pos rfl]
  congr 1
  exact cNode_congr (fun h => funext fun a => funext fun b => cTab_stable (hl h)) (fun h => funext fun a => funext fun b => cTab_stable (hr h))
theorem zs31 : ∀ k, k < 31 → ((nI k).toBitVec.smod 32).toNat = k := by decide +kernel
theorem zbit {a k : Nat} (ha : a < 2 ^ 31) (hk : k < 31) : ((nI a) >>> ((nI k) &&& 31)) &&& nI 1 = nI (a / 2 ^ k % 2) := by
  have e1 : (nI k) &&& 31 = nI k := by
    have h := pk_andN (n := k) (by omega) (m := 31) 5 (by decide)
    rw [h, Nat.mod_eq_of_lt (by omega)]
  rw [e1, pk_shrN ha (nI k) k (zs31 k hk)]
  have h2 := pk_andN (n := a / 2 ^ k) (Nat.lt_of_le_of_lt (Nat.div_le_self _ _) (by omega)) (m := nI 1) 1 (by decide)
  rw [h2]
/-- what the model holds of pattern, text and weights -/
def MC (Y : zY) (nn : Nat) (kd lf rt tx : Nat → Nat) (len ad mi wr : Nat) : Prop :=
  wfN nn kd lf rt ∧ len ≤ 24 ∧ ad ≤ 9 ∧ mi ≤ 9 ∧ wr ≤ 9 ∧ (∀ q, q < len → 97 ≤ tx q ∧ tx q ≤ 122) ∧ Y 102 2 = nI nn ∧ Y 102 19 = nI len ∧ Y 102 15 = nI ad ∧ Y 102 16 = nI mi ∧ Y 102 17 = nI wr ∧ (∀ q, q < len → Y 112 q = nI (tx q)) ∧ (∀ n, n < nn → Y 104 n = nI (kd n) ∧ Y 105 n = nI (lf n) ∧ Y 106 n = nI (rt n))
theorem cAdd_le {a b : Nat} (ha : a ≤ 1000000) (hb : b ≤ 1000000) : cAdd a b ≤ 2000000 := by unfold cAdd; split <;> omega
theorem cFit_le (st : Nat) (tx : Nat → Nat) (i : Nat) : ∀ n, cFit st tx i n ≤ 1
  | 0 => Nat.zero_le _
  | n + 1 => by simp only [cFit]; split <;> (try split) <;> omega
theorem c9 {a b : Nat} (ha : a ≤ 24) (hb : b ≤ 9) : a * b ≤ 216 := Nat.mul_le_mul ha hb
set_option maxHeartbeats 4000000 in
set_option maxRecDepth 100000 in
theorem kX6_ofSet (l : Launch) (G : zG) (A : Nat → Nat) (Y : zY) (st i j : Nat) (nn : Nat) (kd lf rt tx : Nat → Nat) (len ad mi wr : Nat) (hMC : MC Y nn kd lf rt tx len ad mi wr) (hst : st < 2 ^ 26) (hij : i ≤ j) (hj : j ≤ len) : ZI l yX6_ofSet cX6_ofSet 8 (.int) 0 0 G A Y [.ref (A 102), .int (nI st), .int (nI i), .int (nI j)] (fun r Y' => r = nI (cSet st tx ad mi wr i j) ∧ Y' = Y) := by
  refine ZI.enter (by decide) (Nat.le_of_ble_eq_true rfl) ?_
  intro p e s m args below meth c R Q hxx hbb S hK hfr hlo hret H ls hP hS hl
  have hB : ∀ q, zAd A q → zAd A q := fun _ h => h
  have hl : lv_has ls 8 [(0, .ref (A 102)), (1, .int (nI st)), (2, .int (nI i)), (3, .int (nI j))] := hl
  have S : CallFix p m c cX6_ofSet 8 s args wsL_law RX6 := S
  obtain ⟨hwf, hlen, had, hmi, hwr, htx, hY2, hY19, hY15, hY16, hY17, hYt, hYn⟩ := hMC
  have hm1 := c9 (a := j - i) (by omega) had
  have hm2 := c9 (a := j - i - 1) (by omega) had
  refine lv_iload_n hxx hbb dX6_ofSet_0 rfl (lv_at hl 3 rfl) ?_
  refine lv_iload_n hxx hbb dX6_ofSet_1 rfl (lv_at hl 2 rfl) ?_
  refine zsubN S (by omega) dX6_ofSet_2 ?_
  refine lv_istore (lv' := [(4, .int (nI (j - i))), (0, .ref (A 102)), (1, .int (nI st)), (2, .int (nI i)), (3, .int (nI j))]) hxx hbb dX6_ofSet_3 hl (by decide) rfl (fun ls hl => ?_)
  refine lv_aload_n hxx hbb dX6_ofSet_5 rfl (lv_at hl 1 rfl) ?_
  refine zgX6_41 S hK hP 102 (by decide) zk_102 (v := nI mi) (hY16) dX6_ofSet_6 ?_
  refine lv_iload hxx hbb dX6_ofSet_9 (lv_at hl 0 rfl) ?_
  refine lv_aload_n hxx hbb dX6_ofSet_11 rfl (lv_at hl 1 rfl) ?_
  refine zgX6_37 S hK hP 102 (by decide) zk_102 (v := nI ad) (hY15) dX6_ofSet_12 ?_
  refine zmulN S dX6_ofSet_15 ?_
  refine zaddN S dX6_ofSet_16 ?_
  refine lv_istore (lv' := [(5, .int (nI (mi + ((j - i) * ad)))), (4, .int (nI (j - i))), (0, .ref (A 102)), (1, .int (nI st)), (2, .int (nI i)), (3, .int (nI j))]) hxx hbb dX6_ofSet_17 hl (by decide) rfl (fun ls hl => ?_)
  refine lv_iload hxx hbb dX6_ofSet_19 (lv_at hl 1 rfl) ?_
  refine zif_ne (tgt := 27) S (by omega) dX6_ofSet_21 (by decide) (fun c_1 => ?_) (fun c_1 => ?_)
  · skip
    refine lv_iconst (v := nI 0) hxx hbb dX6_ofSet_27 (by decide) ?_
    refine lv_istore (lv' := [(6, .int (nI 0)), (5, .int (nI (mi + ((j - i) * ad)))), (4, .int (nI (j - i))), (0, .ref (A 102)), (1, .int (nI st)), (2, .int (nI i)), (3, .int (nI j))]) hxx hbb dX6_ofSet_28 hl (by decide) rfl (fun ls hl => ?_)
    refine lv_iload_n hxx hbb dX6_ofSet_30 rfl (lv_at hl 5 rfl) ?_
    refine lv_istore (lv' := [(7, .int (nI i)), (6, .int (nI 0)), (5, .int (nI (mi + ((j - i) * ad)))), (4, .int (nI (j - i))), (0, .ref (A 102)), (1, .int (nI st)), (2, .int (nI i)), (3, .int (nI j))]) hxx hbb dX6_ofSet_31 hl (by decide) rfl (fun ls hl => ?_)
    have L_33 : ∀ (N_33 : Nat) (q b : Nat) (hq : q ≤ j - i) (hb : b = cFit st tx i q) (hb1 : b ≤ 1), j - i - q < N_33 → ∀ (H : Heap) (locs : List Loc) (ls : Array Slot), va_P G.1 vwCl (zW G A Y) H → va_S (zAd A) s.heap H locs → lv_has ls 8 [(0, .ref (A 102)), (1, .int (nI st)), (2, .int (nI i)), (3, .int (nI j)), (4, .int (nI (j - i))), (5, .int (nI (mi + (j - i) * ad))), (6, .int (nI b)), (7, .int (nI (i + q)))] → W p l e R s m args below meth c H locs 0 0 Q (F0 m 33 ls []) := by
      intro N_33
      induction N_33 with
      | zero => intro q b hq hb hb1 hm; exact absurd hm (Nat.not_lt_zero _)
      | succ N_33 ih_33 =>
        intro q b hq hb hb1 hm_33 H locs ls hP hS hl
        refine lv_iload hxx hbb dX6_ofSet_33 (lv_at hl 7 rfl) ?_
        refine lv_iload_n hxx hbb dX6_ofSet_35 rfl (lv_at hl 3 rfl) ?_
        refine zcmp_ge (tgt := 75) S (by omega) (by omega) dX6_ofSet_36 (by decide) (fun c_2 => ?_) (fun c_2 => ?_)
        · skip
          refine lv_iload hxx hbb dX6_ofSet_75 (lv_at hl 4 rfl) ?_
          refine lv_iconst (v := nI 1) hxx hbb dX6_ofSet_77 (by decide) ?_
          refine zsubN S (by omega) dX6_ofSet_78 ?_
          refine lv_aload_n hxx hbb dX6_ofSet_79 rfl (lv_at hl 0 rfl) ?_
          refine zgX6_37 S hK hP 102 (by decide) zk_102 (v := nI ad) (hY15) dX6_ofSet_80 ?_
          refine zmulN S dX6_ofSet_83 ?_
          refine lv_iload hxx hbb dX6_ofSet_84 (lv_at hl 6 rfl) ?_
          refine zif_eq (tgt := 93) S (by omega) dX6_ofSet_86 (by decide) (fun c_3 => ?_) (fun c_3 => ?_)
          · skip
            refine lv_aload_n hxx hbb dX6_ofSet_93 rfl (lv_at hl 0 rfl) ?_
            refine zgX6_44 S hK hP 102 (by decide) zk_102 (v := nI wr) (hY17) dX6_ofSet_94 ?_
            refine zaddN S dX6_ofSet_97 ?_
            refine lv_istore (lv' := [(7, .int (nI ((j - i - 1) * ad + wr))), (0, .ref (A 102)), (1, .int (nI st)), (2, .int (nI i)), (3, .int (nI j)), (4, .int (nI (j - i))), (5, .int (nI (mi + (j - i) * ad))), (6, .int (nI b))]) hxx hbb dX6_ofSet_98 hl (by decide) rfl (fun ls hl => ?_)
            refine lv_iload hxx hbb dX6_ofSet_100 (lv_at hl 6 rfl) ?_
            refine lv_iload hxx hbb dX6_ofSet_102 (lv_at hl 0 rfl) ?_
            refine zcmp_ge (tgt := 112) S (by omega) (by omega) dX6_ofSet_104 (by decide) (fun c_4 => ?_) (fun c_4 => ?_)
            · skip
              refine lv_iload hxx hbb dX6_ofSet_112 (lv_at hl 0 rfl) ?_
              have hq9 : q = j - i := by omega
              have hf9 : cFit st tx i (j - i) = 0 := by rw [← hq9]; omega
              exact hret _ _ _ _ _ _ dX6_ofSet_114 (rfl) hP hS (⟨by simp only [cSet, if_pos hf9]; rw [if_neg (by omega), if_neg (by omega)], rfl⟩)
            · skip
              refine lv_iload hxx hbb dX6_ofSet_107 (lv_at hl 6 rfl) ?_
              refine lv_goto (tgt := 114) hxx hbb dX6_ofSet_109 (by decide) ?_
              have hq9 : q = j - i := by omega
              have hf9 : cFit st tx i (j - i) = 0 := by rw [← hq9]; omega
              exact hret _ _ _ _ _ _ dX6_ofSet_114 (rfl) hP hS (⟨by simp only [cSet, if_pos hf9]; rw [if_neg (by omega), if_pos (by omega)], rfl⟩)
          · skip
            refine lv_iconst (v := nI 0) hxx hbb dX6_ofSet_89 (by decide) ?_
            refine lv_goto (tgt := 97) hxx hbb dX6_ofSet_90 (by decide) ?_
            refine zaddN S dX6_ofSet_97 ?_
            refine lv_istore (lv' := [(7, .int (nI ((j - i - 1) * ad + 0))), (0, .ref (A 102)), (1, .int (nI st)), (2, .int (nI i)), (3, .int (nI j)), (4, .int (nI (j - i))), (5, .int (nI (mi + (j - i) * ad))), (6, .int (nI b))]) hxx hbb dX6_ofSet_98 hl (by decide) rfl (fun ls hl => ?_)
            refine lv_iload hxx hbb dX6_ofSet_100 (lv_at hl 6 rfl) ?_
            refine lv_iload hxx hbb dX6_ofSet_102 (lv_at hl 0 rfl) ?_
            refine zcmp_ge (tgt := 112) S (by omega) (by omega) dX6_ofSet_104 (by decide) (fun c_5 => ?_) (fun c_5 => ?_)
            · skip
              refine lv_iload hxx hbb dX6_ofSet_112 (lv_at hl 0 rfl) ?_
              have hq9 : q = j - i := by omega
              have hf9 : ¬ cFit st tx i (j - i) = 0 := by rw [← hq9]; omega
              exact hret _ _ _ _ _ _ dX6_ofSet_114 (rfl) hP hS (⟨by simp only [cSet, if_neg hf9]; rw [if_neg (by omega), if_neg (by omega)], rfl⟩)
            · skip
              refine lv_iload hxx hbb dX6_ofSet_107 (lv_at hl 6 rfl) ?_
              refine lv_goto (tgt := 114) hxx hbb dX6_ofSet_109 (by decide) ?_
              have hq9 : q = j - i := by omega
              have hf9 : ¬ cFit st tx i (j - i) = 0 := by rw [← hq9]; omega
              exact hret _ _ _ _ _ _ dX6_ofSet_114 (rfl) hP hS (⟨by simp only [cSet, if_neg hf9]; rw [if_neg (by omega), if_pos (by omega)], rfl⟩)
        · skip
          refine lv_iload hxx hbb dX6_ofSet_39 (lv_at hl 6 rfl) ?_
          refine zif_ne (tgt := 62) S (by omega) dX6_ofSet_41 (by decide) (fun c_6 => ?_) (fun c_6 => ?_)
          · skip
            refine lv_iconst (v := nI 1) hxx hbb dX6_ofSet_62 (by decide) ?_
            refine lv_goto (tgt := 67) hxx hbb dX6_ofSet_63 (by decide) ?_
            refine lv_istore (lv' := [(6, .int (nI 1)), (0, .ref (A 102)), (1, .int (nI st)), (2, .int (nI i)), (3, .int (nI j)), (4, .int (nI (j - i))), (5, .int (nI (mi + (j - i) * ad))), (7, .int (nI (i + q)))]) hxx hbb dX6_ofSet_67 hl (by decide) rfl (fun ls hl => ?_)
            refine lv_iinc (v := nI (i + q + 1)) (lv' := [(7, .int (nI (i + q + 1))), (6, .int (nI 1)), (0, .ref (A 102)), (1, .int (nI st)), (2, .int (nI i)), (3, .int (nI j)), (4, .int (nI (j - i))), (5, .int (nI (mi + (j - i) * ad)))]) hxx hbb dX6_ofSet_69 hl (k := 7) rfl (zinc1 _) (by decide) rfl (fun ls hl => ?_)
            refine lv_goto (tgt := 33) hxx hbb dX6_ofSet_72 (by decide) ?_
            exact ih_33 (q + 1) 1 (by omega) (by simp only [cFit]; first | rw [if_pos (by omega)] | rw [if_neg (by omega), if_pos (by omega)]) (by omega) (by omega) _ _ _ hP hS (lv_sub hl [2, 3, 4, 5, 6, 7, 1, 0] rfl)
          · skip
            have ht9 := htx (i + q) (by omega)
            refine lv_iload_n hxx hbb dX6_ofSet_44 rfl (lv_at hl 1 rfl) ?_
            refine lv_aload_n hxx hbb dX6_ofSet_45 rfl (lv_at hl 0 rfl) ?_
            refine zgX6_47 S hK hP 102 (by decide) zk_102 dX6_ofSet_46 ?_
            refine lv_iload hxx hbb dX6_ofSet_49 (lv_at hl 7 rfl) ?_
            refine zaldN S hK hP 112 24 (by decide) zk_112 zl_112 (by omega) (v := nI (tx (i + q))) (hYt _ (by omega)) dX6_ofSet_51 ?_
            refine lv_bipush (v := nI 97) hxx hbb dX6_ofSet_52 (by decide) ?_
            refine zsubN S (by omega) dX6_ofSet_54 ?_
            refine lv_ishr hxx hbb dX6_ofSet_55 ?_
            refine lv_iconst (v := nI 1) hxx hbb dX6_ofSet_56 (by decide) ?_
            refine lv_iand hxx hbb dX6_ofSet_57 ?_
            rw [zbit (by omega) (by omega)]
            refine lv_iconst (v := nI 1) hxx hbb dX6_ofSet_58 (by decide) ?_
            refine zcmp_ne (tgt := 66) S (by omega) (by omega) dX6_ofSet_59 (by decide) (fun c_7 => ?_) (fun c_7 => ?_)
            · skip
              refine lv_iconst (v := nI 0) hxx hbb dX6_ofSet_66 (by decide) ?_
              refine lv_istore (lv' := [(6, .int (nI 0)), (0, .ref (A 102)), (1, .int (nI st)), (2, .int (nI i)), (3, .int (nI j)), (4, .int (nI (j - i))), (5, .int (nI (mi + (j - i) * ad))), (7, .int (nI (i + q)))]) hxx hbb dX6_ofSet_67 hl (by decide) rfl (fun ls hl => ?_)
              refine lv_iinc (v := nI (i + q + 1)) (lv' := [(7, .int (nI (i + q + 1))), (6, .int (nI 0)), (0, .ref (A 102)), (1, .int (nI st)), (2, .int (nI i)), (3, .int (nI j)), (4, .int (nI (j - i))), (5, .int (nI (mi + (j - i) * ad)))]) hxx hbb dX6_ofSet_69 hl (k := 7) rfl (zinc1 _) (by decide) rfl (fun ls hl => ?_)
              refine lv_goto (tgt := 33) hxx hbb dX6_ofSet_72 (by decide) ?_
              exact ih_33 (q + 1) 0 (by omega) (by simp only [cFit]; rw [if_neg (by omega), if_neg (by omega)]) (by omega) (by omega) _ _ _ hP hS (lv_sub hl [2, 3, 4, 5, 6, 7, 1, 0] rfl)
            · skip
              refine lv_iconst (v := nI 1) hxx hbb dX6_ofSet_62 (by decide) ?_
              refine lv_goto (tgt := 67) hxx hbb dX6_ofSet_63 (by decide) ?_
              refine lv_istore (lv' := [(6, .int (nI 1)), (0, .ref (A 102)), (1, .int (nI st)), (2, .int (nI i)), (3, .int (nI j)), (4, .int (nI (j - i))), (5, .int (nI (mi + (j - i) * ad))), (7, .int (nI (i + q)))]) hxx hbb dX6_ofSet_67 hl (by decide) rfl (fun ls hl => ?_)
              refine lv_iinc (v := nI (i + q + 1)) (lv' := [(7, .int (nI (i + q + 1))), (6, .int (nI 1)), (0, .ref (A 102)), (1, .int (nI st)), (2, .int (nI i)), (3, .int (nI j)), (4, .int (nI (j - i))), (5, .int (nI (mi + (j - i) * ad)))]) hxx hbb dX6_ofSet_69 hl (k := 7) rfl (zinc1 _) (by decide) rfl (fun ls hl => ?_)
              refine lv_goto (tgt := 33) hxx hbb dX6_ofSet_72 (by decide) ?_
              exact ih_33 (q + 1) 1 (by omega) (by simp only [cFit]; first | rw [if_pos (by omega)] | rw [if_neg (by omega), if_pos (by omega)]) (by omega) (by omega) _ _ _ hP hS (lv_sub hl [2, 3, 4, 5, 6, 7, 1, 0] rfl)
    exact L_33 (_ + 1) 0 0 (by omega) rfl (by omega) (Nat.lt_succ_self _) _ _ _ hP hS (lv_sub hl [4, 5, 6, 7, 3, 2, 1, 0] rfl)
  · skip
    refine lv_iload hxx hbb dX6_ofSet_24 (lv_at hl 0 rfl) ?_
    exact hret _ _ _ _ _ _ dX6_ofSet_26 (rfl) hP hS (⟨by simp only [cSet]; rw [if_pos (by omega)], rfl⟩)

set_option maxHeartbeats 4000000 in
set_option maxRecDepth 100000 in
theorem kX6_ofRow (l : Launch) (G : zG) (A : Nat → Nat) (Y : zY) (a b i j : Nat) (f g : Nat → Nat → Nat) (ha : a < 24) (hb : b < 24) (hij : i ≤ j) (hj : j ≤ 24) (hf : ∀ k, i ≤ k → k ≤ j → Y 113 (625 * a + 25 * i + k) = nI (f i k) ∧ f i k ≤ 1000000) (hg : ∀ k, i ≤ k → k ≤ j → Y 113 (625 * b + 25 * k + j) = nI (g k j) ∧ g k j ≤ 1000000) : ZI l yX6_ofRow cX6_ofRow 8 (.int) 1 23 G A Y [.ref (A 102), .int (nI a), .int (nI b), .int (nI i), .int (nI j)] (fun r Y' => r = nI (cRow f g i j (j - i + 1)) ∧ Y' = Y) := by
  refine ZI.enter (by decide) (Nat.le_of_ble_eq_true rfl) ?_
  intro p e s m args below meth c R Q hxx hbb S hK hfr hlo hret H ls hP hS hl
  have hB : ∀ q, zAd A q → zAd A q := fun _ h => h
  have hl : lv_has ls 8 [(0, .ref (A 102)), (1, .int (nI a)), (2, .int (nI b)), (3, .int (nI i)), (4, .int (nI j))] := hl
  have S : CallFix p m c cX6_ofRow 8 s args wsL_law RX6 := S
  refine zldc S (v := 1000000) zxX6_138 dX6_ofRow_0 ?_
  rw [show (1000000 : Int32) = nI 1000000 from rfl]
  refine lv_istore (lv' := [(5, .int (nI 1000000)), (0, .ref (A 102)), (1, .int (nI a)), (2, .int (nI b)), (3, .int (nI i)), (4, .int (nI j))]) hxx hbb dX6_ofRow_2 hl (by decide) rfl (fun ls hl => ?_)
  refine lv_iload_n hxx hbb dX6_ofRow_4 rfl (lv_at hl 4 rfl) ?_
  refine lv_istore (lv' := [(6, .int (nI i)), (5, .int (nI 1000000)), (0, .ref (A 102)), (1, .int (nI a)), (2, .int (nI b)), (3, .int (nI i)), (4, .int (nI j))]) hxx hbb dX6_ofRow_5 hl (by decide) rfl (fun ls hl => ?_)
  have L_7 : ∀ (N_7 : Nat) (q u : Nat) (hq : q ≤ j - i + 1) (hu : u = cRow f g i j q) (hu2 : u ≤ 1000000), j + 1 - i - q < N_7 → ∀ (H : Heap) (locs : List Loc) (ls : Array Slot), va_P G.1 vwCl (zW G A Y) H → va_S (zAd A) s.heap H locs → lv_has ls 8 [(0, .ref (A 102)), (1, .int (nI a)), (2, .int (nI b)), (3, .int (nI i)), (4, .int (nI j)), (5, .int (nI u)), (6, .int (nI (i + q)))] → W p l e R s m args below meth c H locs 0 0 Q (F0 m 7 ls []) := by
    intro N_7
    induction N_7 with
    | zero => intro q u hq hu hu2 hm; exact absurd hm (Nat.not_lt_zero _)
    | succ N_7 ih_7 =>
      intro q u hq hu hu2 hm_7 H locs ls hP hS hl
      refine lv_iload hxx hbb dX6_ofRow_7 (lv_at hl 6 rfl) ?_
      refine lv_iload hxx hbb dX6_ofRow_9 (lv_at hl 4 rfl) ?_
      refine zcmp_gt (tgt := 58) S (by omega) (by omega) dX6_ofRow_11 (by decide) (fun c_1 => ?_) (fun c_1 => ?_)
      · skip
        refine lv_iload hxx hbb dX6_ofRow_58 (lv_at hl 5 rfl) ?_
        exact hret _ _ _ _ _ _ dX6_ofRow_60 (rfl) hP hS (⟨by rw [hu, show q = j - i + 1 by omega], rfl⟩)
      · skip
        have hf9 := (hf (i + q) (by omega) (by omega)).2
        have hg9 := (hg (i + q) (by omega) (by omega)).2
        have hc9 := cAdd_le hf9 hg9
        refine lv_aload_n hxx hbb dX6_ofRow_14 rfl (lv_at hl 0 rfl) ?_
        refine lv_iload_n hxx hbb dX6_ofRow_15 rfl (lv_at hl 1 rfl) ?_
        refine lv_iload_n hxx hbb dX6_ofRow_16 rfl (lv_at hl 3 rfl) ?_
        refine lv_iload hxx hbb dX6_ofRow_17 (lv_at hl 6 rfl) ?_
        refine ZI.callV S hK hP hS hB (kX6_costOf l G A Y a i (i + q) (by omega) (by omega) (by omega)) zwX6_139 zdX6_costOf rfl ⟨Nat.le_trans (by decide) hfr, Nat.le_trans (by decide) hlo⟩ (by decide) (zcK6 zk_102) rfl rfl (Nat.le_of_ble_eq_true rfl) hl.1 dX6_ofRow_19 ⟨Nat.zero_le _, Nat.zero_le _⟩ (fun r_2 Y_3 H locs hq_4 hP hS => ?_)
        obtain ⟨hr9, hY9⟩ := hq_4
        have hr9 := hr9.trans ((hf _ (by omega) (by omega)).1)
        subst hr9; rw [hY9] at hP
        refine lv_aload_n hxx hbb dX6_ofRow_22 rfl (lv_at hl 0 rfl) ?_
        refine lv_iload_n hxx hbb dX6_ofRow_23 rfl (lv_at hl 2 rfl) ?_
        refine lv_iload hxx hbb dX6_ofRow_24 (lv_at hl 6 rfl) ?_
        refine lv_iload hxx hbb dX6_ofRow_26 (lv_at hl 4 rfl) ?_
        refine ZI.callV S hK hP hS hB (kX6_costOf l G A Y b (i + q) j (by omega) (by omega) (by omega)) zwX6_139 zdX6_costOf rfl ⟨Nat.le_trans (by decide) hfr, Nat.le_trans (by decide) hlo⟩ (by decide) (zcK6 zk_102) rfl rfl (Nat.le_of_ble_eq_true rfl) hl.1 dX6_ofRow_28 ⟨Nat.zero_le _, Nat.zero_le _⟩ (fun r_5 Y_6 H locs hq_7 hP hS => ?_)
        obtain ⟨hr9, hY9⟩ := hq_7
        have hr9 := hr9.trans ((hg _ (by omega) (by omega)).1)
        subst hr9; rw [hY9] at hP
        refine ZI.callS S hK hP hS hB (kX6_sum l G A Y (f i (i + q)) (g (i + q) j) (by omega) (by omega)) zwX6_142 zdX6_sum rfl ⟨Nat.le_trans (by decide) hfr, Nat.le_trans (by decide) hlo⟩ rfl (Nat.le_of_ble_eq_true rfl) hl.1 dX6_ofRow_31 ⟨Nat.zero_le _, Nat.zero_le _⟩ (fun r_8 Y_9 H locs hq_10 hP hS => ?_)
        obtain ⟨hr9, hY9⟩ := hq_10
        subst hr9; rw [hY9] at hP
        refine lv_istore (lv' := [(7, .int (nI (cAdd (f i (i + q)) (g (i + q) j)))), (0, .ref (A 102)), (1, .int (nI a)), (2, .int (nI b)), (3, .int (nI i)), (4, .int (nI j)), (5, .int (nI u)), (6, .int (nI (i + q)))]) hxx hbb dX6_ofRow_34 hl (by decide) rfl (fun ls hl => ?_)
        refine lv_iload hxx hbb dX6_ofRow_36 (lv_at hl 0 rfl) ?_
        refine lv_iload hxx hbb dX6_ofRow_38 (lv_at hl 6 rfl) ?_
        refine zcmp_ge (tgt := 48) S (by omega) (by omega) dX6_ofRow_40 (by decide) (fun c_11 => ?_) (fun c_11 => ?_)
        · skip
          refine lv_iload hxx hbb dX6_ofRow_48 (lv_at hl 6 rfl) ?_
          refine lv_istore (lv' := [(5, .int (nI u)), (7, .int (nI (cAdd (f i (i + q)) (g (i + q) j)))), (0, .ref (A 102)), (1, .int (nI a)), (2, .int (nI b)), (3, .int (nI i)), (4, .int (nI j)), (6, .int (nI (i + q)))]) hxx hbb dX6_ofRow_50 hl (by decide) rfl (fun ls hl => ?_)
          refine lv_iinc (v := nI (i + q + 1)) (lv' := [(6, .int (nI (i + q + 1))), (5, .int (nI u)), (7, .int (nI (cAdd (f i (i + q)) (g (i + q) j)))), (0, .ref (A 102)), (1, .int (nI a)), (2, .int (nI b)), (3, .int (nI i)), (4, .int (nI j))]) hxx hbb dX6_ofRow_52 hl (k := 7) rfl (zinc1 _) (by decide) rfl (fun ls hl => ?_)
          refine lv_goto (tgt := 7) hxx hbb dX6_ofRow_55 (by decide) ?_
          exact ih_7 (q + 1) u (by omega) (by simp only [cRow, ← hu]; rw [if_neg (by omega)]) (by omega) (by omega) _ _ _ hP hS (lv_sub hl [3, 4, 5, 6, 7, 1, 0] rfl)
        · skip
          refine lv_iload hxx hbb dX6_ofRow_43 (lv_at hl 0 rfl) ?_
          refine lv_goto (tgt := 50) hxx hbb dX6_ofRow_45 (by decide) ?_
          refine lv_istore (lv' := [(5, .int (nI (cAdd (f i (i + q)) (g (i + q) j)))), (7, .int (nI (cAdd (f i (i + q)) (g (i + q) j)))), (0, .ref (A 102)), (1, .int (nI a)), (2, .int (nI b)), (3, .int (nI i)), (4, .int (nI j)), (6, .int (nI (i + q)))]) hxx hbb dX6_ofRow_50 hl (by decide) rfl (fun ls hl => ?_)
          refine lv_iinc (v := nI (i + q + 1)) (lv' := [(6, .int (nI (i + q + 1))), (5, .int (nI (cAdd (f i (i + q)) (g (i + q) j)))), (7, .int (nI (cAdd (f i (i + q)) (g (i + q) j)))), (0, .ref (A 102)), (1, .int (nI a)), (2, .int (nI b)), (3, .int (nI i)), (4, .int (nI j))]) hxx hbb dX6_ofRow_52 hl (k := 7) rfl (zinc1 _) (by decide) rfl (fun ls hl => ?_)
          refine lv_goto (tgt := 7) hxx hbb dX6_ofRow_55 (by decide) ?_
          exact ih_7 (q + 1) (cAdd (f i (i + q)) (g (i + q) j)) (by omega) (by simp only [cRow, ← hu]; rw [if_pos (by omega)]) (by omega) (by omega) _ _ _ hP hS (lv_sub hl [3, 4, 5, 6, 7, 1, 0] rfl)
  exact L_7 (_ + 1) 0 1000000 (by omega) rfl (by omega) (Nat.lt_succ_self _) _ _ _ hP hS (lv_sub hl [2, 3, 4, 5, 6, 1, 0] rfl)

set_option maxHeartbeats 4000000 in
set_option maxRecDepth 100000 in
theorem kX6_ofPlus (l : Launch) (G : zG) (A : Nat → Nat) (Y : zY) (n a i j : Nat) (f x : Nat → Nat → Nat) (hn : n < 24) (ha : a < 24) (hij : i ≤ j) (hj : j ≤ 24) (hf : ∀ k, i ≤ k → k < j → Y 113 (625 * n + 25 * i + k) = nI (f i k) ∧ f i k ≤ 1000000) (hx : ∀ k, i ≤ k → k ≤ j → Y 113 (625 * a + 25 * k + j) = nI (x k j) ∧ x k j ≤ 1000000) : ZI l yX6_ofPlus cX6_ofPlus 8 (.int) 1 23 G A Y [.ref (A 102), .int (nI n), .int (nI a), .int (nI i), .int (nI j)] (fun r Y' => r = nI (cPlv f x i j (j - i - 1)) ∧ Y' = Y) := by
  refine ZI.enter (by decide) (Nat.le_of_ble_eq_true rfl) ?_
  intro p e s m args below meth c R Q hxx hbb S hK hfr hlo hret H ls hP hS hl
  have hB : ∀ q, zAd A q → zAd A q := fun _ h => h
  have hl : lv_has ls 8 [(0, .ref (A 102)), (1, .int (nI n)), (2, .int (nI a)), (3, .int (nI i)), (4, .int (nI j))] := hl
  have S : CallFix p m c cX6_ofPlus 8 s args wsL_law RX6 := S
  refine lv_aload_n hxx hbb dX6_ofPlus_0 rfl (lv_at hl 0 rfl) ?_
  refine lv_iload_n hxx hbb dX6_ofPlus_1 rfl (lv_at hl 2 rfl) ?_
  refine lv_iload_n hxx hbb dX6_ofPlus_2 rfl (lv_at hl 3 rfl) ?_
  refine lv_iload hxx hbb dX6_ofPlus_3 (lv_at hl 4 rfl) ?_
  refine ZI.callV S hK hP hS hB (kX6_costOf l G A Y a i j (by omega) (by omega) (by omega)) zwX6_139 zdX6_costOf rfl ⟨Nat.le_trans (by decide) hfr, Nat.le_trans (by decide) hlo⟩ (by decide) (zcK6 zk_102) rfl rfl (Nat.le_of_ble_eq_true rfl) hl.1 dX6_ofPlus_5 ⟨Nat.zero_le _, Nat.zero_le _⟩ (fun r_1 Y_2 H locs hq_3 hP hS => ?_)
  obtain ⟨hr9, hY9⟩ := hq_3
  have hr9 := hr9.trans ((hx i (by omega) (by omega)).1)
  subst hr9; rw [hY9] at hP
  refine lv_istore (lv' := [(5, .int (nI (x i j))), (0, .ref (A 102)), (1, .int (nI n)), (2, .int (nI a)), (3, .int (nI i)), (4, .int (nI j))]) hxx hbb dX6_ofPlus_8 hl (by decide) rfl (fun ls hl => ?_)
  refine lv_iload_n hxx hbb dX6_ofPlus_10 rfl (lv_at hl 4 rfl) ?_
  refine lv_iconst (v := nI 1) hxx hbb dX6_ofPlus_11 (by decide) ?_
  refine zaddN S dX6_ofPlus_12 ?_
  refine lv_istore (lv' := [(6, .int (nI (i + 1))), (5, .int (nI (x i j))), (0, .ref (A 102)), (1, .int (nI n)), (2, .int (nI a)), (3, .int (nI i)), (4, .int (nI j))]) hxx hbb dX6_ofPlus_13 hl (by decide) rfl (fun ls hl => ?_)
  have L_15 : ∀ (N_15 : Nat) (q u : Nat) (hq : q ≤ j - i - 1) (hu : u = cPlv f x i j q) (hu2 : u ≤ 1000000), j - i - q < N_15 → ∀ (H : Heap) (locs : List Loc) (ls : Array Slot), va_P G.1 vwCl (zW G A Y) H → va_S (zAd A) s.heap H locs → lv_has ls 8 [(0, .ref (A 102)), (1, .int (nI n)), (2, .int (nI a)), (3, .int (nI i)), (4, .int (nI j)), (5, .int (nI u)), (6, .int (nI (i + 1 + q)))] → W p l e R s m args below meth c H locs 0 0 Q (F0 m 15 ls []) := by
    intro N_15
    induction N_15 with
    | zero => intro q u hq hu hu2 hm; exact absurd hm (Nat.not_lt_zero _)
    | succ N_15 ih_15 =>
      intro q u hq hu hu2 hm_15 H locs ls hP hS hl
      refine lv_iload hxx hbb dX6_ofPlus_15 (lv_at hl 6 rfl) ?_
      refine lv_iload hxx hbb dX6_ofPlus_17 (lv_at hl 4 rfl) ?_
      refine zcmp_ge (tgt := 66) S (by omega) (by omega) dX6_ofPlus_19 (by decide) (fun c_4 => ?_) (fun c_4 => ?_)
      · skip
        refine lv_iload hxx hbb dX6_ofPlus_66 (lv_at hl 5 rfl) ?_
        exact hret _ _ _ _ _ _ dX6_ofPlus_68 (rfl) hP hS (⟨by rw [hu, show q = j - i - 1 by omega], rfl⟩)
      · skip
        have hf9 := (hf (i + 1 + q) (by omega) (by omega)).2
        have hx9 := (hx (i + 1 + q) (by omega) (by omega)).2
        have hc9 := cAdd_le hf9 hx9
        refine lv_aload_n hxx hbb dX6_ofPlus_22 rfl (lv_at hl 0 rfl) ?_
        refine lv_iload_n hxx hbb dX6_ofPlus_23 rfl (lv_at hl 1 rfl) ?_
        refine lv_iload_n hxx hbb dX6_ofPlus_24 rfl (lv_at hl 3 rfl) ?_
        refine lv_iload hxx hbb dX6_ofPlus_25 (lv_at hl 6 rfl) ?_
        refine ZI.callV S hK hP hS hB (kX6_costOf l G A Y n i (i + 1 + q) (by omega) (by omega) (by omega)) zwX6_139 zdX6_costOf rfl ⟨Nat.le_trans (by decide) hfr, Nat.le_trans (by decide) hlo⟩ (by decide) (zcK6 zk_102) rfl rfl (Nat.le_of_ble_eq_true rfl) hl.1 dX6_ofPlus_27 ⟨Nat.zero_le _, Nat.zero_le _⟩ (fun r_5 Y_6 H locs hq_7 hP hS => ?_)
        obtain ⟨hr9, hY9⟩ := hq_7
        have hr9 := hr9.trans ((hf _ (by omega) (by omega)).1)
        subst hr9; rw [hY9] at hP
        refine lv_aload_n hxx hbb dX6_ofPlus_30 rfl (lv_at hl 0 rfl) ?_
        refine lv_iload_n hxx hbb dX6_ofPlus_31 rfl (lv_at hl 2 rfl) ?_
        refine lv_iload hxx hbb dX6_ofPlus_32 (lv_at hl 6 rfl) ?_
        refine lv_iload hxx hbb dX6_ofPlus_34 (lv_at hl 4 rfl) ?_
        refine ZI.callV S hK hP hS hB (kX6_costOf l G A Y a (i + 1 + q) j (by omega) (by omega) (by omega)) zwX6_139 zdX6_costOf rfl ⟨Nat.le_trans (by decide) hfr, Nat.le_trans (by decide) hlo⟩ (by decide) (zcK6 zk_102) rfl rfl (Nat.le_of_ble_eq_true rfl) hl.1 dX6_ofPlus_36 ⟨Nat.zero_le _, Nat.zero_le _⟩ (fun r_8 Y_9 H locs hq_10 hP hS => ?_)
        obtain ⟨hr9, hY9⟩ := hq_10
        have hr9 := hr9.trans ((hx _ (by omega) (by omega)).1)
        subst hr9; rw [hY9] at hP
        refine ZI.callS S hK hP hS hB (kX6_sum l G A Y (f i (i + 1 + q)) (x (i + 1 + q) j) (by omega) (by omega)) zwX6_142 zdX6_sum rfl ⟨Nat.le_trans (by decide) hfr, Nat.le_trans (by decide) hlo⟩ rfl (Nat.le_of_ble_eq_true rfl) hl.1 dX6_ofPlus_39 ⟨Nat.zero_le _, Nat.zero_le _⟩ (fun r_11 Y_12 H locs hq_13 hP hS => ?_)
        obtain ⟨hr9, hY9⟩ := hq_13
        subst hr9; rw [hY9] at hP
        refine lv_istore (lv' := [(7, .int (nI (cAdd (f i (i + 1 + q)) (x (i + 1 + q) j)))), (0, .ref (A 102)), (1, .int (nI n)), (2, .int (nI a)), (3, .int (nI i)), (4, .int (nI j)), (5, .int (nI u)), (6, .int (nI (i + 1 + q)))]) hxx hbb dX6_ofPlus_42 hl (by decide) rfl (fun ls hl => ?_)
        refine lv_iload hxx hbb dX6_ofPlus_44 (lv_at hl 0 rfl) ?_
        refine lv_iload hxx hbb dX6_ofPlus_46 (lv_at hl 6 rfl) ?_
        refine zcmp_ge (tgt := 56) S (by omega) (by omega) dX6_ofPlus_48 (by decide) (fun c_14 => ?_) (fun c_14 => ?_)
        · skip
          refine lv_iload hxx hbb dX6_ofPlus_56 (lv_at hl 6 rfl) ?_
          refine lv_istore (lv' := [(5, .int (nI u)), (7, .int (nI (cAdd (f i (i + 1 + q)) (x (i + 1 + q) j)))), (0, .ref (A 102)), (1, .int (nI n)), (2, .int (nI a)), (3, .int (nI i)), (4, .int (nI j)), (6, .int (nI (i + 1 + q)))]) hxx hbb dX6_ofPlus_58 hl (by decide) rfl (fun ls hl => ?_)
          refine lv_iinc (v := nI (i + 1 + q + 1)) (lv' := [(6, .int (nI (i + 1 + q + 1))), (5, .int (nI u)), (7, .int (nI (cAdd (f i (i + 1 + q)) (x (i + 1 + q) j)))), (0, .ref (A 102)), (1, .int (nI n)), (2, .int (nI a)), (3, .int (nI i)), (4, .int (nI j))]) hxx hbb dX6_ofPlus_60 hl (k := 7) rfl (zinc1 _) (by decide) rfl (fun ls hl => ?_)
          refine lv_goto (tgt := 15) hxx hbb dX6_ofPlus_63 (by decide) ?_
          exact ih_15 (q + 1) u (by omega) (by simp only [cPlv, ← hu]; rw [if_neg (by omega)]) (by omega) (by omega) _ _ _ hP hS (lv_sub hl [3, 4, 5, 6, 7, 1, 0] rfl)
        · skip
          refine lv_iload hxx hbb dX6_ofPlus_51 (lv_at hl 0 rfl) ?_
          refine lv_goto (tgt := 58) hxx hbb dX6_ofPlus_53 (by decide) ?_
          refine lv_istore (lv' := [(5, .int (nI (cAdd (f i (i + 1 + q)) (x (i + 1 + q) j)))), (7, .int (nI (cAdd (f i (i + 1 + q)) (x (i + 1 + q) j)))), (0, .ref (A 102)), (1, .int (nI n)), (2, .int (nI a)), (3, .int (nI i)), (4, .int (nI j)), (6, .int (nI (i + 1 + q)))]) hxx hbb dX6_ofPlus_58 hl (by decide) rfl (fun ls hl => ?_)
          refine lv_iinc (v := nI (i + 1 + q + 1)) (lv' := [(6, .int (nI (i + 1 + q + 1))), (5, .int (nI (cAdd (f i (i + 1 + q)) (x (i + 1 + q) j)))), (7, .int (nI (cAdd (f i (i + 1 + q)) (x (i + 1 + q) j)))), (0, .ref (A 102)), (1, .int (nI n)), (2, .int (nI a)), (3, .int (nI i)), (4, .int (nI j))]) hxx hbb dX6_ofPlus_60 hl (k := 7) rfl (zinc1 _) (by decide) rfl (fun ls hl => ?_)
          refine lv_goto (tgt := 15) hxx hbb dX6_ofPlus_63 (by decide) ?_
          exact ih_15 (q + 1) (cAdd (f i (i + 1 + q)) (x (i + 1 + q) j)) (by omega) (by simp only [cPlv, ← hu]; rw [if_pos (by omega)]) (by omega) (by omega) _ _ _ hP hS (lv_sub hl [3, 4, 5, 6, 7, 1, 0] rfl)
  exact L_15 (_ + 1) 0 (x i j) (by omega) rfl ((hx i (by omega) (by omega)).2) (Nat.lt_succ_self _) _ _ _ hP hS (lv_sub hl [2, 3, 4, 5, 6, 1, 0] rfl)
end
section
theorem cSet_le {st : Nat} {tx : Nat → Nat} {ad mi wr i j : Nat} (ha : ad ≤ 9) (hm : mi ≤ 9) (hj : j ≤ 24) : cSet st tx ad mi wr i j ≤ 1000000 := by
  have h1 := c9 (a := j - i) (b := ad) (by omega) ha
  unfold cSet
  split
  · omega
  · by_cases h : mi + (j - i) * ad < (j - i - 1) * ad + (if cFit st tx i (j - i) = 0 then wr else 0)
    · rw [if_pos h]; omega
    · rw [if_neg h]; omega
theorem cRow_le {f g : Nat → Nat → Nat} {i j : Nat} : ∀ n, cRow f g i j n ≤ 1000000
  | 0 => Nat.le_refl _
  | n + 1 => by
    have := cRow_le (f := f) (g := g) (i := i) (j := j) n
    simp only [cRow]; split <;> omega
theorem cPlv_le {f x : Nat → Nat → Nat} {i j : Nat} (h : x i j ≤ 1000000) : ∀ n, cPlv f x i j n ≤ 1000000
  | 0 => h
  | n + 1 => by
    have := cPlv_le (f := f) h n
    simp only [cPlv]; split <;> omega
theorem cPl_le {x : Nat → Nat → Nat} {i j : Nat} (h : x i j ≤ 1000000) : cPl x i j ≤ 1000000 := by rw [cPl_eq]; exact cPlv_le h _
theorem cNode_le {kd lf rt tx : Nat → Nat} {ad mi wr : Nat} {T : Nat → Nat → Nat → Nat} {n i j : Nat} (ha : ad ≤ 9) (hm : mi ≤ 9) (hj : j ≤ 24) (hT : kd n ≠ 0 → T (lf n) i j ≤ 1000000) : cNode kd lf rt tx ad mi wr T n i j ≤ 1000000 := by
  have h9 := c9 (a := j - i) (b := ad) (by omega) ha
  unfold cNode
  split
  · exact cSet_le ha hm hj
  · rename_i h0
    have h := hT h0
    split
    · exact cRow_le _
    · split
      · split <;> omega
      · split
        · split <;> omega
        · split
          · split <;> omega
          · exact cPl_le h
theorem cStar_le {kd : Nat → Nat} {ad v n i j : Nat} (h : v ≤ 1000000) : cStar kd ad v n i j ≤ 1000000 := by
  unfold cStar; split
  · split <;> omega
  · exact h
theorem cCost_le {nn : Nat} {kd lf rt tx : Nat → Nat} {ad mi wr : Nat} (hw : wfN nn kd lf rt) (ha : ad ≤ 9) (hm : mi ≤ 9) {j : Nat} (hj : j ≤ 24) : ∀ n, n < nn → ∀ i, cCost kd lf rt tx ad mi wr n i j ≤ 1000000 := by
  intro n
  induction n using Nat.strongRecOn with
  | ind n ih =>
    intro hn i
    obtain ⟨h1, h2, h3, h4, h5, h6⟩ := hw.2 n hn
    rw [cCost_eq h4 h5]
    exact cStar_le (cNode_le ha hm hj (fun h => ih _ (h4 h) (by have := h4 h; omega) i))
theorem cNode_pl {kd lf rt tx : Nat → Nat} {ad mi wr : Nat} {T : Nat → Nat → Nat → Nat} {n i j : Nat} (h : kd n = 3 ∨ kd n = 4) : cNode kd lf rt tx ad mi wr T n i j = cPl (T (lf n)) i j := by
  unfold cNode
  rw [if_neg (by omega), if_neg (by omega), if_neg (by omega), if_neg (by omega), if_neg (by omega)]
/-- only the table of costs, and the sign that it is known, have changed -/
def MK (Y Z : zY) : Prop := (∀ q, q ≠ 113 → q ≠ 102 → Z q = Y q) ∧ ∀ k, k ≠ 21 → Z 102 k = Y 102 k
theorem MK.rf {Y : zY} : MK Y Y := ⟨fun _ _ _ => rfl, fun _ _ => rfl⟩
theorem MK.trans {X Y Z : zY} (h : MK X Y) (h2 : MK Y Z) : MK X Z := ⟨fun q a b => (h2.1 q a b).trans (h.1 q a b), fun k a => (h2.2 k a).trans (h.2 k a)⟩
theorem MK.put {Y Z : zY} {j : Nat} {v : Int32} (h : MK Y Z) : MK Y (zU Z 113 j v) := ⟨fun q a b => (zU_row a).trans (h.1 q a b), fun k a => (zU_np (by decide)).trans (h.2 k a)⟩
theorem MK.known {Y : zY} {v : Int32} : MK Y (zU Y 102 21 v) := ⟨fun q _ b => zU_row b, fun k a => zU_nj a⟩
theorem MC.keep {Y Z : zY} {nn : Nat} {kd lf rt tx : Nat → Nat} {len ad mi wr : Nat} (h : MC Y nn kd lf rt tx len ad mi wr) (k : MK Y Z) : MC Z nn kd lf rt tx len ad mi wr := by
  obtain ⟨a1, a2, a3, a4, a5, a6, a7, a8, a9, b1, b2, b3, b4⟩ := h
  refine ⟨a1, a2, a3, a4, a5, a6, ?_, ?_, ?_, ?_, ?_, ?_, ?_⟩
  · rw [k.2 2 (by decide)]; exact a7
  · rw [k.2 19 (by decide)]; exact a8
  · rw [k.2 15 (by decide)]; exact a9
  · rw [k.2 16 (by decide)]; exact b1
  · rw [k.2 17 (by decide)]; exact b2
  · rw [k.1 112 (by decide) (by decide)]; exact b3
  · rw [k.1 104 (by decide) (by decide), k.1 105 (by decide) (by decide), k.1 106 (by decide) (by decide)]; exact b4
/-- the table holds C for all nodes before n; for node n, W; for node n, V in the cells that come before (i, j) -/
def TBn (Y : zY) (C : Nat → Nat → Nat → Nat) (len n : Nat) : Prop := ∀ a, a < n → ∀ i j, i ≤ j → j ≤ len → Y 113 (625 * a + 25 * i + j) = nI (C a i j)
def TBx (Y : zY) (W : Nat → Nat → Nat) (len n : Nat) : Prop := ∀ i j, i ≤ j → j ≤ len → Y 113 (625 * n + 25 * i + j) = nI (W i j)
def TBd (Y : zY) (V : Nat → Nat → Nat) (len n i j : Nat) : Prop := ∀ a b, a ≤ b → b ≤ len → (a < i ∨ (a = i ∧ b < j)) → Y 113 (625 * n + 25 * a + b) = nI (V a b)
def mx (S V : Nat → Nat → Nat) (i j : Nat) : Nat → Nat → Nat := fun a b => if a < i ∨ (a = i ∧ b < j) then S a b else V a b
theorem TBn.put {Y : zY} {C : Nat → Nat → Nat → Nat} {len n i j : Nat} {v : Int32} (h : TBn Y C len n) (hl : len ≤ 24) (hi : i ≤ 24) (hj : j ≤ 24) : TBn (zU Y 113 (625 * n + 25 * i + j) v) C len n := fun a ha i' j' h1 h2 => (zU_nj (by omega)).trans (h a ha i' j' h1 h2)
theorem TBd.put {Y : zY} {V : Nat → Nat → Nat} {len n i j : Nat} (h : TBd Y V len n i j) (hl : len ≤ 24) (hi : i ≤ 24) (hj : j ≤ 24) : TBd (zU Y 113 (625 * n + 25 * i + j) (nI (V i j))) V len n i (j + 1) := by
  intro a b h1 h2 h3
  by_cases e : a = i ∧ b = j
  · obtain ⟨rfl, rfl⟩ := e
    exact zU_eq
  · exact (zU_nj (by omega)).trans (h a b h1 h2 (by omega))
theorem TBx.put {Y : zY} {S V : Nat → Nat → Nat} {len n i j : Nat} (h : TBx Y (mx S V i j) len n) (hl : len ≤ 24) (hi : i ≤ 24) (hj : j ≤ 24) : TBx (zU Y 113 (625 * n + 25 * i + j) (nI (S i j))) (mx S V i (j + 1)) len n := by
  intro a b h1 h2
  by_cases e : a = i ∧ b = j
  · obtain ⟨rfl, rfl⟩ := e
    rw [zU_eq, mx, if_pos (by omega)]
  · rw [zU_nj (by omega), h a b h1 h2]
    unfold mx
    by_cases e2 : a < i ∨ (a = i ∧ b < j)
    · rw [if_pos e2, if_pos (by omega)]
    · rw [if_neg e2, if_neg (by omega)]
theorem TBx.congr {Y : zY} {V W : Nat → Nat → Nat} {len n : Nat} (h : TBx Y V len n) (e : ∀ a b, a ≤ b → b ≤ len → V a b = W a b) : TBx Y W len n := fun a b h1 h2 => (h a b h1 h2).trans (by rw [e a b h1 h2])
theorem TBd.all {Y : zY} {V : Nat → Nat → Nat} {len n i : Nat} (h : TBd Y V len n i 0) (hi : len < i) : TBx Y V len n := fun a b h1 h2 => h a b h1 h2 (by omega)
theorem TBd.next {Y : zY} {V : Nat → Nat → Nat} {len n i j : Nat} (h : TBd Y V len n i j) (hj : len < j) : TBd Y V len n (i + 1) 0 := fun a b h1 h2 h3 => h a b h1 h2 (by omega)
theorem TBd.fst {Y : zY} {V : Nat → Nat → Nat} {len n i : Nat} (h : TBd Y V len n i 0) : TBd Y V len n i i := fun a b h1 h2 h3 => h a b h1 h2 (by omega)
theorem TBd.nil {Y : zY} {V : Nat → Nat → Nat} {len n : Nat} : TBd Y V len n 0 0 := fun a b h1 h2 h3 => absurd h3 (by omega)
theorem mx_0 {S V : Nat → Nat → Nat} (a b : Nat) : V a b = mx S V 0 0 a b := by unfold mx; rw [if_neg (by omega)]
theorem mx_row {S V : Nat → Nat → Nat} {i : Nat} (a b : Nat) (h : a ≤ b) : mx S V i 0 a b = mx S V i i a b := by
  unfold mx
  by_cases e : a < i
  · rw [if_pos (by omega), if_pos (by omega)]
  · rw [if_neg (by omega), if_neg (by omega)]
theorem mx_next {S V : Nat → Nat → Nat} {len i j : Nat} (hj : len < j) (a b : Nat) (h : b ≤ len) : mx S V i j a b = mx S V (i + 1) 0 a b := by
  unfold mx
  by_cases e : a < i + 1
  · rw [if_pos (by omega), if_pos (by omega)]
  · rw [if_neg (by omega), if_neg (by omega)]
theorem mx_all {S V : Nat → Nat → Nat} {len i : Nat} (hi : len < i) (a b : Nat) (h1 : a ≤ b) (h : b ≤ len) : mx S V i 0 a b = S a b := by unfold mx; rw [if_pos (by omega)]
theorem mx_same {S V : Nat → Nat → Nat} {i j : Nat} (h : ∀ a b, S a b = V a b) (a b : Nat) : mx S V i j a b = S a b := by unfold mx; split; rfl; exact (h a b).symm
theorem mx_at {S V : Nat → Nat → Nat} {i j : Nat} : mx S V i j i j = V i j := by unfold mx; rw [if_neg (by omega)]
theorem TBn.succ {Y : zY} {C : Nat → Nat → Nat → Nat} {len n : Nat} (h : TBn Y C len n) (h2 : TBx Y (C n) len n) : TBn Y C len (n + 1) := fun a ha i j h3 h4 => by
  rcases Nat.lt_succ_iff_lt_or_eq.mp ha with h5 | rfl
  · exact h a h5 i j h3 h4
  · exact h2 i j h3 h4
/-- the model's table of costs: not known, or right -/
def MT (Y : zY) (C : Nat → Nat → Nat → Nat) (len nn : Nat) : Prop := Y 102 21 = nI 0 ∨ (Y 102 21 = nI 1 ∧ TBn Y C len nn)
set_option maxHeartbeats 4000000 in
set_option maxRecDepth 100000 in
theorem kX6_ofNode (l : Launch) (G : zG) (A : Nat → Nat) (Y : zY) (n i j : Nat) (nn : Nat) (kd lf rt tx : Nat → Nat) (len ad mi wr : Nat) (T : Nat → Nat → Nat → Nat) (hMC : MC Y nn kd lf rt tx len ad mi wr) (hn : n < nn) (hij : i ≤ j) (hj : j ≤ len) (hT : ∀ a i' j', a < n → i' ≤ j' → j' ≤ len → Y 113 (625 * a + 25 * i' + j') = nI (T a i' j') ∧ T a i' j' ≤ 1000000) (hO : (kd n = 3 ∨ kd n = 4) → ∀ k, i ≤ k → k < j → Y 113 (625 * n + 25 * i + k) = nI (cPl (T (lf n)) i k) ∧ cPl (T (lf n)) i k ≤ 1000000) : ZI l yX6_ofNode cX6_ofNode 6 (.int) 2 50 G A Y [.ref (A 102), .int (nI n), .int (nI i), .int (nI j)] (fun r Y' => r = nI (cNode kd lf rt tx ad mi wr T n i j) ∧ Y' = Y) := by
  refine ZI.enter (by decide) (Nat.le_of_ble_eq_true rfl) ?_
  intro p e s m args below meth c R Q hxx hbb S hK hfr hlo hret H ls hP hS hl
  have hB : ∀ q, zAd A q → zAd A q := fun _ h => h
  have hl : lv_has ls 6 [(0, .ref (A 102)), (1, .int (nI n)), (2, .int (nI i)), (3, .int (nI j))] := hl
  have S : CallFix p m c cX6_ofNode 6 s args wsL_law RX6 := S
  have hMC9 := hMC
  obtain ⟨hwf, hlen, had, hmi, hwr, htx, hY2, hY19, hY15, hY16, hY17, hYt, hYn⟩ := hMC
  obtain ⟨hk6, hrt, hl0, hl1, hr1, hl6⟩ := hwf.2 n hn
  have hnn := hwf.1
  refine lv_aload_n hxx hbb dX6_ofNode_0 rfl (lv_at hl 0 rfl) ?_
  refine zgX6_16 S hK hP 102 (by decide) zk_102 dX6_ofNode_1 ?_
  refine lv_iload_n hxx hbb dX6_ofNode_4 rfl (lv_at hl 1 rfl) ?_
  refine zaldN S hK hP 105 24 (by decide) zk_105 zl_105 (by omega) (v := nI (lf n)) ((hYn _ (by omega)).2.1) dX6_ofNode_5 ?_
  refine lv_istore (lv' := [(4, .int (nI (lf n))), (0, .ref (A 102)), (1, .int (nI n)), (2, .int (nI i)), (3, .int (nI j))]) hxx hbb dX6_ofNode_6 hl (by decide) rfl (fun ls hl => ?_)
  refine lv_aload_n hxx hbb dX6_ofNode_8 rfl (lv_at hl 1 rfl) ?_
  refine zgX6_19 S hK hP 102 (by decide) zk_102 dX6_ofNode_9 ?_
  refine lv_iload_n hxx hbb dX6_ofNode_12 rfl (lv_at hl 2 rfl) ?_
  refine zaldN S hK hP 106 24 (by decide) zk_106 zl_106 (by omega) (v := nI (rt n)) ((hYn _ (by omega)).2.2) dX6_ofNode_13 ?_
  refine lv_istore (lv' := [(5, .int (nI (rt n))), (4, .int (nI (lf n))), (0, .ref (A 102)), (1, .int (nI n)), (2, .int (nI i)), (3, .int (nI j))]) hxx hbb dX6_ofNode_14 hl (by decide) rfl (fun ls hl => ?_)
  refine lv_aload_n hxx hbb dX6_ofNode_16 rfl (lv_at hl 2 rfl) ?_
  refine zgX6_13 S hK hP 102 (by decide) zk_102 dX6_ofNode_17 ?_
  refine lv_iload_n hxx hbb dX6_ofNode_20 rfl (lv_at hl 3 rfl) ?_
  refine zaldN S hK hP 104 24 (by decide) zk_104 zl_104 (by omega) (v := nI (kd n)) ((hYn _ (by omega)).1) dX6_ofNode_21 ?_
  by_cases c_1 : kd n = 0
  · skip
    refine ztabIn S (k := 0) (off := 42) (tgt := 64) c_1 dX6_ofNode_22 (by decide) (by decide) rfl (by decide) ?_
    refine lv_aload_n hxx hbb dX6_ofNode_64 rfl (lv_at hl 2 rfl) ?_
    refine lv_iload hxx hbb dX6_ofNode_65 (lv_at hl 1 rfl) ?_
    refine lv_iload_n hxx hbb dX6_ofNode_67 rfl (lv_at hl 4 rfl) ?_
    refine lv_iload_n hxx hbb dX6_ofNode_68 rfl (lv_at hl 5 rfl) ?_
    refine ZI.callV S hK hP hS hB (kX6_ofSet l G A Y (lf n) i j nn kd lf rt tx len ad mi wr hMC9 (by omega) (by omega) (by omega)) zwX6_146 zdX6_ofSet rfl ⟨Nat.le_trans (by decide) hfr, Nat.le_trans (by decide) hlo⟩ (by decide) (zcK6 zk_102) rfl rfl (Nat.le_of_ble_eq_true rfl) hl.1 dX6_ofNode_69 ⟨Nat.zero_le _, Nat.zero_le _⟩ (fun r_2 Y_3 H locs hq_4 hP hS => ?_)
    obtain ⟨hr9, hY9⟩ := hq_4
    subst hr9; rw [hY9] at hP
    exact hret _ _ _ _ _ _ dX6_ofNode_72 (rfl) hP hS (⟨by simp only [cNode]; (repeat (first | rw [if_pos (by omega)] | rw [if_neg (by omega)])), rfl⟩)
  by_cases c_5 : kd n = 1
  · skip
    refine ztabIn S (k := 1) (off := 51) (tgt := 73) c_5 dX6_ofNode_22 (by decide) (by decide) rfl (by decide) ?_
    refine lv_aload_n hxx hbb dX6_ofNode_73 rfl (lv_at hl 2 rfl) ?_
    refine lv_iload hxx hbb dX6_ofNode_74 (lv_at hl 1 rfl) ?_
    refine lv_iload hxx hbb dX6_ofNode_76 (lv_at hl 0 rfl) ?_
    refine lv_iload_n hxx hbb dX6_ofNode_78 rfl (lv_at hl 4 rfl) ?_
    refine lv_iload_n hxx hbb dX6_ofNode_79 rfl (lv_at hl 5 rfl) ?_
    refine ZI.callV S hK hP hS hB (kX6_ofRow l G A Y (lf n) (rt n) i j (T (lf n)) (T (rt n)) (by omega) (by omega) hij (by omega) (fun k h1 h2 => hT _ _ _ (by omega) h1 (by omega)) (fun k h1 h2 => hT _ _ _ (by omega) h2 hj)) zwX6_149 zdX6_ofRow rfl ⟨Nat.le_trans (by decide) hfr, Nat.le_trans (by decide) hlo⟩ (by decide) (zcK6 zk_102) rfl rfl (Nat.le_of_ble_eq_true rfl) hl.1 dX6_ofNode_80 ⟨Nat.zero_le _, Nat.zero_le _⟩ (fun r_6 Y_7 H locs hq_8 hP hS => ?_)
    obtain ⟨hr9, hY9⟩ := hq_8
    subst hr9; rw [hY9] at hP
    exact hret _ _ _ _ _ _ dX6_ofNode_83 (rfl) hP hS (⟨by simp only [cNode]; (repeat (first | rw [if_pos (by omega)] | rw [if_neg (by omega)])), rfl⟩)
  by_cases c_9 : kd n = 2
  · skip
    refine ztabIn S (k := 2) (off := 62) (tgt := 84) c_9 dX6_ofNode_22 (by decide) (by decide) rfl (by decide) ?_
    have ht1 := (hT (lf n) i j (by omega) hij hj).2
    have ht2 := (hT (rt n) i j (by omega) hij hj).2
    refine lv_aload_n hxx hbb dX6_ofNode_84 rfl (lv_at hl 2 rfl) ?_
    refine lv_iload hxx hbb dX6_ofNode_85 (lv_at hl 1 rfl) ?_
    refine lv_iload_n hxx hbb dX6_ofNode_87 rfl (lv_at hl 4 rfl) ?_
    refine lv_iload_n hxx hbb dX6_ofNode_88 rfl (lv_at hl 5 rfl) ?_
    refine ZI.callV S hK hP hS hB (kX6_costOf l G A Y (lf n) i j (by omega) (by omega) (by omega)) zwX6_139 zdX6_costOf rfl ⟨Nat.le_trans (by decide) hfr, Nat.le_trans (by decide) hlo⟩ (by decide) (zcK6 zk_102) rfl rfl (Nat.le_of_ble_eq_true rfl) hl.1 dX6_ofNode_89 ⟨Nat.zero_le _, Nat.zero_le _⟩ (fun r_10 Y_11 H locs hq_12 hP hS => ?_)
    obtain ⟨hr9, hY9⟩ := hq_12
    have hr9 := hr9.trans ((hT _ _ _ (by omega) hij hj).1)
    subst hr9; rw [hY9] at hP
    refine lv_aload_n hxx hbb dX6_ofNode_92 rfl (lv_at hl 2 rfl) ?_
    refine lv_iload hxx hbb dX6_ofNode_93 (lv_at hl 0 rfl) ?_
    refine lv_iload_n hxx hbb dX6_ofNode_95 rfl (lv_at hl 4 rfl) ?_
    refine lv_iload_n hxx hbb dX6_ofNode_96 rfl (lv_at hl 5 rfl) ?_
    refine ZI.callV S hK hP hS hB (kX6_costOf l G A Y (rt n) i j (by omega) (by omega) (by omega)) zwX6_139 zdX6_costOf rfl ⟨Nat.le_trans (by decide) hfr, Nat.le_trans (by decide) hlo⟩ (by decide) (zcK6 zk_102) rfl rfl (Nat.le_of_ble_eq_true rfl) hl.1 dX6_ofNode_97 ⟨Nat.zero_le _, Nat.zero_le _⟩ (fun r_13 Y_14 H locs hq_15 hP hS => ?_)
    obtain ⟨hr9, hY9⟩ := hq_15
    have hr9 := hr9.trans ((hT _ _ _ (by omega) hij hj).1)
    subst hr9; rw [hY9] at hP
    refine zcmp_ge (tgt := 114) S (by omega) (by omega) dX6_ofNode_100 (by decide) (fun c_16 => ?_) (fun c_16 => ?_)
    · skip
      refine lv_aload_n hxx hbb dX6_ofNode_114 rfl (lv_at hl 2 rfl) ?_
      refine lv_iload hxx hbb dX6_ofNode_115 (lv_at hl 0 rfl) ?_
      refine lv_iload_n hxx hbb dX6_ofNode_117 rfl (lv_at hl 4 rfl) ?_
      refine lv_iload_n hxx hbb dX6_ofNode_118 rfl (lv_at hl 5 rfl) ?_
      refine ZI.callV S hK hP hS hB (kX6_costOf l G A Y (rt n) i j (by omega) (by omega) (by omega)) zwX6_139 zdX6_costOf rfl ⟨Nat.le_trans (by decide) hfr, Nat.le_trans (by decide) hlo⟩ (by decide) (zcK6 zk_102) rfl rfl (Nat.le_of_ble_eq_true rfl) hl.1 dX6_ofNode_119 ⟨Nat.zero_le _, Nat.zero_le _⟩ (fun r_17 Y_18 H locs hq_19 hP hS => ?_)
      obtain ⟨hr9, hY9⟩ := hq_19
      have hr9 := hr9.trans ((hT _ _ _ (by omega) hij hj).1)
      subst hr9; rw [hY9] at hP
      exact hret _ _ _ _ _ _ dX6_ofNode_122 (rfl) hP hS (⟨by simp only [cNode]; (repeat (first | rw [if_pos (by omega)] | rw [if_neg (by omega)])), rfl⟩)
    · skip
      refine lv_aload_n hxx hbb dX6_ofNode_103 rfl (lv_at hl 2 rfl) ?_
      refine lv_iload hxx hbb dX6_ofNode_104 (lv_at hl 1 rfl) ?_
      refine lv_iload_n hxx hbb dX6_ofNode_106 rfl (lv_at hl 4 rfl) ?_
      refine lv_iload_n hxx hbb dX6_ofNode_107 rfl (lv_at hl 5 rfl) ?_
      refine ZI.callV S hK hP hS hB (kX6_costOf l G A Y (lf n) i j (by omega) (by omega) (by omega)) zwX6_139 zdX6_costOf rfl ⟨Nat.le_trans (by decide) hfr, Nat.le_trans (by decide) hlo⟩ (by decide) (zcK6 zk_102) rfl rfl (Nat.le_of_ble_eq_true rfl) hl.1 dX6_ofNode_108 ⟨Nat.zero_le _, Nat.zero_le _⟩ (fun r_20 Y_21 H locs hq_22 hP hS => ?_)
      obtain ⟨hr9, hY9⟩ := hq_22
      have hr9 := hr9.trans ((hT _ _ _ (by omega) hij hj).1)
      subst hr9; rw [hY9] at hP
      refine lv_goto (tgt := 122) hxx hbb dX6_ofNode_111 (by decide) ?_
      exact hret _ _ _ _ _ _ dX6_ofNode_122 (rfl) hP hS (⟨by simp only [cNode]; (repeat (first | rw [if_pos (by omega)] | rw [if_neg (by omega)])), rfl⟩)
  by_cases c_23 : kd n = 3
  · skip
    refine ztabIn S (k := 3) (off := 167) (tgt := 189) c_23 dX6_ofNode_22 (by decide) (by decide) rfl (by decide) ?_
    refine lv_aload_n hxx hbb dX6_ofNode_189 rfl (lv_at hl 2 rfl) ?_
    refine lv_iload_n hxx hbb dX6_ofNode_190 rfl (lv_at hl 3 rfl) ?_
    refine lv_iload hxx hbb dX6_ofNode_191 (lv_at hl 1 rfl) ?_
    refine lv_iload_n hxx hbb dX6_ofNode_193 rfl (lv_at hl 4 rfl) ?_
    refine lv_iload_n hxx hbb dX6_ofNode_194 rfl (lv_at hl 5 rfl) ?_
    refine ZI.callV S hK hP hS hB (kX6_ofPlus l G A Y n (lf n) i j (cPl (T (lf n))) (T (lf n)) (by omega) (by omega) hij (by omega) (hO (by omega)) (fun k h1 h2 => hT _ _ _ (by omega) h2 hj)) zwX6_153 zdX6_ofPlus rfl ⟨Nat.le_trans (by decide) hfr, Nat.le_trans (by decide) hlo⟩ (by decide) (zcK6 zk_102) rfl rfl (Nat.le_of_ble_eq_true rfl) hl.1 dX6_ofNode_195 ⟨Nat.zero_le _, Nat.zero_le _⟩ (fun r_24 Y_25 H locs hq_26 hP hS => ?_)
    obtain ⟨hr9, hY9⟩ := hq_26
    subst hr9; rw [hY9] at hP
    exact hret _ _ _ _ _ _ dX6_ofNode_198 (rfl) hP hS (⟨by simp only [cNode]; (repeat (first | rw [if_pos (by omega)] | rw [if_neg (by omega)])); rw [← cPl_eq], rfl⟩)
  by_cases c_27 : kd n = 4
  · skip
    refine ztabIn S (k := 4) (off := 167) (tgt := 189) c_27 dX6_ofNode_22 (by decide) (by decide) rfl (by decide) ?_
    refine lv_aload_n hxx hbb dX6_ofNode_189 rfl (lv_at hl 2 rfl) ?_
    refine lv_iload_n hxx hbb dX6_ofNode_190 rfl (lv_at hl 3 rfl) ?_
    refine lv_iload hxx hbb dX6_ofNode_191 (lv_at hl 1 rfl) ?_
    refine lv_iload_n hxx hbb dX6_ofNode_193 rfl (lv_at hl 4 rfl) ?_
    refine lv_iload_n hxx hbb dX6_ofNode_194 rfl (lv_at hl 5 rfl) ?_
    refine ZI.callV S hK hP hS hB (kX6_ofPlus l G A Y n (lf n) i j (cPl (T (lf n))) (T (lf n)) (by omega) (by omega) hij (by omega) (hO (by omega)) (fun k h1 h2 => hT _ _ _ (by omega) h2 hj)) zwX6_153 zdX6_ofPlus rfl ⟨Nat.le_trans (by decide) hfr, Nat.le_trans (by decide) hlo⟩ (by decide) (zcK6 zk_102) rfl rfl (Nat.le_of_ble_eq_true rfl) hl.1 dX6_ofNode_195 ⟨Nat.zero_le _, Nat.zero_le _⟩ (fun r_28 Y_29 H locs hq_30 hP hS => ?_)
    obtain ⟨hr9, hY9⟩ := hq_30
    subst hr9; rw [hY9] at hP
    exact hret _ _ _ _ _ _ dX6_ofNode_198 (rfl) hP hS (⟨by simp only [cNode]; (repeat (first | rw [if_pos (by omega)] | rw [if_neg (by omega)])); rw [← cPl_eq], rfl⟩)
  by_cases c_31 : kd n = 5
  · skip
    refine ztabIn S (k := 5) (off := 101) (tgt := 123) c_31 dX6_ofNode_22 (by decide) (by decide) rfl (by decide) ?_
    have ht1 := (hT (lf n) i j (by omega) hij hj).2
    have hm9 := c9 (a := j - i) (b := ad) (by omega) had
    refine lv_aload_n hxx hbb dX6_ofNode_123 rfl (lv_at hl 2 rfl) ?_
    refine lv_iload hxx hbb dX6_ofNode_124 (lv_at hl 1 rfl) ?_
    refine lv_iload_n hxx hbb dX6_ofNode_126 rfl (lv_at hl 4 rfl) ?_
    refine lv_iload_n hxx hbb dX6_ofNode_127 rfl (lv_at hl 5 rfl) ?_
    refine ZI.callV S hK hP hS hB (kX6_costOf l G A Y (lf n) i j (by omega) (by omega) (by omega)) zwX6_139 zdX6_costOf rfl ⟨Nat.le_trans (by decide) hfr, Nat.le_trans (by decide) hlo⟩ (by decide) (zcK6 zk_102) rfl rfl (Nat.le_of_ble_eq_true rfl) hl.1 dX6_ofNode_128 ⟨Nat.zero_le _, Nat.zero_le _⟩ (fun r_32 Y_33 H locs hq_34 hP hS => ?_)
    obtain ⟨hr9, hY9⟩ := hq_34
    have hr9 := hr9.trans ((hT _ _ _ (by omega) hij hj).1)
    subst hr9; rw [hY9] at hP
    refine lv_iload_n hxx hbb dX6_ofNode_131 rfl (lv_at hl 5 rfl) ?_
    refine lv_iload_n hxx hbb dX6_ofNode_132 rfl (lv_at hl 4 rfl) ?_
    refine zsubN S (by omega) dX6_ofNode_133 ?_
    refine lv_aload_n hxx hbb dX6_ofNode_134 rfl (lv_at hl 2 rfl) ?_
    refine zgX6_37 S hK hP 102 (by decide) zk_102 (v := nI ad) (hY15) dX6_ofNode_135 ?_
    refine zmulN S dX6_ofNode_138 ?_
    refine zcmp_ge (tgt := 153) S (by omega) (by omega) dX6_ofNode_139 (by decide) (fun c_35 => ?_) (fun c_35 => ?_)
    · skip
      refine lv_iload_n hxx hbb dX6_ofNode_153 rfl (lv_at hl 5 rfl) ?_
      refine lv_iload_n hxx hbb dX6_ofNode_154 rfl (lv_at hl 4 rfl) ?_
      refine zsubN S (by omega) dX6_ofNode_155 ?_
      refine lv_aload_n hxx hbb dX6_ofNode_156 rfl (lv_at hl 2 rfl) ?_
      refine zgX6_37 S hK hP 102 (by decide) zk_102 (v := nI ad) (hY15) dX6_ofNode_157 ?_
      refine zmulN S dX6_ofNode_160 ?_
      exact hret _ _ _ _ _ _ dX6_ofNode_161 (rfl) hP hS (⟨by simp only [cNode]; (repeat (first | rw [if_pos (by omega)] | rw [if_neg (by omega)])), rfl⟩)
    · skip
      refine lv_aload_n hxx hbb dX6_ofNode_142 rfl (lv_at hl 2 rfl) ?_
      refine lv_iload hxx hbb dX6_ofNode_143 (lv_at hl 1 rfl) ?_
      refine lv_iload_n hxx hbb dX6_ofNode_145 rfl (lv_at hl 4 rfl) ?_
      refine lv_iload_n hxx hbb dX6_ofNode_146 rfl (lv_at hl 5 rfl) ?_
      refine ZI.callV S hK hP hS hB (kX6_costOf l G A Y (lf n) i j (by omega) (by omega) (by omega)) zwX6_139 zdX6_costOf rfl ⟨Nat.le_trans (by decide) hfr, Nat.le_trans (by decide) hlo⟩ (by decide) (zcK6 zk_102) rfl rfl (Nat.le_of_ble_eq_true rfl) hl.1 dX6_ofNode_147 ⟨Nat.zero_le _, Nat.zero_le _⟩ (fun r_36 Y_37 H locs hq_38 hP hS => ?_)
      obtain ⟨hr9, hY9⟩ := hq_38
      have hr9 := hr9.trans ((hT _ _ _ (by omega) hij hj).1)
      subst hr9; rw [hY9] at hP
      refine lv_goto (tgt := 161) hxx hbb dX6_ofNode_150 (by decide) ?_
      exact hret _ _ _ _ _ _ dX6_ofNode_161 (rfl) hP hS (⟨by simp only [cNode]; (repeat (first | rw [if_pos (by omega)] | rw [if_neg (by omega)])), rfl⟩)
  by_cases c_39 : kd n = 6
  · skip
    refine ztabIn S (k := 6) (off := 140) (tgt := 162) c_39 dX6_ofNode_22 (by decide) (by decide) rfl (by decide) ?_
    have ht1 := (hT (lf n) i j (by omega) hij hj).2
    refine lv_aload_n hxx hbb dX6_ofNode_162 rfl (lv_at hl 2 rfl) ?_
    refine lv_iload hxx hbb dX6_ofNode_163 (lv_at hl 1 rfl) ?_
    refine lv_iload_n hxx hbb dX6_ofNode_165 rfl (lv_at hl 4 rfl) ?_
    refine lv_iload_n hxx hbb dX6_ofNode_166 rfl (lv_at hl 5 rfl) ?_
    refine ZI.callV S hK hP hS hB (kX6_costOf l G A Y (lf n) i j (by omega) (by omega) (by omega)) zwX6_139 zdX6_costOf rfl ⟨Nat.le_trans (by decide) hfr, Nat.le_trans (by decide) hlo⟩ (by decide) (zcK6 zk_102) rfl rfl (Nat.le_of_ble_eq_true rfl) hl.1 dX6_ofNode_167 ⟨Nat.zero_le _, Nat.zero_le _⟩ (fun r_40 Y_41 H locs hq_42 hP hS => ?_)
    obtain ⟨hr9, hY9⟩ := hq_42
    have hr9 := hr9.trans ((hT _ _ _ (by omega) hij hj).1)
    subst hr9; rw [hY9] at hP
    refine lv_iload hxx hbb dX6_ofNode_170 (lv_at hl 0 rfl) ?_
    refine zcmp_gt (tgt := 186) S (by omega) (by omega) dX6_ofNode_172 (by decide) (fun c_43 => ?_) (fun c_43 => ?_)
    · skip
      refine zldc S (v := 1000000) zxX6_138 dX6_ofNode_186 ?_
      rw [show (1000000 : Int32) = nI 1000000 from rfl]
      exact hret _ _ _ _ _ _ dX6_ofNode_188 (rfl) hP hS (⟨by simp only [cNode]; (repeat (first | rw [if_pos (by omega)] | rw [if_neg (by omega)])), rfl⟩)
    · skip
      refine lv_aload_n hxx hbb dX6_ofNode_175 rfl (lv_at hl 2 rfl) ?_
      refine lv_iload hxx hbb dX6_ofNode_176 (lv_at hl 1 rfl) ?_
      refine lv_iload_n hxx hbb dX6_ofNode_178 rfl (lv_at hl 4 rfl) ?_
      refine lv_iload_n hxx hbb dX6_ofNode_179 rfl (lv_at hl 5 rfl) ?_
      refine ZI.callV S hK hP hS hB (kX6_costOf l G A Y (lf n) i j (by omega) (by omega) (by omega)) zwX6_139 zdX6_costOf rfl ⟨Nat.le_trans (by decide) hfr, Nat.le_trans (by decide) hlo⟩ (by decide) (zcK6 zk_102) rfl rfl (Nat.le_of_ble_eq_true rfl) hl.1 dX6_ofNode_180 ⟨Nat.zero_le _, Nat.zero_le _⟩ (fun r_44 Y_45 H locs hq_46 hP hS => ?_)
      obtain ⟨hr9, hY9⟩ := hq_46
      have hr9 := hr9.trans ((hT _ _ _ (by omega) hij hj).1)
      subst hr9; rw [hY9] at hP
      refine lv_goto (tgt := 188) hxx hbb dX6_ofNode_183 (by decide) ?_
      exact hret _ _ _ _ _ _ dX6_ofNode_188 (rfl) hP hS (⟨by simp only [cNode]; (repeat (first | rw [if_pos (by omega)] | rw [if_neg (by omega)])), rfl⟩)
  refine ztabOut S (tgt := 189) (by omega) dX6_ofNode_22 (by omega) (by decide) ?_
  exfalso; omega

set_option maxHeartbeats 4000000 in
set_option maxRecDepth 100000 in
theorem kX6_work (l : Launch) (G : zG) (A : Nat → Nat) (Y : zY) (nn : Nat) (kd lf rt tx : Nat → Nat) (len ad mi wr : Nat) (C : Nat → Nat → Nat → Nat) (hMC : MC Y nn kd lf rt tx len ad mi wr) (hC : C = cCost kd lf rt tx ad mi wr) (hkn : MT Y C len nn) : ZV l yX6_work cX6_work 5 3 75 G A Y [.ref (A 102)] (fun Y' => MK Y Y' ∧ Y' 102 21 = nI 1 ∧ TBn Y' C len nn) := by
  refine ZV.enter (by decide) (Nat.le_of_ble_eq_true rfl) ?_
  intro p e s m args below meth c R Q hxx hbb S hK hfr hlo hret H ls hP hS hl
  have hB : ∀ q, zAd A q → zAd A q := fun _ h => h
  have hl : lv_has ls 5 [(0, .ref (A 102))] := hl
  have S : CallFix p m c cX6_work 5 s args wsL_law RX6 := S
  have hMC9 := hMC
  obtain ⟨hwf, hlen, had, hmi, hwr, htx, hY2, hY19, hY15, hY16, hY17, hYt, hYn⟩ := hMC
  have hnn := hwf.1
  have hCle : ∀ a, a < nn → ∀ i j, j ≤ 24 → C a i j ≤ 1000000 := fun a ha i j h => by rw [hC]; exact cCost_le hwf had hmi h a ha i
  rcases hkn with h21 | ⟨h21, hTB⟩
  · skip
    refine lv_aload_n hxx hbb dX6_work_0 rfl (lv_at hl 0 rfl) ?_
    refine zgX6_128 S hK hP 102 (by decide) zk_102 (v := nI 0) (h21) dX6_work_1 ?_
    refine zif_eq (tgt := 8) S (by omega) dX6_work_4 (by decide) (fun c_1 => ?_) (fun c_1 => ?_)
    · skip
      refine lv_aload_n hxx hbb dX6_work_8 rfl (lv_at hl 0 rfl) ?_
      refine lv_iconst (v := nI 1) hxx hbb dX6_work_9 (by decide) ?_
      refine zpX6_128 S hK hP hS hB 102 (by decide) zk_102 (by first | exact ⟨rfl, rfl⟩ | decide) dX6_work_10 (fun H locs hP hS => ?_)
      refine lv_iconst (v := nI 0) hxx hbb dX6_work_13 (by decide) ?_
      refine lv_istore_n (lv' := [(1, .int (nI 0)), (0, .ref (A 102))]) hxx hbb dX6_work_14 rfl hl (by decide) rfl (fun ls hl => ?_)
      have L_15 : ∀ (N_15 : Nat) (n : Nat) (Y1 : zY) (hn : n ≤ nn) (hk1 : MK Y Y1) (h11 : Y1 102 21 = nI 1) (ht1 : TBn Y1 C len n), nn - n < N_15 → ∀ (H : Heap) (locs : List Loc) (ls : Array Slot), va_P G.1 vwCl (zW G A Y1) H → va_S (zAd A) s.heap H locs → lv_has ls 5 [(0, .ref (A 102)), (1, .int (nI n))] → W p l e R s m args below meth c H locs 0 0 Q (F0 m 15 ls []) := by
        intro N_15
        induction N_15 with
        | zero => intro n Y1 hn hk1 h11 ht1 hm; exact absurd hm (Nat.not_lt_zero _)
        | succ N_15 ih_15 =>
          intro n Y1 hn hk1 h11 ht1 hm_15 H locs ls hP hS hl
          refine lv_iload_n hxx hbb dX6_work_15 rfl (lv_at hl 1 rfl) ?_
          refine lv_aload_n hxx hbb dX6_work_16 rfl (lv_at hl 0 rfl) ?_
          refine zgX6_122 S hK hP 102 (by decide) zk_102 (v := nI nn) ((hk1.2 _ (by decide)).trans hY2) dX6_work_17 ?_
          refine zcmp_ge (tgt := 178) S (by omega) (by omega) dX6_work_20 (by decide) (fun c_2 => ?_) (fun c_2 => ?_)
          · skip
            exact hret _ _ _ _ _ dX6_work_178 hP hS (⟨hk1, h11, (by rw [show nn = n by omega]; exact ht1)⟩)
          · skip
            obtain ⟨hk6, hrt, hl0, hl1, hr1, hl6⟩ := hwf.2 n (by omega)
            obtain ⟨V, hV⟩ : ∃ V, V = cNode kd lf rt tx ad mi wr C n := ⟨_, rfl⟩
            have hlf : kd n = 3 ∨ kd n = 4 → lf n < nn := fun h => by omega
            have hVle : ∀ i j, j ≤ 24 → V i j ≤ 1000000 := fun i j h => by rw [hV]; exact cNode_le had hmi h (fun h0 => hCle _ (by have := hl1 h0; omega) _ _ h)
            refine lv_iconst (v := nI 0) hxx hbb dX6_work_23 (by decide) ?_
            refine lv_istore_n (lv' := [(2, .int (nI 0)), (0, .ref (A 102)), (1, .int (nI n))]) hxx hbb dX6_work_24 rfl hl (by decide) rfl (fun ls hl => ?_)
            have L_25 : ∀ (N_25 : Nat) (i : Nat) (Y2 : zY) (hi : i ≤ len + 1) (hk2 : MK Y Y2) (h12 : Y2 102 21 = nI 1) (ht2 : TBn Y2 C len n) (hd2 : TBd Y2 V len n i 0), len + 1 - i < N_25 → ∀ (H : Heap) (locs : List Loc) (ls : Array Slot), va_P G.1 vwCl (zW G A Y2) H → va_S (zAd A) s.heap H locs → lv_has ls 5 [(0, .ref (A 102)), (1, .int (nI n)), (2, .int (nI i))] → W p l e R s m args below meth c H locs 0 0 Q (F0 m 25 ls []) := by
              intro N_25
              induction N_25 with
              | zero => intro i Y2 hi hk2 h12 ht2 hd2 hm; exact absurd hm (Nat.not_lt_zero _)
              | succ N_25 ih_25 =>
                intro i Y2 hi hk2 h12 ht2 hd2 hm_25 H locs ls hP hS hl
                refine lv_iload_n hxx hbb dX6_work_25 rfl (lv_at hl 2 rfl) ?_
                refine lv_aload_n hxx hbb dX6_work_26 rfl (lv_at hl 0 rfl) ?_
                refine zgX6_135 S hK hP 102 (by decide) zk_102 (v := nI len) ((hk2.2 _ (by decide)).trans hY19) dX6_work_27 ?_
                refine zcmp_gt (tgt := 79) S (by omega) (by omega) dX6_work_30 (by decide) (fun c_3 => ?_) (fun c_3 => ?_)
                · skip
                  refine lv_iconst (v := nI 0) hxx hbb dX6_work_79 (by decide) ?_
                  refine lv_istore_n (lv' := [(2, .int (nI 0)), (0, .ref (A 102)), (1, .int (nI n))]) hxx hbb dX6_work_80 rfl hl (by decide) rfl (fun ls hl => ?_)
                  have L_81 : ∀ (N_81 : Nat) (i : Nat) (Y4 : zY) (hi : i ≤ len + 1) (hk4 : MK Y Y4) (h14 : Y4 102 21 = nI 1) (ht4 : TBn Y4 C len n) (hx4 : TBx Y4 (mx (C n) V i 0) len n), len + 1 - i < N_81 → ∀ (H : Heap) (locs : List Loc) (ls : Array Slot), va_P G.1 vwCl (zW G A Y4) H → va_S (zAd A) s.heap H locs → lv_has ls 5 [(0, .ref (A 102)), (1, .int (nI n)), (2, .int (nI i))] → W p l e R s m args below meth c H locs 0 0 Q (F0 m 81 ls []) := by
                    intro N_81
                    induction N_81 with
                    | zero => intro i Y4 hi hk4 h14 ht4 hx4 hm; exact absurd hm (Nat.not_lt_zero _)
                    | succ N_81 ih_81 =>
                      intro i Y4 hi hk4 h14 ht4 hx4 hm_81 H locs ls hP hS hl
                      refine lv_iload_n hxx hbb dX6_work_81 rfl (lv_at hl 2 rfl) ?_
                      refine lv_aload_n hxx hbb dX6_work_82 rfl (lv_at hl 0 rfl) ?_
                      refine zgX6_135 S hK hP 102 (by decide) zk_102 (v := nI len) ((hk4.2 _ (by decide)).trans hY19) dX6_work_83 ?_
                      refine zcmp_gt (tgt := 172) S (by omega) (by omega) dX6_work_86 (by decide) (fun c_4 => ?_) (fun c_4 => ?_)
                      · skip
                        refine lv_iinc (v := nI (n + 1)) (lv' := [(1, .int (nI (n + 1))), (0, .ref (A 102)), (2, .int (nI i))]) hxx hbb dX6_work_172 hl (k := 1) rfl (zinc1 _) (by decide) rfl (fun ls hl => ?_)
                        refine lv_goto (tgt := 15) hxx hbb dX6_work_175 (by decide) ?_
                        exact ih_15 (n + 1) Y4 (by omega) hk4 h14 (ht4.succ (hx4.congr (fun a b h1 h2 => mx_all (by omega) a b h1 h2))) (by omega) _ _ _ hP hS (lv_sub hl [1, 0] rfl)
                      · skip
                        refine lv_aload_n hxx hbb dX6_work_89 rfl (lv_at hl 0 rfl) ?_
                        refine zgX6_13 S hK hP 102 (by decide) zk_102 dX6_work_90 ?_
                        refine lv_iload_n hxx hbb dX6_work_93 rfl (lv_at hl 1 rfl) ?_
                        refine zaldN S hK hP 104 24 (by decide) zk_104 zl_104 (by omega) (v := nI (kd n)) ((congrFun (hk4.1 104 (by decide) (by decide)) _).trans (hYn _ (by omega)).1) dX6_work_94 ?_
                        refine lv_iconst (v := nI 3) hxx hbb dX6_work_95 (by decide) ?_
                        refine zcmp_ne (tgt := 172) S (by omega) (by omega) dX6_work_96 (by decide) (fun c_5 => ?_) (fun c_5 => ?_)
                        · skip
                          refine lv_iinc (v := nI (n + 1)) (lv' := [(1, .int (nI (n + 1))), (0, .ref (A 102)), (2, .int (nI i))]) hxx hbb dX6_work_172 hl (k := 1) rfl (zinc1 _) (by decide) rfl (fun ls hl => ?_)
                          refine lv_goto (tgt := 15) hxx hbb dX6_work_175 (by decide) ?_
                          exact ih_15 (n + 1) Y4 (by omega) hk4 h14 (ht4.succ (hx4.congr (fun a b _ _ => mx_same (fun a b => by rw [hC, cCost_eq hl1 hr1, ← hC, ← hV]; exact if_neg (by omega)) a b))) (by omega) _ _ _ hP hS (lv_sub hl [1, 0] rfl)
                        · skip
                          refine lv_iload_n hxx hbb dX6_work_99 rfl (lv_at hl 2 rfl) ?_
                          refine lv_istore_n (lv' := [(3, .int (nI i)), (0, .ref (A 102)), (1, .int (nI n)), (2, .int (nI i))]) hxx hbb dX6_work_100 rfl hl (by decide) rfl (fun ls hl => ?_)
                          have L_101 : ∀ (N_101 : Nat) (j : Nat) (Y5 : zY) (hij : i ≤ j) (hj : j ≤ len + 1) (hk5 : MK Y Y5) (h15 : Y5 102 21 = nI 1) (ht5 : TBn Y5 C len n) (hx5 : TBx Y5 (mx (C n) V i j) len n), len + 1 - j < N_101 → ∀ (H : Heap) (locs : List Loc) (ls : Array Slot), va_P G.1 vwCl (zW G A Y5) H → va_S (zAd A) s.heap H locs → lv_has ls 5 [(0, .ref (A 102)), (1, .int (nI n)), (2, .int (nI i)), (3, .int (nI j))] → W p l e R s m args below meth c H locs 0 0 Q (F0 m 101 ls []) := by
                            intro N_101
                            induction N_101 with
                            | zero => intro j Y5 hij hj hk5 h15 ht5 hx5 hm; exact absurd hm (Nat.not_lt_zero _)
                            | succ N_101 ih_101 =>
                              intro j Y5 hij hj hk5 h15 ht5 hx5 hm_101 H locs ls hP hS hl
                              refine lv_iload_n hxx hbb dX6_work_101 rfl (lv_at hl 3 rfl) ?_
                              refine lv_aload_n hxx hbb dX6_work_102 rfl (lv_at hl 0 rfl) ?_
                              refine zgX6_135 S hK hP 102 (by decide) zk_102 (v := nI len) ((hk5.2 _ (by decide)).trans hY19) dX6_work_103 ?_
                              refine zcmp_gt (tgt := 166) S (by omega) (by omega) dX6_work_106 (by decide) (fun c_6 => ?_) (fun c_6 => ?_)
                              · skip
                                refine lv_iinc (v := nI (i + 1)) (lv' := [(2, .int (nI (i + 1))), (0, .ref (A 102)), (1, .int (nI n)), (3, .int (nI j))]) hxx hbb dX6_work_166 hl (k := 2) rfl (zinc1 _) (by decide) rfl (fun ls hl => ?_)
                                refine lv_goto (tgt := 81) hxx hbb dX6_work_169 (by decide) ?_
                                exact ih_81 (i + 1) Y5 (by omega) hk5 h15 ht5 (hx5.congr (fun a b _ h => mx_next (by omega) a b h)) (by omega) _ _ _ hP hS (lv_sub hl [1, 2, 0] rfl)
                              · skip
                                have hv9 := hVle i j (by omega)
                                have hm9 := c9 (a := j - i) (b := ad) (by omega) had
                                refine lv_iload_n hxx hbb dX6_work_109 rfl (lv_at hl 3 rfl) ?_
                                refine lv_iload_n hxx hbb dX6_work_110 rfl (lv_at hl 2 rfl) ?_
                                refine zsubN S (by omega) dX6_work_111 ?_
                                refine lv_aload_n hxx hbb dX6_work_112 rfl (lv_at hl 0 rfl) ?_
                                refine zgX6_37 S hK hP 102 (by decide) zk_102 (v := nI ad) ((hk5.2 _ (by decide)).trans hY15) dX6_work_113 ?_
                                refine zmulN S dX6_work_116 ?_
                                refine lv_istore (lv' := [(4, .int (nI ((j - i) * ad))), (0, .ref (A 102)), (1, .int (nI n)), (2, .int (nI i)), (3, .int (nI j))]) hxx hbb dX6_work_117 hl (by decide) rfl (fun ls hl => ?_)
                                refine lv_aload_n hxx hbb dX6_work_119 rfl (lv_at hl 1 rfl) ?_
                                refine zgX6_50 S hK hP 102 (by decide) zk_102 dX6_work_120 ?_
                                refine lv_sipush (v := nI 625) hxx hbb dX6_work_123 (by decide) ?_
                                refine lv_iload_n hxx hbb dX6_work_126 rfl (lv_at hl 2 rfl) ?_
                                refine zmulN S dX6_work_127 ?_
                                refine lv_bipush (v := nI 25) hxx hbb dX6_work_128 (by decide) ?_
                                refine lv_iload_n hxx hbb dX6_work_130 rfl (lv_at hl 3 rfl) ?_
                                refine zmulN S dX6_work_131 ?_
                                refine zaddN S dX6_work_132 ?_
                                refine lv_iload_n hxx hbb dX6_work_133 rfl (lv_at hl 4 rfl) ?_
                                refine zaddN S dX6_work_134 ?_
                                refine lv_aload_n hxx hbb dX6_work_135 rfl (lv_at hl 1 rfl) ?_
                                refine lv_iload_n hxx hbb dX6_work_136 rfl (lv_at hl 2 rfl) ?_
                                refine lv_iload_n hxx hbb dX6_work_137 rfl (lv_at hl 3 rfl) ?_
                                refine lv_iload_n hxx hbb dX6_work_138 rfl (lv_at hl 4 rfl) ?_
                                refine ZI.callV S hK hP hS hB (kX6_costOf l G A Y5 n i j (by omega) (by omega) (by omega)) zwX6_139 zdX6_costOf rfl ⟨Nat.le_trans (by decide) hfr, Nat.le_trans (by decide) hlo⟩ (by decide) (zcK6 zk_102) rfl rfl (Nat.le_of_ble_eq_true rfl) hl.1 dX6_work_139 ⟨Nat.zero_le _, Nat.zero_le _⟩ (fun r_7 Y_8 H locs hq_9 hP hS => ?_)
                                obtain ⟨hr9, hY9⟩ := hq_9
                                have hr9 := hr9.trans ((hx5 _ _ (by omega) (by omega)).trans (by rw [mx_at]))
                                subst hr9; rw [hY9] at hP
                                refine lv_iload hxx hbb dX6_work_142 (lv_at hl 0 rfl) ?_
                                refine zcmp_ge (tgt := 157) S (by omega) (by omega) dX6_work_144 (by decide) (fun c_10 => ?_) (fun c_10 => ?_)
                                · skip
                                  refine lv_iload hxx hbb dX6_work_157 (lv_at hl 0 rfl) ?_
                                  refine zastN S hK hP hS hB 113 15000 (by decide) zk_113 zl_113 (by omega) dX6_work_159 (fun H locs hP hS => ?_)
                                  refine lv_iinc (v := nI (j + 1)) (lv' := [(3, .int (nI (j + 1))), (4, .int (nI ((j - i) * ad))), (0, .ref (A 102)), (1, .int (nI n)), (2, .int (nI i))]) hxx hbb dX6_work_160 hl (k := 4) rfl (zinc1 _) (by decide) rfl (fun ls hl => ?_)
                                  refine lv_goto (tgt := 101) hxx hbb dX6_work_163 (by decide) ?_
                                  exact ih_101 (j + 1) (zU Y5 113 (625 * n + (25 * i) + j) (nI ((j - i) * ad))) (by omega) (by omega) hk5.put ((zU_np (by decide)).trans h15) (ht5.put hlen (by omega) (by omega)) (by have e9 : C n i j = (j - i) * ad := (by rw [hC, cCost_eq hl1 hr1, ← hC, ← hV, cStar, if_pos (by omega)]; first | rw [if_pos (by omega)] | rw [if_neg (by omega)]); rw [← e9]; exact hx5.put hlen (by omega) (by omega)) (by omega) _ _ _ hP hS (lv_sub hl [2, 3, 4, 0] rfl)
                                · skip
                                  refine lv_aload_n hxx hbb dX6_work_147 rfl (lv_at hl 1 rfl) ?_
                                  refine lv_iload_n hxx hbb dX6_work_148 rfl (lv_at hl 2 rfl) ?_
                                  refine lv_iload_n hxx hbb dX6_work_149 rfl (lv_at hl 3 rfl) ?_
                                  refine lv_iload_n hxx hbb dX6_work_150 rfl (lv_at hl 4 rfl) ?_
                                  refine ZI.callV S hK hP hS hB (kX6_costOf l G A Y5 n i j (by omega) (by omega) (by omega)) zwX6_139 zdX6_costOf rfl ⟨Nat.le_trans (by decide) hfr, Nat.le_trans (by decide) hlo⟩ (by decide) (zcK6 zk_102) rfl rfl (Nat.le_of_ble_eq_true rfl) hl.1 dX6_work_151 ⟨Nat.zero_le _, Nat.zero_le _⟩ (fun r_11 Y_12 H locs hq_13 hP hS => ?_)
                                  obtain ⟨hr9, hY9⟩ := hq_13
                                  have hr9 := hr9.trans ((hx5 _ _ (by omega) (by omega)).trans (by rw [mx_at]))
                                  subst hr9; rw [hY9] at hP
                                  refine lv_goto (tgt := 159) hxx hbb dX6_work_154 (by decide) ?_
                                  refine zastN S hK hP hS hB 113 15000 (by decide) zk_113 zl_113 (by omega) dX6_work_159 (fun H locs hP hS => ?_)
                                  refine lv_iinc (v := nI (j + 1)) (lv' := [(3, .int (nI (j + 1))), (4, .int (nI ((j - i) * ad))), (0, .ref (A 102)), (1, .int (nI n)), (2, .int (nI i))]) hxx hbb dX6_work_160 hl (k := 4) rfl (zinc1 _) (by decide) rfl (fun ls hl => ?_)
                                  refine lv_goto (tgt := 101) hxx hbb dX6_work_163 (by decide) ?_
                                  exact ih_101 (j + 1) (zU Y5 113 (625 * n + (25 * i) + j) (nI (V i j))) (by omega) (by omega) hk5.put ((zU_np (by decide)).trans h15) (ht5.put hlen (by omega) (by omega)) (by have e9 : C n i j = V i j := (by rw [hC, cCost_eq hl1 hr1, ← hC, ← hV, cStar, if_pos (by omega)]; first | rw [if_pos (by omega)] | rw [if_neg (by omega)]); rw [← e9]; exact hx5.put hlen (by omega) (by omega)) (by omega) _ _ _ hP hS (lv_sub hl [2, 3, 4, 0] rfl)
                          exact L_101 (_ + 1) i Y4 (by omega) (by omega) hk4 h14 ht4 (hx4.congr (fun a b h _ => mx_row a b h)) (Nat.lt_succ_self _) _ _ _ hP hS (lv_sub hl [1, 2, 3, 0] rfl)
                  exact L_81 (_ + 1) 0 Y2 (by omega) hk2 h12 ht2 ((hd2.all (by omega)).congr (fun a b _ _ => mx_0 a b)) (Nat.lt_succ_self _) _ _ _ hP hS (lv_sub hl [1, 2, 0] rfl)
                · skip
                  refine lv_iload_n hxx hbb dX6_work_33 rfl (lv_at hl 2 rfl) ?_
                  refine lv_istore_n (lv' := [(3, .int (nI i)), (0, .ref (A 102)), (1, .int (nI n)), (2, .int (nI i))]) hxx hbb dX6_work_34 rfl hl (by decide) rfl (fun ls hl => ?_)
                  have L_35 : ∀ (N_35 : Nat) (j : Nat) (Y3 : zY) (hij : i ≤ j) (hj : j ≤ len + 1) (hk3 : MK Y Y3) (h13 : Y3 102 21 = nI 1) (ht3 : TBn Y3 C len n) (hd3 : TBd Y3 V len n i j), len + 1 - j < N_35 → ∀ (H : Heap) (locs : List Loc) (ls : Array Slot), va_P G.1 vwCl (zW G A Y3) H → va_S (zAd A) s.heap H locs → lv_has ls 5 [(0, .ref (A 102)), (1, .int (nI n)), (2, .int (nI i)), (3, .int (nI j))] → W p l e R s m args below meth c H locs 0 0 Q (F0 m 35 ls []) := by
                    intro N_35
                    induction N_35 with
                    | zero => intro j Y3 hij hj hk3 h13 ht3 hd3 hm; exact absurd hm (Nat.not_lt_zero _)
                    | succ N_35 ih_35 =>
                      intro j Y3 hij hj hk3 h13 ht3 hd3 hm_35 H locs ls hP hS hl
                      refine lv_iload_n hxx hbb dX6_work_35 rfl (lv_at hl 3 rfl) ?_
                      refine lv_aload_n hxx hbb dX6_work_36 rfl (lv_at hl 0 rfl) ?_
                      refine zgX6_135 S hK hP 102 (by decide) zk_102 (v := nI len) ((hk3.2 _ (by decide)).trans hY19) dX6_work_37 ?_
                      refine zcmp_gt (tgt := 73) S (by omega) (by omega) dX6_work_40 (by decide) (fun c_14 => ?_) (fun c_14 => ?_)
                      · skip
                        refine lv_iinc (v := nI (i + 1)) (lv' := [(2, .int (nI (i + 1))), (0, .ref (A 102)), (1, .int (nI n)), (3, .int (nI j))]) hxx hbb dX6_work_73 hl (k := 2) rfl (zinc1 _) (by decide) rfl (fun ls hl => ?_)
                        refine lv_goto (tgt := 25) hxx hbb dX6_work_76 (by decide) ?_
                        exact ih_25 (i + 1) Y3 (by omega) hk3 h13 ht3 (hd3.next (by omega)) (by omega) _ _ _ hP hS (lv_sub hl [1, 2, 0] rfl)
                      · skip
                        refine lv_aload_n hxx hbb dX6_work_43 rfl (lv_at hl 0 rfl) ?_
                        refine zgX6_50 S hK hP 102 (by decide) zk_102 dX6_work_44 ?_
                        refine lv_sipush (v := nI 625) hxx hbb dX6_work_47 (by decide) ?_
                        refine lv_iload_n hxx hbb dX6_work_50 rfl (lv_at hl 1 rfl) ?_
                        refine zmulN S dX6_work_51 ?_
                        refine lv_bipush (v := nI 25) hxx hbb dX6_work_52 (by decide) ?_
                        refine lv_iload_n hxx hbb dX6_work_54 rfl (lv_at hl 2 rfl) ?_
                        refine zmulN S dX6_work_55 ?_
                        refine zaddN S dX6_work_56 ?_
                        refine lv_iload_n hxx hbb dX6_work_57 rfl (lv_at hl 3 rfl) ?_
                        refine zaddN S dX6_work_58 ?_
                        refine lv_aload_n hxx hbb dX6_work_59 rfl (lv_at hl 0 rfl) ?_
                        refine lv_iload_n hxx hbb dX6_work_60 rfl (lv_at hl 1 rfl) ?_
                        refine lv_iload_n hxx hbb dX6_work_61 rfl (lv_at hl 2 rfl) ?_
                        refine lv_iload_n hxx hbb dX6_work_62 rfl (lv_at hl 3 rfl) ?_
                        refine ZI.callV S hK hP hS hB (kX6_ofNode l G A Y3 n i j nn kd lf rt tx len ad mi wr C (hMC9.keep hk3) (by omega) (by omega) (by omega) (fun a i' j' h1 h2 h3 => ⟨ht3 a h1 i' j' h2 h3, hCle a (by omega) i' j' (by omega)⟩) (fun h k h1 h2 => ⟨(hd3 i k (by omega) (by omega) (by omega)).trans (by rw [hV, cNode_pl h]), cPl_le (hCle _ (hlf h) _ _ (by omega))⟩)) zwX6_156 zdX6_ofNode rfl ⟨Nat.le_trans (by decide) hfr, Nat.le_trans (by decide) hlo⟩ (by decide) (zcK6 zk_102) rfl rfl (Nat.le_of_ble_eq_true rfl) hl.1 dX6_work_63 ⟨Nat.zero_le _, Nat.zero_le _⟩ (fun r_15 Y_16 H locs hq_17 hP hS => ?_)
                        obtain ⟨hr9, hY9⟩ := hq_17
                        have hr9 := hr9.trans (show _ = nI (V i j) by rw [hV])
                        subst hr9; rw [hY9] at hP
                        refine zastN S hK hP hS hB 113 15000 (by decide) zk_113 zl_113 (by omega) dX6_work_66 (fun H locs hP hS => ?_)
                        refine lv_iinc (v := nI (j + 1)) (lv' := [(3, .int (nI (j + 1))), (0, .ref (A 102)), (1, .int (nI n)), (2, .int (nI i))]) hxx hbb dX6_work_67 hl (k := 3) rfl (zinc1 _) (by decide) rfl (fun ls hl => ?_)
                        refine lv_goto (tgt := 35) hxx hbb dX6_work_70 (by decide) ?_
                        exact ih_35 (j + 1) (zU Y3 113 (625 * n + (25 * i) + j) (nI (V i j))) (by omega) (by omega) hk3.put ((zU_np (by decide)).trans h13) (ht3.put hlen (by omega) (by omega)) (hd3.put hlen (by omega) (by omega)) (by omega) _ _ _ hP hS (lv_sub hl [1, 2, 3, 0] rfl)
                  exact L_35 (_ + 1) i Y2 (by omega) (by omega) hk2 h12 ht2 hd2.fst (Nat.lt_succ_self _) _ _ _ hP hS (lv_sub hl [1, 2, 3, 0] rfl)
            exact L_25 (_ + 1) 0 Y1 (by omega) hk1 h11 ht1 TBd.nil (Nat.lt_succ_self _) _ _ _ hP hS (lv_sub hl [1, 2, 0] rfl)
      exact L_15 (_ + 1) 0 (zU Y 102 21 (nI 1)) (by omega) MK.known zU_eq (fun a ha => absurd ha (Nat.not_lt_zero _)) (Nat.lt_succ_self _) _ _ _ hP hS (lv_sub hl [1, 0] rfl)
    · skip
      exact absurd c_1 (by decide)
  · skip
    refine lv_aload_n hxx hbb dX6_work_0 rfl (lv_at hl 0 rfl) ?_
    refine zgX6_128 S hK hP 102 (by decide) zk_102 (v := nI 1) (h21) dX6_work_1 ?_
    refine zif_eq (tgt := 8) S (by omega) dX6_work_4 (by decide) (fun c_18 => ?_) (fun c_18 => ?_)
    · skip
      exact absurd c_18 (by decide)
    · skip
      exact hret _ _ _ _ _ dX6_work_7 hP hS (⟨MK.rf, h21, hTB⟩)
end
section
def cAI (nn : Nat) (C : Nat → Nat → Nat → Nat) (len : Nat) (i j : Int32) : Int32 := if nn = 0 ∨ i < 0 ∨ j < i ∨ nI len < j then -1 else if 1000000 ≤ C (nn - 1) i.toNatClampNeg j.toNatClampNeg then -1 else nI (C (nn - 1) i.toNatClampNeg j.toNatClampNeg)
theorem cAI_nat {nn : Nat} {C : Nat → Nat → Nat → Nat} {len i j : Nat} (h1 : i ≤ j) (h2 : j ≤ len) (h3 : len ≤ 24) : cAI nn C len (nI i) (nI j) = if nn = 0 then -1 else if 1000000 ≤ C (nn - 1) i j then -1 else nI (C (nn - 1) i j) := by
  unfold cAI
  rw [nI_clamp (by omega), nI_clamp (by omega)]
  by_cases h : nn = 0
  · rw [if_pos (Or.inl h), if_pos h]
  · have h9 : ¬ (nn = 0 ∨ nI i < 0 ∨ nI j < nI i ∨ nI len < nI j) := by
      rintro (h4 | h4 | h4 | h4)
      · exact h h4
      · exact nI_pos (by omega) h4
      · have := (nI_ltI (by omega) (by omega)).mp h4; omega
      · have := (nI_ltI (by omega) (by omega)).mp h4; omega
    rw [if_neg h9, if_neg h]
theorem cAI_fin {nn : Nat} {C : Nat → Nat → Nat → Nat} {len i j : Nat} (h1 : i ≤ j) (h2 : j ≤ len) (h3 : len ≤ 24) (h4 : nn ≠ 0) (h5 : C (nn - 1) i j ≤ 999) : cAI nn C len (nI i) (nI j) = nI (C (nn - 1) i j) := by
  rw [cAI_nat h1 h2 h3, if_neg h4, if_neg (by omega)]
theorem i32_nlt {i j : Int32} (h : ¬ i < 0) (h2 : ¬ j < i) : ¬ j < 0 := fun h3 => h2 (Int32.lt_of_lt_of_le h3 (Int32.not_lt.mp h))
theorem cmp_lt {a b : Nat} (ha : a < 2 ^ 31) (hb : b < 2 ^ 31) (h : ¬ nI b < nI a) : a ≤ b := Nat.not_lt.mp (fun z => h ((nI_ltI hb ha).mpr z))
theorem mat_yes {nn v bd : Nat} {r : Int32} (hr : r = if nn = 0 then -1 else if 1000000 ≤ v then -1 else nI v) (hv : nn ≠ 0 → v ≤ 1000000) (hb : bd ≤ 999) (h1 : ¬ r < 0) (h2 : ¬ nI bd < r) : nn ≠ 0 ∧ v ≤ bd := by
  by_cases h : nn = 0
  · rw [if_pos h] at hr; subst hr; exact absurd (by decide) h1
  · rw [if_neg h] at hr
    by_cases h4 : 1000000 ≤ v
    · rw [if_pos h4] at hr; subst hr; exact absurd (by decide) h1
    · rw [if_neg h4] at hr; subst hr
      have hv := hv h
      exact ⟨h, cmp_lt (by omega) (by omega) h2⟩
theorem mat_no {nn v bd : Nat} {r : Int32} (hr : r = if nn = 0 then -1 else if 1000000 ≤ v then -1 else nI v) (hb : bd ≤ 999) (h : r < 0 ∨ nI bd < r) : ¬ (nn ≠ 0 ∧ v ≤ bd) := by
  rintro ⟨h1, h2⟩
  rw [if_neg h1, if_neg (by omega)] at hr
  subst hr
  rcases h with h | h
  · exact nI_pos (by omega) h
  · have := (nI_ltI (by omega) (by omega)).mp h; omega
/-- [i, j) is to be taken rather than [a, b) -/
def bf (be : Nat) (K : Nat → Nat → Nat) (i j a b : Nat) : Prop := (be ≠ 0 ∧ (K i j < K a b ∨ K i j = K a b ∧ (i < a ∨ i = a ∧ b < j))) ∨ (be = 0 ∧ (i < a ∨ i = a ∧ (K i j < K a b ∨ K i j = K a b ∧ b < j)))
/-- f, t is the match among the pieces that come before (i, j), or there is none -/
def Fnd (be : Nat) (K : Nat → Nat → Nat) (bd len nn i j : Nat) (f t : Int32) : Prop := (f = -1 ∧ t = -1 ∧ ∀ a b, a ≤ b → b ≤ len → (a < i ∨ a = i ∧ b < j) → ¬ (nn ≠ 0 ∧ K a b ≤ bd)) ∨
  (∃ a b, f = nI a ∧ t = nI b ∧ a ≤ b ∧ b ≤ len ∧ nn ≠ 0 ∧ K a b ≤ bd ∧ ∀ a' b', a' ≤ b' → b' ≤ len → (a' < i ∨ a' = i ∧ b' < j) → (nn ≠ 0 ∧ K a' b' ≤ bd) → ¬ bf be K a' b' a b)
theorem Fnd.skip {be : Nat} {K : Nat → Nat → Nat} {bd len nn i j : Nat} {f t : Int32} (h : Fnd be K bd len nn i j f t) (hn : ¬ (nn ≠ 0 ∧ K i j ≤ bd)) : Fnd be K bd len nn i (j + 1) f t := by
  rcases h with ⟨h1, h2, h3⟩ | ⟨a, b, h1, h2, h3, h4, h5, h6, h7⟩
  · refine Or.inl ⟨h1, h2, fun a b q1 q2 q3 => ?_⟩
    by_cases e : a = i ∧ b = j
    · obtain ⟨rfl, rfl⟩ := e; exact hn
    · exact h3 a b q1 q2 (by omega)
  · refine Or.inr ⟨a, b, h1, h2, h3, h4, h5, h6, fun a' b' q1 q2 q3 q4 => ?_⟩
    by_cases e : a' = i ∧ b' = j
    · obtain ⟨rfl, rfl⟩ := e; exact absurd q4 hn
    · exact h7 a' b' q1 q2 (by omega) q4
theorem Fnd.keep {be : Nat} {K : Nat → Nat → Nat} {bd len nn i j a b : Nat} (h : Fnd be K bd len nn i j (nI a) (nI b)) (hl : len < 2 ^ 31) (ha : a < 2 ^ 31) (hb : b < 2 ^ 31) (hn : ¬ bf be K i j a b) : Fnd be K bd len nn i (j + 1) (nI a) (nI b) := by
  rcases h with ⟨h1, h2, h3⟩ | ⟨a2, b2, h1, h2, h3, h4, h5, h6, h7⟩
  · exact absurd (h1 ▸ (by decide : (-1 : Int32) < 0) : nI a < 0) (nI_pos ha)
  · have e1 := (nI_eq ha (by omega)).mp h1
    have e2 := (nI_eq hb (by omega)).mp h2
    subst e1; subst e2
    refine Or.inr ⟨a, b, rfl, rfl, h3, h4, h5, h6, fun a' b' q1 q2 q3 q4 => ?_⟩
    by_cases e : a' = i ∧ b' = j
    · obtain ⟨rfl, rfl⟩ := e; exact hn
    · exact h7 a' b' q1 q2 (by omega) q4
theorem bf_irr {be : Nat} {K : Nat → Nat → Nat} {a b : Nat} : ¬ bf be K a b a b := by unfold bf; omega
theorem bf_trans {be : Nat} {K : Nat → Nat → Nat} {a b c d e f : Nat} (h1 : bf be K a b c d) (h2 : bf be K c d e f) : bf be K a b e f := by unfold bf at *; omega
theorem bf_tot {be : Nat} {K : Nat → Nat → Nat} {a b c d : Nat} (h1 : ¬ bf be K a b c d) (h2 : ¬ bf be K c d a b) : a = c ∧ b = d := by
  unfold bf at *; omega
theorem Fnd.take {be : Nat} {K : Nat → Nat → Nat} {bd len nn i j : Nat} {f t : Int32} (h : Fnd be K bd len nn i j f t) (hij : i ≤ j) (hj : j ≤ len) (hm : nn ≠ 0 ∧ K i j ≤ bd) (hb : ∀ a b, f = nI a → t = nI b → a ≤ b → b ≤ len → bf be K i j a b) : Fnd be K bd len nn i (j + 1) (nI i) (nI j) := by
  refine Or.inr ⟨i, j, rfl, rfl, hij, hj, hm.1, hm.2, fun a' b' q1 q2 q3 q4 => ?_⟩
  by_cases e : a' = i ∧ b' = j
  · obtain ⟨rfl, rfl⟩ := e; exact bf_irr
  · rcases h with ⟨h1, h2, h3⟩ | ⟨a, b, h1, h2, h3, h4, h5, h6, h7⟩
    · exact absurd q4 (h3 a' b' q1 q2 (by omega))
    · exact fun z => h7 a' b' q1 q2 (by omega) q4 (bf_trans z (hb a b h1 h2 h3 h4))
theorem Fnd.next {be : Nat} {K : Nat → Nat → Nat} {bd len nn i j : Nat} {f t : Int32} (h : Fnd be K bd len nn i j f t) (hj : len < j) : Fnd be K bd len nn (i + 1) 0 f t := by
  rcases h with ⟨h1, h2, h3⟩ | ⟨a, b, h1, h2, h3, h4, h5, h6, h7⟩
  · exact Or.inl ⟨h1, h2, fun a b q1 q2 q3 => h3 a b q1 q2 (by omega)⟩
  · exact Or.inr ⟨a, b, h1, h2, h3, h4, h5, h6, fun a' b' q1 q2 q3 q4 => h7 a' b' q1 q2 (by omega) q4⟩
theorem Fnd.fst {be : Nat} {K : Nat → Nat → Nat} {bd len nn i : Nat} {f t : Int32} (h : Fnd be K bd len nn i 0 f t) : Fnd be K bd len nn i i f t := by
  rcases h with ⟨h1, h2, h3⟩ | ⟨a, b, h1, h2, h3, h4, h5, h6, h7⟩
  · exact Or.inl ⟨h1, h2, fun a b q1 q2 q3 => h3 a b q1 q2 (by omega)⟩
  · exact Or.inr ⟨a, b, h1, h2, h3, h4, h5, h6, fun a' b' q1 q2 q3 q4 => h7 a' b' q1 q2 (by omega) q4⟩
theorem Fnd.nil {be : Nat} {K : Nat → Nat → Nat} {bd len nn : Nat} : Fnd be K bd len nn 0 0 (-1) (-1) := Or.inl ⟨rfl, rfl, fun a b q1 q2 q3 => absurd q3 (by omega)⟩
def fRes (K : Nat → Nat → Nat) (f t : Int32) : Int32 := if f < 0 then -1 else nI (K f.toNatClampNeg t.toNatClampNeg)
/-- but for the table of costs and what find found nothing has changed -/
def MKf (Y Z : zY) : Prop := (∀ q, q ≠ 113 → q ≠ 102 → Z q = Y q) ∧ ∀ k, k ≠ 21 → k ≠ 23 → k ≠ 24 → Z 102 k = Y 102 k
theorem MKf.rf {Y : zY} : MKf Y Y := ⟨fun _ _ _ => rfl, fun _ _ _ _ => rfl⟩
theorem MKf.mk {X Y Z : zY} (h : MKf X Y) (h2 : MK Y Z) : MKf X Z := ⟨fun q a b => (h2.1 q a b).trans (h.1 q a b), fun k a b c => (h2.2 k a).trans (h.2 k a b c)⟩
theorem MKf.p23 {Y Z : zY} {v : Int32} (h : MKf Y Z) : MKf Y (zU Z 102 23 v) := ⟨fun q a b => (zU_row b).trans (h.1 q a b), fun k a b c => (zU_nj b).trans (h.2 k a b c)⟩
theorem MKf.p24 {Y Z : zY} {v : Int32} (h : MKf Y Z) : MKf Y (zU Z 102 24 v) := ⟨fun q a b => (zU_row b).trans (h.1 q a b), fun k a b c => (zU_nj c).trans (h.2 k a b c)⟩
theorem MC.keepf {Y Z : zY} {nn : Nat} {kd lf rt tx : Nat → Nat} {len ad mi wr : Nat} (h : MC Y nn kd lf rt tx len ad mi wr) (k : MKf Y Z) : MC Z nn kd lf rt tx len ad mi wr := by
  obtain ⟨a1, a2, a3, a4, a5, a6, a7, a8, a9, b1, b2, b3, b4⟩ := h
  refine ⟨a1, a2, a3, a4, a5, a6, ?_, ?_, ?_, ?_, ?_, ?_, ?_⟩
  · rw [k.2 2 (by decide) (by decide) (by decide)]; exact a7
  · rw [k.2 19 (by decide) (by decide) (by decide)]; exact a8
  · rw [k.2 15 (by decide) (by decide) (by decide)]; exact a9
  · rw [k.2 16 (by decide) (by decide) (by decide)]; exact b1
  · rw [k.2 17 (by decide) (by decide) (by decide)]; exact b2
  · rw [k.1 112 (by decide) (by decide)]; exact b3
  · rw [k.1 104 (by decide) (by decide), k.1 105 (by decide) (by decide), k.1 106 (by decide) (by decide)]; exact b4
theorem MT.put {Y : zY} {C : Nat → Nat → Nat → Nat} {len nn k : Nat} {v : Int32} (h : MT Y C len nn) (hk : k ≠ 21) : MT (zU Y 102 k v) C len nn := by
  rcases h with h | ⟨h, h2⟩
  · exact Or.inl ((zU_nj hk.symm).trans h)
  · exact Or.inr ⟨(zU_nj hk.symm).trans h, fun a ha i j p q => (zU_np (by decide)).trans (h2 a ha i j p q)⟩
/-- the bits of the ends -/
def eM (K : Nat → Nat → Nat) (bd nn i j : Nat) : Nat := if nn ≠ 0 ∧ K i j ≤ bd then 1 else 0
def eR (m : Nat → Nat → Nat) (j : Nat) (x : Int32) : Nat → Int32
  | 0 => x
  | q + 1 => if m q j = 1 then eR m j x q ||| (nI 1 <<< (nI j &&& 31)) else eR m j x q
def eA (m : Nat → Nat → Nat) : Nat → Int32
  | 0 => nI 0
  | j + 1 => eR m j (eA m j) (j + 1)
set_option maxHeartbeats 4000000 in
set_option maxRecDepth 100000 in
theorem kX6_cost (l : Launch) (G : zG) (A : Nat → Nat) (Y : zY) (i j : Int32) (nn : Nat) (kd lf rt tx : Nat → Nat) (len ad mi wr : Nat) (C : Nat → Nat → Nat → Nat) (hMC : MC Y nn kd lf rt tx len ad mi wr) (hC : C = cCost kd lf rt tx ad mi wr) (hMT : MT Y C len nn) : ZI l yX6_cost cX6_cost 4 (.int) 4 99 G A Y [.ref (A 102), .int i, .int j] (fun r Y' => r = cAI nn C len i j ∧ MK Y Y' ∧ MT Y' C len nn) := by
  refine ZI.enter (by decide) (Nat.le_of_ble_eq_true rfl) ?_
  intro p e s m args below meth c R Q hxx hbb S hK hfr hlo hret H ls hP hS hl
  have hB : ∀ q, zAd A q → zAd A q := fun _ h => h
  have hl : lv_has ls 4 [(0, .ref (A 102)), (1, .int i), (2, .int j)] := hl
  have S : CallFix p m c cX6_cost 4 s args wsL_law RX6 := S
  have hMC9 := hMC
  obtain ⟨hwf, hlen, had, hmi, hwr, htx, hY2, hY19, hY15, hY16, hY17, hYt, hYn⟩ := hMC
  have hnn := hwf.1
  have hCle : ∀ a, a < nn → ∀ i j, j ≤ 24 → C a i j ≤ 1000000 := fun a ha i j h => by rw [hC]; exact cCost_le hwf had hmi h a ha i
  have hKK : MK Y Y := MK.rf
  refine lv_aload_n hxx hbb dX6_cost_0 rfl (lv_at hl 0 rfl) ?_
  refine zgX6_122 S hK hP 102 (by decide) zk_102 (v := nI nn) (hY2) dX6_cost_1 ?_
  refine zif_eq (tgt := 24) S (by omega) dX6_cost_4 (by decide) (fun c_1 => ?_) (fun c_1 => ?_)
  · skip
    refine lv_iconst (v := (-1)) hxx hbb dX6_cost_24 (by decide) ?_
    exact hret _ _ _ _ _ _ dX6_cost_25 (rfl) hP hS (⟨by unfold cAI; rw [if_pos (by first | exact Or.inl ‹_› | exact Or.inr (Or.inl ‹_›) | exact Or.inr (Or.inr (Or.inl ‹_›)) | exact Or.inr (Or.inr (Or.inr (Int32.not_le.mp ‹_›))))], MK.rf, hMT⟩)
  · skip
    refine lv_iload_n hxx hbb dX6_cost_7 rfl (lv_at hl 1 rfl) ?_
    refine lv_if_lt (tgt := 24) hxx hbb dX6_cost_8 (by decide) (fun c_2 => ?_) (fun c_2 => ?_)
    · skip
      refine lv_iconst (v := (-1)) hxx hbb dX6_cost_24 (by decide) ?_
      exact hret _ _ _ _ _ _ dX6_cost_25 (rfl) hP hS (⟨by unfold cAI; rw [if_pos (by first | exact Or.inl ‹_› | exact Or.inr (Or.inl ‹_›) | exact Or.inr (Or.inr (Or.inl ‹_›)) | exact Or.inr (Or.inr (Or.inr (Int32.not_le.mp ‹_›))))], MK.rf, hMT⟩)
    · skip
      refine lv_iload_n hxx hbb dX6_cost_11 rfl (lv_at hl 2 rfl) ?_
      refine lv_iload_n hxx hbb dX6_cost_12 rfl (lv_at hl 1 rfl) ?_
      refine lv_icmp_lt (tgt := 24) hxx hbb dX6_cost_13 (by decide) (fun c_3 => ?_) (fun c_3 => ?_)
      · skip
        refine lv_iconst (v := (-1)) hxx hbb dX6_cost_24 (by decide) ?_
        exact hret _ _ _ _ _ _ dX6_cost_25 (rfl) hP hS (⟨by unfold cAI; rw [if_pos (by first | exact Or.inl ‹_› | exact Or.inr (Or.inl ‹_›) | exact Or.inr (Or.inr (Or.inl ‹_›)) | exact Or.inr (Or.inr (Or.inr (Int32.not_le.mp ‹_›))))], MK.rf, hMT⟩)
      · skip
        refine lv_iload_n hxx hbb dX6_cost_16 rfl (lv_at hl 2 rfl) ?_
        refine lv_aload_n hxx hbb dX6_cost_17 rfl (lv_at hl 0 rfl) ?_
        refine zgX6_135 S hK hP 102 (by decide) zk_102 (v := nI len) (hY19) dX6_cost_18 ?_
        refine lv_icmp_le (tgt := 26) hxx hbb dX6_cost_21 (by decide) (fun c_4 => ?_) (fun c_4 => ?_)
        · skip
          obtain ⟨a, ha, hia⟩ := nI_of c_2
          obtain ⟨b, hbl, hjb⟩ := nI_of (i32_nlt c_2 c_3)
          subst hia; subst hjb
          have hab := cmp_lt ha hbl c_3
          have hbn := (nI_leI hbl (by omega)).mp c_4
          refine lv_aload_n hxx hbb dX6_cost_26 rfl (lv_at hl 0 rfl) ?_
          refine ZV.callV S hK hP hS hB (kX6_work l G A Y nn kd lf rt tx len ad mi wr C (hMC9.keep hKK) hC hMT) zwX6_159 zdX6_work rfl ⟨Nat.le_trans (by decide) hfr, Nat.le_trans (by decide) hlo⟩ (by decide) (zcK6 zk_102) rfl rfl (Nat.le_of_ble_eq_true rfl) hl.1 dX6_cost_27 ⟨Nat.zero_le _, Nat.zero_le _⟩ (fun Y_6 H locs hq_7 hP hS => ?_)
          obtain ⟨hk9, h21, hTB⟩ := hq_7
          have hKK := hKK.trans hk9
          refine lv_aload_n hxx hbb dX6_cost_30 rfl (lv_at hl 0 rfl) ?_
          refine lv_aload_n hxx hbb dX6_cost_31 rfl (lv_at hl 0 rfl) ?_
          refine zgX6_122 S hK hP 102 (by decide) zk_102 (v := nI nn) ((hKK.2 _ (by decide)).trans hY2) dX6_cost_32 ?_
          refine lv_iconst (v := nI 1) hxx hbb dX6_cost_35 (by decide) ?_
          refine zsubN S (by omega) dX6_cost_36 ?_
          refine lv_iload_n hxx hbb dX6_cost_37 rfl (lv_at hl 1 rfl) ?_
          refine lv_iload_n hxx hbb dX6_cost_38 rfl (lv_at hl 2 rfl) ?_
          refine ZI.callV S hK hP hS hB (kX6_costOf l G A Y_6 (nn - 1) a b (by omega) (by omega) (by omega)) zwX6_139 zdX6_costOf rfl ⟨Nat.le_trans (by decide) hfr, Nat.le_trans (by decide) hlo⟩ (by decide) (zcK6 zk_102) rfl rfl (Nat.le_of_ble_eq_true rfl) hl.1 dX6_cost_39 ⟨Nat.zero_le _, Nat.zero_le _⟩ (fun r_8 Y_9 H locs hq_10 hP hS => ?_)
          obtain ⟨hr9, hY9⟩ := hq_10
          have hr9 := hr9.trans (hTB _ (by omega) _ _ hab hbn)
          subst hr9; rw [hY9] at hP
          refine lv_istore_n (lv' := [(3, .int (nI (C (nn - 1) a b))), (0, .ref (A 102)), (1, .int (nI a)), (2, .int (nI b))]) hxx hbb dX6_cost_42 rfl hl (by decide) rfl (fun ls hl => ?_)
          have hc9 := hCle (nn - 1) (by omega) a b (by omega)
          refine lv_iload_n hxx hbb dX6_cost_43 rfl (lv_at hl 0 rfl) ?_
          refine zldc S (v := 1000000) zxX6_138 dX6_cost_44 ?_
          rw [show (1000000 : Int32) = nI 1000000 from rfl]
          refine zcmp_lt (tgt := 53) S (by omega) (by omega) dX6_cost_46 (by decide) (fun c_11 => ?_) (fun c_11 => ?_)
          · skip
            refine lv_iload_n hxx hbb dX6_cost_53 rfl (lv_at hl 0 rfl) ?_
            exact hret _ _ _ _ _ _ dX6_cost_54 (rfl) hP hS (⟨by rw [cAI_nat hab hbn hlen, if_neg (by omega), if_neg (by omega)], hKK, Or.inr ⟨h21, hTB⟩⟩)
          · skip
            refine lv_iconst (v := (-1)) hxx hbb dX6_cost_49 (by decide) ?_
            refine lv_goto (tgt := 54) hxx hbb dX6_cost_50 (by decide) ?_
            exact hret _ _ _ _ _ _ dX6_cost_54 (rfl) hP hS (⟨by rw [cAI_nat hab hbn hlen, if_neg (by omega), if_pos (by omega)], hKK, Or.inr ⟨h21, hTB⟩⟩)
        · skip
          refine lv_iconst (v := (-1)) hxx hbb dX6_cost_24 (by decide) ?_
          exact hret _ _ _ _ _ _ dX6_cost_25 (rfl) hP hS (⟨by unfold cAI; rw [if_pos (by first | exact Or.inl ‹_› | exact Or.inr (Or.inl ‹_›) | exact Or.inr (Or.inr (Or.inl ‹_›)) | exact Or.inr (Or.inr (Or.inr (Int32.not_le.mp ‹_›))))], MK.rf, hMT⟩)

set_option maxHeartbeats 4000000 in
set_option maxRecDepth 100000 in
theorem kX6_matches (l : Launch) (G : zG) (A : Nat → Nat) (Y : zY) (i j bd : Nat) (nn : Nat) (kd lf rt tx : Nat → Nat) (len ad mi wr : Nat) (C : Nat → Nat → Nat → Nat) (hMC : MC Y nn kd lf rt tx len ad mi wr) (hC : C = cCost kd lf rt tx ad mi wr) (hMT : MT Y C len nn) (hbd : bd ≤ 999) (h18 : Y 102 18 = nI bd) (hij : i ≤ j) (hj : j ≤ len) : ZI l yX6_matches cX6_matches 4 (.boolean) 5 122 G A Y [.ref (A 102), .int (nI i), .int (nI j)] (fun r Y' => (((nn ≠ 0 ∧ C (nn - 1) i j ≤ bd) ∧ r = nI 1) ∨ (¬ (nn ≠ 0 ∧ C (nn - 1) i j ≤ bd) ∧ r = nI 0)) ∧ MK Y Y' ∧ MT Y' C len nn) := by
  refine ZI.enter (by decide) (Nat.le_of_ble_eq_true rfl) ?_
  intro p e s m args below meth c R Q hxx hbb S hK hfr hlo hret H ls hP hS hl
  have hB : ∀ q, zAd A q → zAd A q := fun _ h => h
  have hl : lv_has ls 4 [(0, .ref (A 102)), (1, .int (nI i)), (2, .int (nI j))] := hl
  have S : CallFix p m c cX6_matches 4 s args wsL_law RX6 := S
  have hMC9 := hMC
  obtain ⟨hwf, hlen, had, hmi, hwr, htx, hY2, hY19, hY15, hY16, hY17, hYt, hYn⟩ := hMC
  have hnn := hwf.1
  have hCle : ∀ a, a < nn → ∀ i j, j ≤ 24 → C a i j ≤ 1000000 := fun a ha i j h => by rw [hC]; exact cCost_le hwf had hmi h a ha i
  have hKK : MK Y Y := MK.rf
  refine lv_aload_n hxx hbb dX6_matches_0 rfl (lv_at hl 0 rfl) ?_
  refine lv_iload_n hxx hbb dX6_matches_1 rfl (lv_at hl 1 rfl) ?_
  refine lv_iload_n hxx hbb dX6_matches_2 rfl (lv_at hl 2 rfl) ?_
  refine ZI.callV S hK hP hS hB (kX6_cost l G A Y (nI i) (nI j) nn kd lf rt tx len ad mi wr C (hMC9.keep hKK) hC hMT) zwX6_162 zdX6_cost rfl ⟨Nat.le_trans (by decide) hfr, Nat.le_trans (by decide) hlo⟩ (by decide) (zcK6 zk_102) rfl rfl (Nat.le_of_ble_eq_true rfl) hl.1 dX6_matches_3 ⟨Nat.zero_le _, Nat.zero_le _⟩ (fun r_1 Y_2 H locs hq_3 hP hS => ?_)
  obtain ⟨hr_4, hk9, hMT⟩ := hq_3
  have hKK := hKK.trans hk9
  have hr_4 := hr_4.trans (cAI_nat hij hj hlen)
  have hrr := hr_4
  refine lv_istore_n (lv' := [(3, .int r_1), (0, .ref (A 102)), (1, .int (nI i)), (2, .int (nI j))]) hxx hbb dX6_matches_6 rfl hl (by decide) rfl (fun ls hl => ?_)
  refine lv_iload_n hxx hbb dX6_matches_7 rfl (lv_at hl 0 rfl) ?_
  refine lv_if_lt (tgt := 23) hxx hbb dX6_matches_8 (by decide) (fun c_5 => ?_) (fun c_5 => ?_)
  · skip
    refine lv_iconst (v := nI 0) hxx hbb dX6_matches_23 (by decide) ?_
    exact hret _ _ _ _ _ _ dX6_matches_24 (by first | rfl | decide) hP hS (⟨Or.inr ⟨mat_no hrr hbd (by first | exact Or.inl ‹_› | exact Or.inr ‹_›), rfl⟩, hKK, hMT⟩)
  · skip
    refine lv_iload_n hxx hbb dX6_matches_11 rfl (lv_at hl 0 rfl) ?_
    refine lv_aload_n hxx hbb dX6_matches_12 rfl (lv_at hl 1 rfl) ?_
    refine zgX6_132 S hK hP 102 (by decide) zk_102 (v := nI bd) ((hKK.2 _ (by decide)).trans h18) dX6_matches_13 ?_
    refine lv_icmp_gt (tgt := 23) hxx hbb dX6_matches_16 (by decide) (fun c_6 => ?_) (fun c_6 => ?_)
    · skip
      refine lv_iconst (v := nI 0) hxx hbb dX6_matches_23 (by decide) ?_
      exact hret _ _ _ _ _ _ dX6_matches_24 (by first | rfl | decide) hP hS (⟨Or.inr ⟨mat_no hrr hbd (by first | exact Or.inl ‹_› | exact Or.inr ‹_›), rfl⟩, hKK, hMT⟩)
    · skip
      refine lv_iconst (v := nI 1) hxx hbb dX6_matches_19 (by decide) ?_
      refine lv_goto (tgt := 24) hxx hbb dX6_matches_20 (by decide) ?_
      exact hret _ _ _ _ _ _ dX6_matches_24 (by first | rfl | decide) hP hS (⟨Or.inl ⟨mat_yes hrr (fun h0 => hCle _ (by omega) _ _ (by omega)) hbd ‹_› ‹_›, rfl⟩, hKK, hMT⟩)

set_option maxHeartbeats 4000000 in
set_option maxRecDepth 100000 in
theorem kX6_before (l : Launch) (G : zG) (A : Nat → Nat) (Y : zY) (be i j a b bd : Nat) (nn : Nat) (kd lf rt tx : Nat → Nat) (len ad mi wr : Nat) (C : Nat → Nat → Nat → Nat) (hMC : MC Y nn kd lf rt tx len ad mi wr) (hC : C = cCost kd lf rt tx ad mi wr) (hMT : MT Y C len nn) (hbe : be ≤ 1) (hbd : bd ≤ 999) (hij : i ≤ j) (hj : j ≤ len) (hab : a ≤ b) (hbl : b ≤ len) (hnz : nn ≠ 0) (h1 : C (nn - 1) i j ≤ bd) (h2 : C (nn - 1) a b ≤ bd) : ZI l yX6_before cX6_before 8 (.boolean) 5 122 G A Y [.ref (A 102), .int (nI be), .int (nI i), .int (nI j), .int (nI a), .int (nI b)] (fun r Y' => ((bf be (C (nn - 1)) i j a b ∧ r = nI 1) ∨ (¬ bf be (C (nn - 1)) i j a b ∧ r = nI 0)) ∧ MK Y Y' ∧ MT Y' C len nn) := by
  refine ZI.enter (by decide) (Nat.le_of_ble_eq_true rfl) ?_
  intro p e s m args below meth c R Q hxx hbb S hK hfr hlo hret H ls hP hS hl
  have hB : ∀ q, zAd A q → zAd A q := fun _ h => h
  have hl : lv_has ls 8 [(0, .ref (A 102)), (1, .int (nI be)), (2, .int (nI i)), (3, .int (nI j)), (4, .int (nI a)), (5, .int (nI b))] := hl
  have S : CallFix p m c cX6_before 8 s args wsL_law RX6 := S
  have hMC9 := hMC
  obtain ⟨hwf, hlen, had, hmi, hwr, htx, hY2, hY19, hY15, hY16, hY17, hYt, hYn⟩ := hMC
  have hnn := hwf.1
  have hCle : ∀ a, a < nn → ∀ i j, j ≤ 24 → C a i j ≤ 1000000 := fun a ha i j h => by rw [hC]; exact cCost_le hwf had hmi h a ha i
  have hKK : MK Y Y := MK.rf
  refine lv_aload_n hxx hbb dX6_before_0 rfl (lv_at hl 0 rfl) ?_
  refine lv_iload_n hxx hbb dX6_before_1 rfl (lv_at hl 2 rfl) ?_
  refine lv_iload_n hxx hbb dX6_before_2 rfl (lv_at hl 3 rfl) ?_
  refine ZI.callV S hK hP hS hB (kX6_cost l G A Y (nI i) (nI j) nn kd lf rt tx len ad mi wr C (hMC9.keep hKK) hC hMT) zwX6_162 zdX6_cost rfl ⟨Nat.le_trans (by decide) hfr, Nat.le_trans (by decide) hlo⟩ (by decide) (zcK6 zk_102) rfl rfl (Nat.le_of_ble_eq_true rfl) hl.1 dX6_before_3 ⟨Nat.zero_le _, Nat.zero_le _⟩ (fun r_1 Y_2 H locs hq_3 hP hS => ?_)
  obtain ⟨hr_4, hk9, hMT⟩ := hq_3
  have hKK := hKK.trans hk9
  have hr_4 := hr_4.trans (cAI_fin (by omega) (by omega) hlen hnz (by omega))
  subst hr_4
  refine lv_istore (lv' := [(6, .int (nI (C (nn - 1) i j))), (0, .ref (A 102)), (1, .int (nI be)), (2, .int (nI i)), (3, .int (nI j)), (4, .int (nI a)), (5, .int (nI b))]) hxx hbb dX6_before_6 hl (by decide) rfl (fun ls hl => ?_)
  refine lv_aload_n hxx hbb dX6_before_8 rfl (lv_at hl 1 rfl) ?_
  refine lv_iload hxx hbb dX6_before_9 (lv_at hl 5 rfl) ?_
  refine lv_iload hxx hbb dX6_before_11 (lv_at hl 6 rfl) ?_
  refine ZI.callV S hK hP hS hB (kX6_cost l G A Y_2 (nI a) (nI b) nn kd lf rt tx len ad mi wr C (hMC9.keep hKK) hC hMT) zwX6_162 zdX6_cost rfl ⟨Nat.le_trans (by decide) hfr, Nat.le_trans (by decide) hlo⟩ (by decide) (zcK6 zk_102) rfl rfl (Nat.le_of_ble_eq_true rfl) hl.1 dX6_before_13 ⟨Nat.zero_le _, Nat.zero_le _⟩ (fun r_5 Y_6 H locs hq_7 hP hS => ?_)
  obtain ⟨hr_8, hk9, hMT⟩ := hq_7
  have hKK := hKK.trans hk9
  have hr_8 := hr_8.trans (cAI_fin (by omega) (by omega) hlen hnz (by omega))
  subst hr_8
  refine lv_istore (lv' := [(7, .int (nI (C (nn - 1) a b))), (6, .int (nI (C (nn - 1) i j))), (0, .ref (A 102)), (1, .int (nI be)), (2, .int (nI i)), (3, .int (nI j)), (4, .int (nI a)), (5, .int (nI b))]) hxx hbb dX6_before_16 hl (by decide) rfl (fun ls hl => ?_)
  refine lv_iload_n hxx hbb dX6_before_18 rfl (lv_at hl 3 rfl) ?_
  refine zif_eq (tgt := 60) S (by omega) dX6_before_19 (by decide) (fun c_9 => ?_) (fun c_9 => ?_)
  · skip
    refine lv_iload_n hxx hbb dX6_before_60 rfl (lv_at hl 4 rfl) ?_
    refine lv_iload hxx hbb dX6_before_61 (lv_at hl 6 rfl) ?_
    refine zcmp_lt (tgt := 92) S (by omega) (by omega) dX6_before_63 (by decide) (fun c_10 => ?_) (fun c_10 => ?_)
    · skip
      refine lv_iconst (v := nI 1) hxx hbb dX6_before_92 (by decide) ?_
      refine lv_goto (tgt := 97) hxx hbb dX6_before_93 (by decide) ?_
      exact hret _ _ _ _ _ _ dX6_before_97 (by first | rfl | decide) hP hS (⟨Or.inl ⟨by unfold bf; omega, rfl⟩, hKK, hMT⟩)
    · skip
      refine lv_iload_n hxx hbb dX6_before_66 rfl (lv_at hl 4 rfl) ?_
      refine lv_iload hxx hbb dX6_before_67 (lv_at hl 6 rfl) ?_
      refine zcmp_ne (tgt := 96) S (by omega) (by omega) dX6_before_69 (by decide) (fun c_11 => ?_) (fun c_11 => ?_)
      · skip
        refine lv_iconst (v := nI 0) hxx hbb dX6_before_96 (by decide) ?_
        exact hret _ _ _ _ _ _ dX6_before_97 (by first | rfl | decide) hP hS (⟨Or.inr ⟨by unfold bf; omega, rfl⟩, hKK, hMT⟩)
      · skip
        refine lv_iload hxx hbb dX6_before_72 (lv_at hl 1 rfl) ?_
        refine lv_iload hxx hbb dX6_before_74 (lv_at hl 0 rfl) ?_
        refine zcmp_lt (tgt := 92) S (by omega) (by omega) dX6_before_76 (by decide) (fun c_12 => ?_) (fun c_12 => ?_)
        · skip
          refine lv_iconst (v := nI 1) hxx hbb dX6_before_92 (by decide) ?_
          refine lv_goto (tgt := 97) hxx hbb dX6_before_93 (by decide) ?_
          exact hret _ _ _ _ _ _ dX6_before_97 (by first | rfl | decide) hP hS (⟨Or.inl ⟨by unfold bf; omega, rfl⟩, hKK, hMT⟩)
        · skip
          refine lv_iload hxx hbb dX6_before_79 (lv_at hl 1 rfl) ?_
          refine lv_iload hxx hbb dX6_before_81 (lv_at hl 0 rfl) ?_
          refine zcmp_ne (tgt := 96) S (by omega) (by omega) dX6_before_83 (by decide) (fun c_13 => ?_) (fun c_13 => ?_)
          · skip
            refine lv_iconst (v := nI 0) hxx hbb dX6_before_96 (by decide) ?_
            exact hret _ _ _ _ _ _ dX6_before_97 (by first | rfl | decide) hP hS (⟨Or.inr ⟨by unfold bf; omega, rfl⟩, hKK, hMT⟩)
          · skip
            refine lv_iload_n hxx hbb dX6_before_86 rfl (lv_at hl 5 rfl) ?_
            refine lv_iload hxx hbb dX6_before_87 (lv_at hl 7 rfl) ?_
            refine zcmp_le (tgt := 96) S (by omega) (by omega) dX6_before_89 (by decide) (fun c_14 => ?_) (fun c_14 => ?_)
            · skip
              refine lv_iconst (v := nI 0) hxx hbb dX6_before_96 (by decide) ?_
              exact hret _ _ _ _ _ _ dX6_before_97 (by first | rfl | decide) hP hS (⟨Or.inr ⟨by unfold bf; omega, rfl⟩, hKK, hMT⟩)
            · skip
              refine lv_iconst (v := nI 1) hxx hbb dX6_before_92 (by decide) ?_
              refine lv_goto (tgt := 97) hxx hbb dX6_before_93 (by decide) ?_
              exact hret _ _ _ _ _ _ dX6_before_97 (by first | rfl | decide) hP hS (⟨Or.inl ⟨by unfold bf; omega, rfl⟩, hKK, hMT⟩)
  · skip
    refine lv_iload hxx hbb dX6_before_22 (lv_at hl 1 rfl) ?_
    refine lv_iload hxx hbb dX6_before_24 (lv_at hl 0 rfl) ?_
    refine zcmp_lt (tgt := 54) S (by omega) (by omega) dX6_before_26 (by decide) (fun c_15 => ?_) (fun c_15 => ?_)
    · skip
      refine lv_iconst (v := nI 1) hxx hbb dX6_before_54 (by decide) ?_
      refine lv_goto (tgt := 59) hxx hbb dX6_before_55 (by decide) ?_
      exact hret _ _ _ _ _ _ dX6_before_59 (by first | rfl | decide) hP hS (⟨Or.inl ⟨by unfold bf; omega, rfl⟩, hKK, hMT⟩)
    · skip
      refine lv_iload hxx hbb dX6_before_29 (lv_at hl 1 rfl) ?_
      refine lv_iload hxx hbb dX6_before_31 (lv_at hl 0 rfl) ?_
      refine zcmp_ne (tgt := 58) S (by omega) (by omega) dX6_before_33 (by decide) (fun c_16 => ?_) (fun c_16 => ?_)
      · skip
        refine lv_iconst (v := nI 0) hxx hbb dX6_before_58 (by decide) ?_
        exact hret _ _ _ _ _ _ dX6_before_59 (by first | rfl | decide) hP hS (⟨Or.inr ⟨by unfold bf; omega, rfl⟩, hKK, hMT⟩)
      · skip
        refine lv_iload_n hxx hbb dX6_before_36 rfl (lv_at hl 4 rfl) ?_
        refine lv_iload hxx hbb dX6_before_37 (lv_at hl 6 rfl) ?_
        refine zcmp_lt (tgt := 54) S (by omega) (by omega) dX6_before_39 (by decide) (fun c_17 => ?_) (fun c_17 => ?_)
        · skip
          refine lv_iconst (v := nI 1) hxx hbb dX6_before_54 (by decide) ?_
          refine lv_goto (tgt := 59) hxx hbb dX6_before_55 (by decide) ?_
          exact hret _ _ _ _ _ _ dX6_before_59 (by first | rfl | decide) hP hS (⟨Or.inl ⟨by unfold bf; omega, rfl⟩, hKK, hMT⟩)
        · skip
          refine lv_iload_n hxx hbb dX6_before_42 rfl (lv_at hl 4 rfl) ?_
          refine lv_iload hxx hbb dX6_before_43 (lv_at hl 6 rfl) ?_
          refine zcmp_ne (tgt := 58) S (by omega) (by omega) dX6_before_45 (by decide) (fun c_18 => ?_) (fun c_18 => ?_)
          · skip
            refine lv_iconst (v := nI 0) hxx hbb dX6_before_58 (by decide) ?_
            exact hret _ _ _ _ _ _ dX6_before_59 (by first | rfl | decide) hP hS (⟨Or.inr ⟨by unfold bf; omega, rfl⟩, hKK, hMT⟩)
          · skip
            refine lv_iload_n hxx hbb dX6_before_48 rfl (lv_at hl 5 rfl) ?_
            refine lv_iload hxx hbb dX6_before_49 (lv_at hl 7 rfl) ?_
            refine zcmp_le (tgt := 58) S (by omega) (by omega) dX6_before_51 (by decide) (fun c_19 => ?_) (fun c_19 => ?_)
            · skip
              refine lv_iconst (v := nI 0) hxx hbb dX6_before_58 (by decide) ?_
              exact hret _ _ _ _ _ _ dX6_before_59 (by first | rfl | decide) hP hS (⟨Or.inr ⟨by unfold bf; omega, rfl⟩, hKK, hMT⟩)
            · skip
              refine lv_iconst (v := nI 1) hxx hbb dX6_before_54 (by decide) ?_
              refine lv_goto (tgt := 59) hxx hbb dX6_before_55 (by decide) ?_
              exact hret _ _ _ _ _ _ dX6_before_59 (by first | rfl | decide) hP hS (⟨Or.inl ⟨by unfold bf; omega, rfl⟩, hKK, hMT⟩)

set_option maxHeartbeats 4000000 in
set_option maxRecDepth 100000 in
theorem kX6_find (l : Launch) (G : zG) (A : Nat → Nat) (Y : zY) (be bd : Nat) (nn : Nat) (kd lf rt tx : Nat → Nat) (len ad mi wr : Nat) (C : Nat → Nat → Nat → Nat) (hMC : MC Y nn kd lf rt tx len ad mi wr) (hC : C = cCost kd lf rt tx ad mi wr) (hMT : MT Y C len nn) (hbe : be ≤ 1) (hbd : bd ≤ 999) (h18 : Y 102 18 = nI bd) : ZI l yX6_find cX6_find 4 (.int) 6 149 G A Y [.ref (A 102), .int (nI be)] (fun r Y' => ∃ f t, Fnd be (C (nn - 1)) bd len nn (len + 1) 0 f t ∧ r = fRes (C (nn - 1)) f t ∧ Y' 102 23 = f ∧ Y' 102 24 = t ∧ MKf Y Y' ∧ MT Y' C len nn) := by
  refine ZI.enter (by decide) (Nat.le_of_ble_eq_true rfl) ?_
  intro p e s m args below meth c R Q hxx hbb S hK hfr hlo hret H ls hP hS hl
  have hB : ∀ q, zAd A q → zAd A q := fun _ h => h
  have hl : lv_has ls 4 [(0, .ref (A 102)), (1, .int (nI be))] := hl
  have S : CallFix p m c cX6_find 4 s args wsL_law RX6 := S
  have hMC9 := hMC
  obtain ⟨hwf, hlen, had, hmi, hwr, htx, hY2, hY19, hY15, hY16, hY17, hYt, hYn⟩ := hMC
  have hnn := hwf.1
  have hCle : ∀ a, a < nn → ∀ i j, j ≤ 24 → C a i j ≤ 1000000 := fun a ha i j h => by rw [hC]; exact cCost_le hwf had hmi h a ha i
  have hKK : MKf Y Y := MKf.rf
  refine lv_aload_n hxx hbb dX6_find_0 rfl (lv_at hl 0 rfl) ?_
  refine lv_iconst (v := (-1)) hxx hbb dX6_find_1 (by decide) ?_
  refine zpX6_53 S hK hP hS hB 102 (by decide) zk_102 dX6_find_2 (fun H locs hP hS => ?_)
  refine lv_aload_n hxx hbb dX6_find_5 rfl (lv_at hl 0 rfl) ?_
  refine lv_iconst (v := (-1)) hxx hbb dX6_find_6 (by decide) ?_
  refine zpX6_56 S hK hP hS hB 102 (by decide) zk_102 dX6_find_7 (fun H locs hP hS => ?_)
  refine lv_iconst (v := nI 0) hxx hbb dX6_find_10 (by decide) ?_
  refine lv_istore_n (lv' := [(2, .int (nI 0)), (0, .ref (A 102)), (1, .int (nI be))]) hxx hbb dX6_find_11 rfl hl (by decide) rfl (fun ls hl => ?_)
  have L_12 : ∀ (N_12 : Nat) (i : Nat) (Y1 : zY) (f t : Int32) (hi : i ≤ len + 1) (hKK : MKf Y Y1) (hMT : MT Y1 C len nn) (h23 : Y1 102 23 = f) (h24 : Y1 102 24 = t) (hF : Fnd be (C (nn - 1)) bd len nn i 0 f t), len + 1 - i < N_12 → ∀ (H : Heap) (locs : List Loc) (ls : Array Slot), va_P G.1 vwCl (zW G A Y1) H → va_S (zAd A) s.heap H locs → lv_has ls 4 [(0, .ref (A 102)), (1, .int (nI be)), (2, .int (nI i))] → W p l e R s m args below meth c H locs 0 0 Q (F0 m 12 ls []) := by
    intro N_12
    induction N_12 with
    | zero => intro i Y1 f t hi hKK hMT h23 h24 hF hm; exact absurd hm (Nat.not_lt_zero _)
    | succ N_12 ih_12 =>
      intro i Y1 f t hi hKK hMT h23 h24 hF hm_12 H locs ls hP hS hl
      refine lv_iload_n hxx hbb dX6_find_12 rfl (lv_at hl 2 rfl) ?_
      refine lv_aload_n hxx hbb dX6_find_13 rfl (lv_at hl 0 rfl) ?_
      refine zgX6_135 S hK hP 102 (by decide) zk_102 (v := nI len) ((hKK.2 _ (by decide) (by decide) (by decide)).trans hY19) dX6_find_14 ?_
      refine zcmp_gt (tgt := 86) S (by omega) (by omega) dX6_find_17 (by decide) (fun c_1 => ?_) (fun c_1 => ?_)
      · skip
        rcases id hF with ⟨hf1, hf2, hno⟩ | ⟨a, b, hfa, htb, hab, hbl, hnz, hKb, hbest⟩
        · skip
          have h23x := h23.trans hf1
          refine lv_aload_n hxx hbb dX6_find_86 rfl (lv_at hl 0 rfl) ?_
          refine zgX6_53 S hK hP 102 (by decide) zk_102 (v := (-1)) (h23x) dX6_find_87 ?_
          refine lv_if_ge (tgt := 97) hxx hbb dX6_find_90 (by decide) (fun c_2 => ?_) (fun c_2 => ?_)
          · skip
            exact absurd ‹(0 : Int32) ≤ -1› (by decide)
          · skip
            refine lv_iconst (v := (-1)) hxx hbb dX6_find_93 (by decide) ?_
            refine lv_goto (tgt := 109) hxx hbb dX6_find_94 (by decide) ?_
            exact hret _ _ _ _ _ _ dX6_find_109 (rfl) hP hS (⟨f, t, by rw [show len + 1 = i by omega]; exact hF, by unfold fRes; rw [hf1]; rfl, h23, h24, hKK, hMT⟩)
        · skip
          have h23x := h23.trans hfa; have h24x := h24.trans htb
          refine lv_aload_n hxx hbb dX6_find_86 rfl (lv_at hl 0 rfl) ?_
          refine zgX6_53 S hK hP 102 (by decide) zk_102 (v := nI a) (h23x) dX6_find_87 ?_
          refine zif_ge (tgt := 97) S (by omega) dX6_find_90 (by decide) ?_
          refine lv_aload_n hxx hbb dX6_find_97 rfl (lv_at hl 0 rfl) ?_
          refine lv_aload_n hxx hbb dX6_find_98 rfl (lv_at hl 0 rfl) ?_
          refine zgX6_53 S hK hP 102 (by decide) zk_102 (v := nI a) (h23x) dX6_find_99 ?_
          refine lv_aload_n hxx hbb dX6_find_102 rfl (lv_at hl 0 rfl) ?_
          refine zgX6_56 S hK hP 102 (by decide) zk_102 (v := nI b) (h24x) dX6_find_103 ?_
          refine ZI.callV S hK hP hS hB (kX6_cost l G A Y1 (nI a) (nI b) nn kd lf rt tx len ad mi wr C (hMC9.keepf hKK) hC hMT) zwX6_162 zdX6_cost rfl ⟨Nat.le_trans (by decide) hfr, Nat.le_trans (by decide) hlo⟩ (by decide) (zcK6 zk_102) rfl rfl (Nat.le_of_ble_eq_true rfl) hl.1 dX6_find_106 ⟨Nat.zero_le _, Nat.zero_le _⟩ (fun r_4 Y_5 H locs hq_6 hP hS => ?_)
          obtain ⟨hr_7, hk9, hMT⟩ := hq_6
          have hKK := hKK.mk hk9
          have hr_7 := hr_7.trans (cAI_fin hab hbl hlen hnz (by omega))
          subst hr_7
          exact hret _ _ _ _ _ _ dX6_find_109 (rfl) hP hS (⟨f, t, by rw [show len + 1 = i by omega]; exact hF, by unfold fRes; rw [hfa, htb, if_neg (nI_pos (by omega)), nI_clamp (by omega), nI_clamp (by omega)], (hk9.2 23 (by decide)).trans h23, (hk9.2 24 (by decide)).trans h24, hKK, hMT⟩)
      · skip
        refine lv_iload_n hxx hbb dX6_find_20 rfl (lv_at hl 2 rfl) ?_
        refine lv_istore_n (lv' := [(3, .int (nI i)), (0, .ref (A 102)), (1, .int (nI be)), (2, .int (nI i))]) hxx hbb dX6_find_21 rfl hl (by decide) rfl (fun ls hl => ?_)
        have L_22 : ∀ (N_22 : Nat) (j : Nat) (Y1 : zY) (f t : Int32) (hij : i ≤ j) (hj : j ≤ len + 1) (hKK : MKf Y Y1) (hMT : MT Y1 C len nn) (h23 : Y1 102 23 = f) (h24 : Y1 102 24 = t) (hF : Fnd be (C (nn - 1)) bd len nn i j f t), len + 1 - j < N_22 → ∀ (H : Heap) (locs : List Loc) (ls : Array Slot), va_P G.1 vwCl (zW G A Y1) H → va_S (zAd A) s.heap H locs → lv_has ls 4 [(0, .ref (A 102)), (1, .int (nI be)), (2, .int (nI i)), (3, .int (nI j))] → W p l e R s m args below meth c H locs 0 0 Q (F0 m 22 ls []) := by
          intro N_22
          induction N_22 with
          | zero => intro j Y1 f t hij hj hKK hMT h23 h24 hF hm; exact absurd hm (Nat.not_lt_zero _)
          | succ N_22 ih_22 =>
            intro j Y1 f t hij hj hKK hMT h23 h24 hF hm_22 H locs ls hP hS hl
            refine lv_iload_n hxx hbb dX6_find_22 rfl (lv_at hl 3 rfl) ?_
            refine lv_aload_n hxx hbb dX6_find_23 rfl (lv_at hl 0 rfl) ?_
            refine zgX6_135 S hK hP 102 (by decide) zk_102 (v := nI len) ((hKK.2 _ (by decide) (by decide) (by decide)).trans hY19) dX6_find_24 ?_
            refine zcmp_gt (tgt := 80) S (by omega) (by omega) dX6_find_27 (by decide) (fun c_8 => ?_) (fun c_8 => ?_)
            · skip
              refine lv_iinc (v := nI (i + 1)) (lv' := [(2, .int (nI (i + 1))), (0, .ref (A 102)), (1, .int (nI be)), (3, .int (nI j))]) hxx hbb dX6_find_80 hl (k := 2) rfl (zinc1 _) (by decide) rfl (fun ls hl => ?_)
              refine lv_goto (tgt := 12) hxx hbb dX6_find_83 (by decide) ?_
              exact ih_12 (i + 1) Y1 f t (by omega) hKK hMT h23 h24 (hF.next (by omega)) (by omega) _ _ _ hP hS (lv_sub hl [1, 2, 0] rfl)
            · skip
              refine lv_aload_n hxx hbb dX6_find_30 rfl (lv_at hl 0 rfl) ?_
              refine lv_iload_n hxx hbb dX6_find_31 rfl (lv_at hl 2 rfl) ?_
              refine lv_iload_n hxx hbb dX6_find_32 rfl (lv_at hl 3 rfl) ?_
              refine ZI.callV S hK hP hS hB (kX6_matches l G A Y1 i j bd nn kd lf rt tx len ad mi wr C (hMC9.keepf hKK) hC hMT hbd ((hKK.2 _ (by decide) (by decide) (by decide)).trans h18) (by omega) (by omega)) zwX6_165 zdX6_matches rfl ⟨Nat.le_trans (by decide) hfr, Nat.le_trans (by decide) hlo⟩ (by decide) (zcK6 zk_102) rfl rfl (Nat.le_of_ble_eq_true rfl) hl.1 dX6_find_33 ⟨Nat.zero_le _, Nat.zero_le _⟩ (fun r_9 Y_10 H locs hq_11 hP hS => ?_)
              obtain ⟨hr9, hk9, hMT⟩ := hq_11
              have hKK := hKK.mk hk9
              rcases hr9 with ⟨hb_12, hr9⟩ | ⟨hb_12, hr9⟩
              · skip
                subst hr9
                refine zif_eq (tgt := 74) S (by omega) dX6_find_36 (by decide) (fun c_13 => ?_) (fun c_13 => ?_)
                · skip
                  exact absurd c_13 (by decide)
                · skip
                  have h23 := (hk9.2 23 (by decide)).trans h23; have h24 := (hk9.2 24 (by decide)).trans h24
                  rcases id hF with ⟨hf1, hf2, hno⟩ | ⟨a, b, hfa, htb, hab, hbl, hnz, hKb, hbest⟩
                  · skip
                    have h23 := h23.trans hf1
                    refine lv_aload_n hxx hbb dX6_find_39 rfl (lv_at hl 0 rfl) ?_
                    refine zgX6_53 S hK hP 102 (by decide) zk_102 (v := (-1)) (h23) dX6_find_40 ?_
                    refine lv_if_lt (tgt := 64) hxx hbb dX6_find_43 (by decide) (fun c_14 => ?_) (fun c_14 => ?_)
                    · skip
                      refine lv_aload_n hxx hbb dX6_find_64 rfl (lv_at hl 0 rfl) ?_
                      refine lv_iload_n hxx hbb dX6_find_65 rfl (lv_at hl 2 rfl) ?_
                      refine zpX6_53 S hK hP hS hB 102 (by decide) zk_102 dX6_find_66 (fun H locs hP hS => ?_)
                      refine lv_aload_n hxx hbb dX6_find_69 rfl (lv_at hl 0 rfl) ?_
                      refine lv_iload_n hxx hbb dX6_find_70 rfl (lv_at hl 3 rfl) ?_
                      refine zpX6_56 S hK hP hS hB 102 (by decide) zk_102 dX6_find_71 (fun H locs hP hS => ?_)
                      refine lv_iinc (v := nI (j + 1)) (lv' := [(3, .int (nI (j + 1))), (0, .ref (A 102)), (1, .int (nI be)), (2, .int (nI i))]) hxx hbb dX6_find_74 hl (k := 3) rfl (zinc1 _) (by decide) rfl (fun ls hl => ?_)
                      refine lv_goto (tgt := 22) hxx hbb dX6_find_77 (by decide) ?_
                      exact ih_22 (j + 1) (zU (zU Y_10 102 23 (nI i)) 102 24 (nI j)) (nI i) (nI j) (by omega) (by omega) hKK.p23.p24 ((hMT.put (by decide)).put (by decide)) ((zU_nj (by decide)).trans zU_eq) zU_eq (hF.take (by omega) (by omega) hb_12 (fun a b e _ _ _ => absurd (by rw [← e, hf1]; decide : nI a < 0) (nI_pos (by omega)))) (by omega) _ _ _ hP hS (lv_sub hl [1, 2, 3, 0] rfl)
                    · skip
                      exact absurd (by decide) ‹¬ (-1 : Int32) < 0›
                  · skip
                    have h23 := h23.trans hfa; have h24 := h24.trans htb
                    refine lv_aload_n hxx hbb dX6_find_39 rfl (lv_at hl 0 rfl) ?_
                    refine zgX6_53 S hK hP 102 (by decide) zk_102 (v := nI a) (h23) dX6_find_40 ?_
                    refine zif_lt S (by omega) dX6_find_43 ⟨64, by decide⟩ ?_
                    refine lv_aload_n hxx hbb dX6_find_46 rfl (lv_at hl 0 rfl) ?_
                    refine lv_iload_n hxx hbb dX6_find_47 rfl (lv_at hl 1 rfl) ?_
                    refine lv_iload_n hxx hbb dX6_find_48 rfl (lv_at hl 2 rfl) ?_
                    refine lv_iload_n hxx hbb dX6_find_49 rfl (lv_at hl 3 rfl) ?_
                    refine lv_aload_n hxx hbb dX6_find_50 rfl (lv_at hl 0 rfl) ?_
                    refine zgX6_53 S hK hP 102 (by decide) zk_102 (v := nI a) (h23) dX6_find_51 ?_
                    refine lv_aload_n hxx hbb dX6_find_54 rfl (lv_at hl 0 rfl) ?_
                    refine zgX6_56 S hK hP 102 (by decide) zk_102 (v := nI b) (h24) dX6_find_55 ?_
                    refine ZI.callV S hK hP hS hB (kX6_before l G A Y_10 be i j a b bd nn kd lf rt tx len ad mi wr C (hMC9.keepf hKK) hC hMT hbe hbd (by omega) (by omega) (by omega) (by omega) hnz (by omega) (by omega)) zwX6_169 zdX6_before rfl ⟨Nat.le_trans (by decide) hfr, Nat.le_trans (by decide) hlo⟩ (by decide) (zcK6 zk_102) rfl rfl (Nat.le_of_ble_eq_true rfl) hl.1 dX6_find_58 ⟨Nat.zero_le _, Nat.zero_le _⟩ (fun r_16 Y_17 H locs hq_18 hP hS => ?_)
                    obtain ⟨hr9, hk9, hMT⟩ := hq_18
                    have hKK := hKK.mk hk9
                    rcases hr9 with ⟨hb_19, hr9⟩ | ⟨hb_19, hr9⟩
                    · skip
                      subst hr9
                      refine zif_eq (tgt := 74) S (by omega) dX6_find_61 (by decide) (fun c_20 => ?_) (fun c_20 => ?_)
                      · skip
                        exact absurd c_20 (by decide)
                      · skip
                        refine lv_aload_n hxx hbb dX6_find_64 rfl (lv_at hl 0 rfl) ?_
                        refine lv_iload_n hxx hbb dX6_find_65 rfl (lv_at hl 2 rfl) ?_
                        refine zpX6_53 S hK hP hS hB 102 (by decide) zk_102 dX6_find_66 (fun H locs hP hS => ?_)
                        refine lv_aload_n hxx hbb dX6_find_69 rfl (lv_at hl 0 rfl) ?_
                        refine lv_iload_n hxx hbb dX6_find_70 rfl (lv_at hl 3 rfl) ?_
                        refine zpX6_56 S hK hP hS hB 102 (by decide) zk_102 dX6_find_71 (fun H locs hP hS => ?_)
                        refine lv_iinc (v := nI (j + 1)) (lv' := [(3, .int (nI (j + 1))), (0, .ref (A 102)), (1, .int (nI be)), (2, .int (nI i))]) hxx hbb dX6_find_74 hl (k := 3) rfl (zinc1 _) (by decide) rfl (fun ls hl => ?_)
                        refine lv_goto (tgt := 22) hxx hbb dX6_find_77 (by decide) ?_
                        exact ih_22 (j + 1) (zU (zU Y_17 102 23 (nI i)) 102 24 (nI j)) (nI i) (nI j) (by omega) (by omega) hKK.p23.p24 ((hMT.put (by decide)).put (by decide)) ((zU_nj (by decide)).trans zU_eq) zU_eq (hF.take (by omega) (by omega) hb_12 (fun a2 b2 e1 e2 q1 q2 => by have g1 := (nI_eq (by omega) (by omega)).mp (hfa.symm.trans e1); have g2 := (nI_eq (by omega) (by omega)).mp (htb.symm.trans e2); subst g1; subst g2; exact hb_19)) (by omega) _ _ _ hP hS (lv_sub hl [1, 2, 3, 0] rfl)
                    · skip
                      subst hr9
                      refine zif_eq (tgt := 74) S (by omega) dX6_find_61 (by decide) (fun c_21 => ?_) (fun c_21 => ?_)
                      · skip
                        refine lv_iinc (v := nI (j + 1)) (lv' := [(3, .int (nI (j + 1))), (0, .ref (A 102)), (1, .int (nI be)), (2, .int (nI i))]) hxx hbb dX6_find_74 hl (k := 3) rfl (zinc1 _) (by decide) rfl (fun ls hl => ?_)
                        refine lv_goto (tgt := 22) hxx hbb dX6_find_77 (by decide) ?_
                        exact ih_22 (j + 1) Y_17 (nI a) (nI b) (by omega) (by omega) hKK hMT ((hk9.2 23 (by decide)).trans h23) ((hk9.2 24 (by decide)).trans h24) (Fnd.keep (by rw [← hfa, ← htb]; exact hF) (by omega) (by omega) (by omega) hb_19) (by omega) _ _ _ hP hS (lv_sub hl [1, 2, 3, 0] rfl)
                      · skip
                        exact absurd c_21 (by decide)
              · skip
                subst hr9
                refine zif_eq (tgt := 74) S (by omega) dX6_find_36 (by decide) (fun c_22 => ?_) (fun c_22 => ?_)
                · skip
                  refine lv_iinc (v := nI (j + 1)) (lv' := [(3, .int (nI (j + 1))), (0, .ref (A 102)), (1, .int (nI be)), (2, .int (nI i))]) hxx hbb dX6_find_74 hl (k := 3) rfl (zinc1 _) (by decide) rfl (fun ls hl => ?_)
                  refine lv_goto (tgt := 22) hxx hbb dX6_find_77 (by decide) ?_
                  exact ih_22 (j + 1) Y_10 f t (by omega) (by omega) hKK hMT ((hk9.2 23 (by decide)).trans h23) ((hk9.2 24 (by decide)).trans h24) (hF.skip hb_12) (by omega) _ _ _ hP hS (lv_sub hl [1, 2, 3, 0] rfl)
                · skip
                  exact absurd c_22 (by decide)
        exact L_22 (_ + 1) i Y1 f t (by omega) (by omega) hKK hMT h23 h24 hF.fst (Nat.lt_succ_self _) _ _ _ hP hS (lv_sub hl [1, 2, 3, 0] rfl)
  exact L_12 (_ + 1) 0 (zU (zU Y 102 23 (-1)) 102 24 (-1)) (-1) (-1) (by omega) MKf.rf.p23.p24 ((hMT.put (by decide)).put (by decide)) ((zU_nj (by decide)).trans zU_eq) zU_eq Fnd.nil (Nat.lt_succ_self _) _ _ _ hP hS (lv_sub hl [1, 2, 0] rfl)

set_option maxHeartbeats 4000000 in
set_option maxRecDepth 100000 in
theorem kX6_ends (l : Launch) (G : zG) (A : Nat → Nat) (Y : zY) (bd : Nat) (nn : Nat) (kd lf rt tx : Nat → Nat) (len ad mi wr : Nat) (C : Nat → Nat → Nat → Nat) (hMC : MC Y nn kd lf rt tx len ad mi wr) (hC : C = cCost kd lf rt tx ad mi wr) (hMT : MT Y C len nn) (hbd : bd ≤ 999) (h18 : Y 102 18 = nI bd) : ZI l yX6_ends cX6_ends 4 (.int) 6 145 G A Y [.ref (A 102)] (fun r Y' => r = eA (eM (C (nn - 1)) bd nn) (len + 1) ∧ MK Y Y' ∧ MT Y' C len nn) := by
  refine ZI.enter (by decide) (Nat.le_of_ble_eq_true rfl) ?_
  intro p e s m args below meth c R Q hxx hbb S hK hfr hlo hret H ls hP hS hl
  have hB : ∀ q, zAd A q → zAd A q := fun _ h => h
  have hl : lv_has ls 4 [(0, .ref (A 102))] := hl
  have S : CallFix p m c cX6_ends 4 s args wsL_law RX6 := S
  have hMC9 := hMC
  obtain ⟨hwf, hlen, had, hmi, hwr, htx, hY2, hY19, hY15, hY16, hY17, hYt, hYn⟩ := hMC
  have hnn := hwf.1
  have hCle : ∀ a, a < nn → ∀ i j, j ≤ 24 → C a i j ≤ 1000000 := fun a ha i j h => by rw [hC]; exact cCost_le hwf had hmi h a ha i
  have hKK : MK Y Y := MK.rf
  refine lv_iconst (v := nI 0) hxx hbb dX6_ends_0 (by decide) ?_
  refine lv_istore_n (lv' := [(1, .int (nI 0)), (0, .ref (A 102))]) hxx hbb dX6_ends_1 rfl hl (by decide) rfl (fun ls hl => ?_)
  refine lv_iconst (v := nI 0) hxx hbb dX6_ends_2 (by decide) ?_
  refine lv_istore_n (lv' := [(2, .int (nI 0)), (1, .int (nI 0)), (0, .ref (A 102))]) hxx hbb dX6_ends_3 rfl hl (by decide) rfl (fun ls hl => ?_)
  have L_4 : ∀ (N_4 : Nat) (j : Nat) (x : Int32) (Y1 : zY) (hj : j ≤ len + 1) (hKK : MK Y Y1) (hMT : MT Y1 C len nn) (hx : x = eA (eM (C (nn - 1)) bd nn) j), len + 1 - j < N_4 → ∀ (H : Heap) (locs : List Loc) (ls : Array Slot), va_P G.1 vwCl (zW G A Y1) H → va_S (zAd A) s.heap H locs → lv_has ls 4 [(0, .ref (A 102)), (1, .int x), (2, .int (nI j))] → W p l e R s m args below meth c H locs 0 0 Q (F0 m 4 ls []) := by
    intro N_4
    induction N_4 with
    | zero => intro j x Y1 hj hKK hMT hx hm; exact absurd hm (Nat.not_lt_zero _)
    | succ N_4 ih_4 =>
      intro j x Y1 hj hKK hMT hx hm_4 H locs ls hP hS hl
      refine lv_iload_n hxx hbb dX6_ends_4 rfl (lv_at hl 2 rfl) ?_
      refine lv_aload_n hxx hbb dX6_ends_5 rfl (lv_at hl 0 rfl) ?_
      refine zgX6_135 S hK hP 102 (by decide) zk_102 (v := nI len) ((hKK.2 _ (by decide)).trans hY19) dX6_ends_6 ?_
      refine zcmp_gt (tgt := 50) S (by omega) (by omega) dX6_ends_9 (by decide) (fun c_1 => ?_) (fun c_1 => ?_)
      · skip
        refine lv_iload_n hxx hbb dX6_ends_50 rfl (lv_at hl 1 rfl) ?_
        exact hret _ _ _ _ _ _ dX6_ends_51 (rfl) hP hS (⟨by rw [hx, show j = len + 1 by omega], hKK, hMT⟩)
      · skip
        refine lv_iconst (v := nI 0) hxx hbb dX6_ends_12 (by decide) ?_
        refine lv_istore_n (lv' := [(3, .int (nI 0)), (0, .ref (A 102)), (1, .int x), (2, .int (nI j))]) hxx hbb dX6_ends_13 rfl hl (by decide) rfl (fun ls hl => ?_)
        have L_14 : ∀ (N_14 : Nat) (i : Nat) (x : Int32) (Y1 : zY) (hi : i ≤ j + 1) (hKK : MK Y Y1) (hMT : MT Y1 C len nn) (hx : x = eR (eM (C (nn - 1)) bd nn) j (eA (eM (C (nn - 1)) bd nn) j) i), j + 1 - i < N_14 → ∀ (H : Heap) (locs : List Loc) (ls : Array Slot), va_P G.1 vwCl (zW G A Y1) H → va_S (zAd A) s.heap H locs → lv_has ls 4 [(0, .ref (A 102)), (1, .int x), (2, .int (nI j)), (3, .int (nI i))] → W p l e R s m args below meth c H locs 0 0 Q (F0 m 14 ls []) := by
          intro N_14
          induction N_14 with
          | zero => intro i x Y1 hi hKK hMT hx hm; exact absurd hm (Nat.not_lt_zero _)
          | succ N_14 ih_14 =>
            intro i x Y1 hi hKK hMT hx hm_14 H locs ls hP hS hl
            refine lv_iload_n hxx hbb dX6_ends_14 rfl (lv_at hl 3 rfl) ?_
            refine lv_iload_n hxx hbb dX6_ends_15 rfl (lv_at hl 2 rfl) ?_
            refine zcmp_gt (tgt := 44) S (by omega) (by omega) dX6_ends_16 (by decide) (fun c_2 => ?_) (fun c_2 => ?_)
            · skip
              refine lv_iinc (v := nI (j + 1)) (lv' := [(2, .int (nI (j + 1))), (0, .ref (A 102)), (1, .int x), (3, .int (nI i))]) hxx hbb dX6_ends_44 hl (k := 2) rfl (zinc1 _) (by decide) rfl (fun ls hl => ?_)
              refine lv_goto (tgt := 4) hxx hbb dX6_ends_47 (by decide) ?_
              exact ih_4 (j + 1) x Y1 (by omega) hKK hMT (by rw [hx, show i = j + 1 by omega]; rfl) (by omega) _ _ _ hP hS (lv_sub hl [1, 2, 0] rfl)
            · skip
              refine lv_aload_n hxx hbb dX6_ends_19 rfl (lv_at hl 0 rfl) ?_
              refine lv_iload_n hxx hbb dX6_ends_20 rfl (lv_at hl 3 rfl) ?_
              refine lv_iload_n hxx hbb dX6_ends_21 rfl (lv_at hl 2 rfl) ?_
              refine ZI.callV S hK hP hS hB (kX6_matches l G A Y1 i j bd nn kd lf rt tx len ad mi wr C (hMC9.keep hKK) hC hMT hbd ((hKK.2 _ (by decide)).trans h18) (by omega) (by omega)) zwX6_165 zdX6_matches rfl ⟨Nat.le_trans (by decide) hfr, Nat.le_trans (by decide) hlo⟩ (by decide) (zcK6 zk_102) rfl rfl (Nat.le_of_ble_eq_true rfl) hl.1 dX6_ends_22 ⟨Nat.zero_le _, Nat.zero_le _⟩ (fun r_3 Y_4 H locs hq_5 hP hS => ?_)
              obtain ⟨hr9, hk9, hMT⟩ := hq_5
              have hKK := hKK.trans hk9
              rcases hr9 with ⟨hb_6, hr9⟩ | ⟨hb_6, hr9⟩
              · skip
                subst hr9
                refine zif_eq (tgt := 36) S (by omega) dX6_ends_25 (by decide) (fun c_7 => ?_) (fun c_7 => ?_)
                · skip
                  exact absurd c_7 (by decide)
                · skip
                  refine lv_iload_n hxx hbb dX6_ends_28 rfl (lv_at hl 1 rfl) ?_
                  refine lv_iconst (v := nI 1) hxx hbb dX6_ends_29 (by decide) ?_
                  refine lv_iload_n hxx hbb dX6_ends_30 rfl (lv_at hl 2 rfl) ?_
                  refine lv_ishl hxx hbb dX6_ends_31 ?_
                  refine lv_ior hxx hbb dX6_ends_32 ?_
                  refine lv_goto (tgt := 37) hxx hbb dX6_ends_33 (by decide) ?_
                  refine lv_istore_n (lv' := [(1, .int (x ||| ((nI 1) <<< ((nI j) &&& 31)))), (0, .ref (A 102)), (2, .int (nI j)), (3, .int (nI i))]) hxx hbb dX6_ends_37 rfl hl (by decide) rfl (fun ls hl => ?_)
                  refine lv_iinc (v := nI (i + 1)) (lv' := [(3, .int (nI (i + 1))), (1, .int (x ||| ((nI 1) <<< ((nI j) &&& 31)))), (0, .ref (A 102)), (2, .int (nI j))]) hxx hbb dX6_ends_38 hl (k := 3) rfl (zinc1 _) (by decide) rfl (fun ls hl => ?_)
                  refine lv_goto (tgt := 14) hxx hbb dX6_ends_41 (by decide) ?_
                  exact ih_14 (i + 1) (x ||| ((nI 1) <<< ((nI j) &&& 31))) Y_4 (by omega) hKK hMT (by simp only [eR, ← hx]; rw [if_pos (by rw [eM, if_pos hb_6])]) (by omega) _ _ _ hP hS (lv_sub hl [2, 1, 3, 0] rfl)
              · skip
                subst hr9
                refine zif_eq (tgt := 36) S (by omega) dX6_ends_25 (by decide) (fun c_8 => ?_) (fun c_8 => ?_)
                · skip
                  refine lv_iload_n hxx hbb dX6_ends_36 rfl (lv_at hl 1 rfl) ?_
                  refine lv_istore_n (lv' := [(1, .int x), (0, .ref (A 102)), (2, .int (nI j)), (3, .int (nI i))]) hxx hbb dX6_ends_37 rfl hl (by decide) rfl (fun ls hl => ?_)
                  refine lv_iinc (v := nI (i + 1)) (lv' := [(3, .int (nI (i + 1))), (1, .int x), (0, .ref (A 102)), (2, .int (nI j))]) hxx hbb dX6_ends_38 hl (k := 3) rfl (zinc1 _) (by decide) rfl (fun ls hl => ?_)
                  refine lv_goto (tgt := 14) hxx hbb dX6_ends_41 (by decide) ?_
                  exact ih_14 (i + 1) x Y_4 (by omega) hKK hMT (by simp only [eR, ← hx]; rw [if_neg (by rw [eM, if_neg hb_6]; decide)]) (by omega) _ _ _ hP hS (lv_sub hl [2, 1, 3, 0] rfl)
                · skip
                  exact absurd c_8 (by decide)
        exact L_14 (_ + 1) 0 x Y1 (by omega) hKK hMT hx (Nat.lt_succ_self _) _ _ _ hP hS (lv_sub hl [1, 2, 3, 0] rfl)
  exact L_4 (_ + 1) 0 (nI 0) Y (by omega) MK.rf hMT rfl (Nat.lt_succ_self _) _ _ _ hP hS (lv_sub hl [2, 1, 0] rfl)
end
section
/-! ===== distances, orders ===== -/
def d0 (p q : Nat) : Nat := if p = 0 ∧ q = 0 then 0 else 1000
def d1 (D : Nat → Nat → Nat) (p q : Nat) : Nat := if 0 < p then (if D (p - 1) q + 1 < d0 p q then D (p - 1) q + 1 else d0 p q) else d0 p q
def d2 (D : Nat → Nat → Nat) (p q : Nat) : Nat := if 0 < q then (if D p (q - 1) + 1 < d1 D p q then D p (q - 1) + 1 else d1 D p q) else d1 D p q
def dE (a b : Nat → Nat) (p q : Nat) : Nat := if a (p - 1) = b (q - 1) then 0 else 1
def d3 (a b : Nat → Nat) (D : Nat → Nat → Nat) (p q : Nat) : Nat := if 0 < p ∧ 0 < q then (if D (p - 1) (q - 1) + dE a b p q < d2 D p q then D (p - 1) (q - 1) + dE a b p q else d2 D p q) else d2 D p q
def d4 (a b : Nat → Nat) (ex : Nat) (D : Nat → Nat → Nat) (p q : Nat) : Nat := if ex ≠ 0 ∧ 1 < p ∧ 1 < q ∧ a (p - 1) = b (q - 2) ∧ a (p - 2) = b (q - 1) then (if D (p - 2) (q - 2) + 1 < d3 a b D p q then D (p - 2) (q - 2) + 1 else d3 a b D p q) else d3 a b D p q
def dF (a b : Nat → Nat) (ex : Nat) : Nat → Nat → Nat → Nat
  | 0 => fun _ _ => 0
  | n + 1 => d4 a b ex (dF a b ex n)
/-- the distance of the first p letters of a from the first q of b -/
def dD (a b : Nat → Nat) (ex p q : Nat) : Nat := dF a b ex (p + q + 1) p q
theorem d4_congr {a b : Nat → Nat} {ex : Nat} {D E : Nat → Nat → Nat} {p q : Nat} (h : ∀ p' q', p' + q' < p + q → D p' q' = E p' q') : d4 a b ex D p q = d4 a b ex E p q := by
  have e1 : d1 D p q = d1 E p q := by
    unfold d1; by_cases h0 : 0 < p
    · rw [if_pos h0, if_pos h0, h _ _ (by omega)]
    · rw [if_neg h0, if_neg h0]
  have e2 : d2 D p q = d2 E p q := by
    unfold d2; by_cases h0 : 0 < q
    · rw [if_pos h0, if_pos h0, h _ _ (by omega), e1]
    · rw [if_neg h0, if_neg h0, e1]
  have e3 : d3 a b D p q = d3 a b E p q := by
    unfold d3; by_cases h0 : 0 < p ∧ 0 < q
    · rw [if_pos h0, if_pos h0, h _ _ (by omega), e2]
    · rw [if_neg h0, if_neg h0, e2]
  unfold d4; by_cases h0 : ex ≠ 0 ∧ 1 < p ∧ 1 < q ∧ a (p - 1) = b (q - 2) ∧ a (p - 2) = b (q - 1)
  · rw [if_pos h0, if_pos h0, h _ _ (by omega), e3]
  · rw [if_neg h0, if_neg h0, e3]
theorem dF_stable {a b : Nat → Nat} {ex : Nat} : ∀ n p q, p + q < n → dF a b ex n p q = dD a b ex p q := by
  intro n
  induction n using Nat.strongRecOn with
  | ind n ih =>
    intro p q h
    cases n with
    | zero => omega
    | succ n =>
      show d4 a b ex (dF a b ex n) p q = d4 a b ex (dF a b ex (p + q)) p q
      refine d4_congr (fun p' q' h2 => ?_)
      rw [ih n (by omega) p' q' (by omega)]
      by_cases e : n = p + q
      · subst e; exact (ih _ (by omega) p' q' (by omega)).symm
      · exact (ih (p + q) (by omega) p' q' (by omega)).symm
theorem dD_eq {a b : Nat → Nat} {ex p q : Nat} : dD a b ex p q = d4 a b ex (dD a b ex) p q := by
  show d4 a b ex (dF a b ex (p + q)) p q = _
  exact d4_congr (fun p' q' h => dF_stable _ _ _ h)
theorem d1_le {D : Nat → Nat → Nat} {p q : Nat} : d1 D p q ≤ d0 p q := by unfold d1; split; split <;> omega; omega
theorem d2_le {D : Nat → Nat → Nat} {p q : Nat} : d2 D p q ≤ d1 D p q := by unfold d2; split; split <;> omega; omega
theorem d3_le {a b : Nat → Nat} {D : Nat → Nat → Nat} {p q : Nat} : d3 a b D p q ≤ d2 D p q := by unfold d3; split; split <;> omega; omega
theorem d4_le {a b : Nat → Nat} {ex : Nat} {D : Nat → Nat → Nat} {p q : Nat} : d4 a b ex D p q ≤ d3 a b D p q := by unfold d4; split; split <;> omega; omega
theorem dD_le {a b : Nat → Nat} {ex : Nat} : ∀ n p q, p + q = n → dD a b ex p q ≤ p + q := by
  intro n
  induction n using Nat.strongRecOn with
  | ind n ih =>
    intro p q h
    rw [dD_eq]
    have h1 := d4_le (a := a) (b := b) (ex := ex) (D := dD a b ex) (p := p) (q := q)
    have h2 := d3_le (a := a) (b := b) (D := dD a b ex) (p := p) (q := q)
    have h3 := d2_le (D := dD a b ex) (p := p) (q := q)
    have h4 := d1_le (D := dD a b ex) (p := p) (q := q)
    by_cases hp : 0 < p
    · have h5 := ih (p - 1 + q) (by omega) (p - 1) q rfl
      have h6 : d1 (dD a b ex) p q ≤ dD a b ex (p - 1) q + 1 := by unfold d1; rw [if_pos hp]; split <;> omega
      omega
    · by_cases hq : 0 < q
      · have h5 := ih (p + (q - 1)) (by omega) p (q - 1) rfl
        have h6 : d2 (dD a b ex) p q ≤ dD a b ex p (q - 1) + 1 := by unfold d2; rw [if_pos hq]; split <;> omega
        omega
      · have h7 : d0 p q = 0 := by unfold d0; rw [if_pos (by omega)]
        omega
/-- the letters a (n of them) come before b (m) in the dictionary's order -/
def LX (a : Nat → Nat) (n : Nat) (b : Nat → Nat) (m : Nat) : Prop := ∃ k, k ≤ n ∧ k ≤ m ∧ (∀ i, i < k → a i = b i) ∧ ((k = n ∧ k < m) ∨ (k < n ∧ k < m ∧ a k < b k))
theorem LX_end {a b : Nat → Nat} {n m k : Nat} (h1 : k ≤ n) (h2 : k ≤ m) (he : ∀ i, i < k → a i = b i) (h : k = n ∨ k = m) : LX a n b m ↔ n < m := by
  constructor
  · rintro ⟨k', g1, g2, g3, g4⟩
    rcases g4 with g4 | ⟨g4, g5, g6⟩
    · omega
    · by_cases e : k' < k
      · have := he k' e; omega
      · omega
  · intro h3
    exact ⟨k, h1, h2, he, by omega⟩
theorem LX_at {a b : Nat → Nat} {n m k : Nat} (h1 : k < n) (h2 : k < m) (he : ∀ i, i < k → a i = b i) (h : a k ≠ b k) : LX a n b m ↔ a k < b k := by
  constructor
  · rintro ⟨k', g1, g2, g3, g4⟩
    rcases Nat.lt_trichotomy k' k with e | e | e
    · have := he k' e; omega
    · subst e; omega
    · exact absurd (g3 k e) h
  · intro h3
    exact ⟨k, by omega, by omega, he, by omega⟩
/-- how many of the first n are counted -/
def cN (f : Nat → Nat) : Nat → Nat
  | 0 => 0
  | n + 1 => cN f n + f n
theorem cN_le {f : Nat → Nat} (h : ∀ k, f k ≤ 1) : ∀ n, cN f n ≤ n
  | 0 => Nat.le_refl _
  | n + 1 => by have := cN_le h n; have := h n; simp only [cN]; omega
/-- what the model holds of dictionary and text -/
def MD (Y : zY) (nw : Nat) (sz : Nat → Nat) (lt : Nat → Nat → Nat) (tx : Nat → Nat) (len : Nat) : Prop := nw ≤ 20 ∧ len ≤ 24 ∧ (∀ w, w < nw → 1 ≤ sz w ∧ sz w ≤ 12 ∧ ∀ k, k < sz w → 97 ≤ lt w k ∧ lt w k ≤ 122) ∧ (∀ q, q < len → 97 ≤ tx q ∧ tx q ≤ 122) ∧ Y 102 25 = nI nw ∧ Y 102 19 = nI len ∧ (∀ q, q < len → Y 112 q = nI (tx q)) ∧ (∀ w, w < nw → Y 114 w = nI (sz w) ∧ ∀ k, k < sz w → Y 115 (12 * w + k) = nI (lt w k))
def MKd (Y Z : zY) : Prop := ∀ q, q ≠ 116 → Z q = Y q
theorem MD.keep {Y Z : zY} {nw : Nat} {sz : Nat → Nat} {lt : Nat → Nat → Nat} {tx : Nat → Nat} {len : Nat} (h : MD Y nw sz lt tx len) (k : MKd Y Z) : MD Z nw sz lt tx len := by
  obtain ⟨a1, a2, a3, a4, a5, a6, a7, a8⟩ := h
  refine ⟨a1, a2, a3, a4, ?_, ?_, ?_, ?_⟩
  · rw [k 102 (by decide)]; exact a5
  · rw [k 102 (by decide)]; exact a6
  · rw [k 112 (by decide)]; exact a7
  · rw [k 114 (by decide), k 115 (by decide)]; exact a8
theorem MKd.rf {Y : zY} : MKd Y Y := fun _ _ => rfl
theorem MKd.trans {X Y Z : zY} (h : MKd X Y) (h2 : MKd Y Z) : MKd X Z := fun q a => (h2 q a).trans (h q a)
theorem MKd.put {Y Z : zY} {j : Nat} {v : Int32} (h : MKd Y Z) : MKd Y (zU Z 116 j v) := fun q a => (zU_row a).trans (h q a)
/-- the cells of the steps before (p, q) -/
def SDd (Y : zY) (D : Nat → Nat → Nat) (len p q : Nat) : Prop := ∀ a b, b ≤ len → (a < p ∨ a = p ∧ b < q) → Y 116 (25 * a + b) = nI (D a b)
theorem SDd.put {Y : zY} {D : Nat → Nat → Nat} {len p q : Nat} (h : SDd Y D len p q) (hl : len ≤ 24) (hq : q ≤ 24) : SDd (zU Y 116 (25 * p + q) (nI (D p q))) D len p (q + 1) := by
  intro a b h1 h2
  by_cases e : a = p ∧ b = q
  · obtain ⟨rfl, rfl⟩ := e; exact zU_eq
  · exact (zU_nj (by omega)).trans (h a b h1 (by omega))
theorem SDd.next {Y : zY} {D : Nat → Nat → Nat} {len p q : Nat} (h : SDd Y D len p q) (hq : len < q) : SDd Y D len (p + 1) 0 := fun a b h1 h2 => h a b h1 (by omega)
def dA (nw : Nat) (sz : Nat → Nat) (lt : Nat → Nat → Nat) (tx : Nat → Nat) (len ex : Nat) (w : Int32) : Int32 := if w < 0 ∨ nI nw ≤ w then -1 else nI (dD (lt w.toNatClampNeg) tx ex (sz w.toNatClampNeg) len)
theorem dA_nat {nw : Nat} {sz : Nat → Nat} {lt : Nat → Nat → Nat} {tx : Nat → Nat} {len ex w : Nat} (h : w < nw) (hn : nw ≤ 20) : dA nw sz lt tx len ex (nI w) = nI (dD (lt w) tx ex (sz w) len) := by
  unfold dA
  rw [nI_clamp (by omega), if_neg]
  rintro (h1 | h1)
  · exact nI_pos (by omega) h1
  · have := (nI_leI (by omega) (by omega)).mp h1; omega
/-- whether word v comes before word w, as rank counts -/
def rkB (sz : Nat → Nat) (lt : Nat → Nat → Nat) (dd : Nat → Nat) (w v : Nat) : Prop := dd v < dd w ∨ (dd v = dd w ∧ LX (lt v) (sz v) (lt w) (sz w))
noncomputable def rkN (sz : Nat → Nat) (lt : Nat → Nat → Nat) (dd : Nat → Nat) (w v : Nat) : Nat := by
  classical exact if rkB sz lt dd w v then 1 else 0
theorem rkN_le {sz : Nat → Nat} {lt : Nat → Nat → Nat} {dd : Nat → Nat} {w v : Nat} : rkN sz lt dd w v ≤ 1 := by unfold rkN; split <;> omega
theorem rkN_1 {sz : Nat → Nat} {lt : Nat → Nat → Nat} {dd : Nat → Nat} {w v : Nat} (h : rkB sz lt dd w v) : rkN sz lt dd w v = 1 := by unfold rkN; exact if_pos h
theorem rkN_0 {sz : Nat → Nat} {lt : Nat → Nat → Nat} {dd : Nat → Nat} {w v : Nat} (h : ¬ rkB sz lt dd w v) : rkN sz lt dd w v = 0 := by unfold rkN; exact if_neg h
/-- x is the first w with f w = r, or -1 -/
def rkP (f : Nat → Nat) (nw : Nat) (r x : Int32) : Prop := (∃ w, w < nw ∧ nI (f w) = r ∧ (∀ v, v < w → nI (f v) ≠ r) ∧ x = nI w) ∨ ((∀ v, v < nw → nI (f v) ≠ r) ∧ x = -1)
def nrN (dd : Nat → Nat) (k : Int32) (w : Nat) : Nat := if nI (dd w) ≤ k then 1 else 0
theorem nrN_le {dd : Nat → Nat} {k : Int32} {w : Nat} : nrN dd k w ≤ 1 := by unfold nrN; split <;> omega
set_option maxHeartbeats 4000000 in
set_option maxRecDepth 100000 in
theorem kX6_step (l : Launch) (G : zG) (A : Nat → Nat) (Y : zY) (x pp qq ex : Nat) (nw : Nat) (sz : Nat → Nat) (lt : Nat → Nat → Nat) (tx : Nat → Nat) (len : Nat) (D : Nat → Nat → Nat) (hMD : MD Y nw sz lt tx len) (hx : x < nw) (hp : pp ≤ sz x) (hq : qq ≤ len) (hex : ex ≤ 1) (hD : ∀ p' q', p' ≤ pp → q' ≤ qq → (p' < pp ∨ q' < qq) → Y 116 (25 * p' + q') = nI (D p' q') ∧ D p' q' ≤ 100) : ZI l yX6_step cX6_step 8 (.int) 0 0 G A Y [.ref (A 102), .int (nI x), .int (nI pp), .int (nI qq), .int (nI ex)] (fun r Y' => r = nI (d4 (lt x) tx ex D pp qq) ∧ Y' = Y) := by
  refine ZI.enter (by decide) (Nat.le_of_ble_eq_true rfl) ?_
  intro p e s m args below meth c R Q hxx hbb S hK hfr hlo hret H ls hP hS hl
  have hB : ∀ q, zAd A q → zAd A q := fun _ h => h
  have hl : lv_has ls 8 [(0, .ref (A 102)), (1, .int (nI x)), (2, .int (nI pp)), (3, .int (nI qq)), (4, .int (nI ex))] := hl
  have S : CallFix p m c cX6_step 8 s args wsL_law RX6 := S
  have hMD9 := hMD
  obtain ⟨hnw, hlen, hsz, htx, hY25, hY19, hYt, hYw⟩ := hMD
  have hKK : MKd Y Y := MKd.rf
  obtain ⟨hs1, hs2, hs3⟩ := hsz x hx
  have L_257 : ∀ (b : Nat) (hb : b = d4 (lt x) tx ex D pp qq) (hb2 : b ≤ 1000), ∀ (H : Heap) (locs : List Loc) (ls : Array Slot), va_P G.1 vwCl (zW G A Y) H → va_S (zAd A) s.heap H locs → lv_has ls 8 [(0, .ref (A 102)), (1, .int (nI x)), (2, .int (nI pp)), (3, .int (nI qq)), (4, .int (nI ex)), (5, .int (nI b)), (6, .int (nI (12 * x + pp) - nI 1))] → W p l e R s m args below meth c H locs 0 0 Q (F0 m 257 ls []) := by
    intro b hb hb2 H locs ls hP hS hl
    refine lv_iload hxx hbb dX6_step_257 (lv_at hl 5 rfl) ?_
    exact hret _ _ _ _ _ _ dX6_step_259 (rfl) hP hS (⟨by rw [hb], rfl⟩)
  have L_168 : ∀ (b : Nat) (hb : b = d3 (lt x) tx D pp qq) (hb2 : b ≤ 1000), ∀ (H : Heap) (locs : List Loc) (ls : Array Slot), va_P G.1 vwCl (zW G A Y) H → va_S (zAd A) s.heap H locs → lv_has ls 8 [(0, .ref (A 102)), (1, .int (nI x)), (2, .int (nI pp)), (3, .int (nI qq)), (4, .int (nI ex)), (5, .int (nI b)), (6, .int (nI (12 * x + pp) - nI 1))] → W p l e R s m args below meth c H locs 0 0 Q (F0 m 168 ls []) := by
    intro b hb hb2 H locs ls hP hS hl
    refine lv_iload hxx hbb dX6_step_168 (lv_at hl 4 rfl) ?_
    refine zif_eq (tgt := 257) S (by omega) dX6_step_170 (by decide) (fun c_1 => ?_) (fun c_1 => ?_)
    · skip
      exact L_257 b (by simp only [d4, ← hb]; (repeat (first | rw [if_pos (by omega)] | rw [if_neg (by omega)]))) (by omega) _ _ _ hP hS (lv_sub hl [0, 1, 2, 3, 4, 5, 6] rfl)
    · skip
      refine lv_iload_n hxx hbb dX6_step_173 rfl (lv_at hl 2 rfl) ?_
      refine lv_iconst (v := nI 1) hxx hbb dX6_step_174 (by decide) ?_
      refine zcmp_le (tgt := 257) S (by omega) (by omega) dX6_step_175 (by decide) (fun c_2 => ?_) (fun c_2 => ?_)
      · skip
        exact L_257 b (by simp only [d4, ← hb]; (repeat (first | rw [if_pos (by omega)] | rw [if_neg (by omega)]))) (by omega) _ _ _ hP hS (lv_sub hl [0, 1, 2, 3, 4, 5, 6] rfl)
      · skip
        refine lv_iload_n hxx hbb dX6_step_178 rfl (lv_at hl 3 rfl) ?_
        refine lv_iconst (v := nI 1) hxx hbb dX6_step_179 (by decide) ?_
        refine zcmp_le (tgt := 257) S (by omega) (by omega) dX6_step_180 (by decide) (fun c_3 => ?_) (fun c_3 => ?_)
        · skip
          exact L_257 b (by simp only [d4, ← hb]; (repeat (first | rw [if_pos (by omega)] | rw [if_neg (by omega)]))) (by omega) _ _ _ hP hS (lv_sub hl [0, 1, 2, 3, 4, 5, 6] rfl)
        · skip
          have hl9 := hs3 (pp - 1) (by omega)
          have ht9 := htx (qq - 2) (by omega)
          have hl8 := hs3 (pp - 2) (by omega)
          have ht8 := htx (qq - 1) (by omega)
          refine lv_aload_n hxx hbb dX6_step_183 rfl (lv_at hl 0 rfl) ?_
          refine zgX6_62 S hK hP 102 (by decide) zk_102 dX6_step_184 ?_
          refine lv_iload hxx hbb dX6_step_187 (lv_at hl 6 rfl) ?_
          rw [show (nI (12 * x + pp) - nI 1 : Int32) = nI (12 * x + pp - 1) from pk_sub (by omega)]
          refine zaldN S hK hP 115 240 (by decide) zk_115 zl_115 (by omega) (v := nI (lt x (pp - 1))) ((congrArg (Y 115) (show 12 * x + pp - 1 = 12 * x + (pp - 1) by omega)).trans ((hYw x hx).2 _ (by omega))) dX6_step_189 ?_
          refine lv_aload_n hxx hbb dX6_step_190 rfl (lv_at hl 0 rfl) ?_
          refine zgX6_47 S hK hP 102 (by decide) zk_102 dX6_step_191 ?_
          refine lv_iload_n hxx hbb dX6_step_194 rfl (lv_at hl 3 rfl) ?_
          refine lv_iconst (v := nI 2) hxx hbb dX6_step_195 (by decide) ?_
          refine zsubN S (by omega) dX6_step_196 ?_
          refine zaldN S hK hP 112 24 (by decide) zk_112 zl_112 (by omega) (v := nI (tx (qq - 2))) ((hYt _ (by omega))) dX6_step_197 ?_
          refine zcmp_ne (tgt := 257) S (by omega) (by omega) dX6_step_198 (by decide) (fun c_4 => ?_) (fun c_4 => ?_)
          · skip
            exact L_257 b (by simp only [d4, ← hb]; (repeat (first | rw [if_pos (by omega)] | rw [if_neg (by omega)]))) (by omega) _ _ _ hP hS (lv_sub hl [0, 1, 2, 3, 4, 5, 6] rfl)
          · skip
            refine lv_aload_n hxx hbb dX6_step_201 rfl (lv_at hl 0 rfl) ?_
            refine zgX6_62 S hK hP 102 (by decide) zk_102 dX6_step_202 ?_
            refine lv_iload hxx hbb dX6_step_205 (lv_at hl 6 rfl) ?_
            rw [show (nI (12 * x + pp) - nI 1 : Int32) = nI (12 * x + pp - 1) from pk_sub (by omega)]
            refine lv_iconst (v := nI 1) hxx hbb dX6_step_207 (by decide) ?_
            refine zsubN S (by omega) dX6_step_208 ?_
            refine zaldN S hK hP 115 240 (by decide) zk_115 zl_115 (by omega) (v := nI (lt x (pp - 2))) ((congrArg (Y 115) (show 12 * x + pp - 1 - 1 = 12 * x + (pp - 2) by omega)).trans ((hYw x hx).2 _ (by omega))) dX6_step_209 ?_
            refine lv_aload_n hxx hbb dX6_step_210 rfl (lv_at hl 0 rfl) ?_
            refine zgX6_47 S hK hP 102 (by decide) zk_102 dX6_step_211 ?_
            refine lv_iload_n hxx hbb dX6_step_214 rfl (lv_at hl 3 rfl) ?_
            refine lv_iconst (v := nI 1) hxx hbb dX6_step_215 (by decide) ?_
            refine zsubN S (by omega) dX6_step_216 ?_
            refine zaldN S hK hP 112 24 (by decide) zk_112 zl_112 (by omega) (v := nI (tx (qq - 1))) ((hYt _ (by omega))) dX6_step_217 ?_
            refine zcmp_ne (tgt := 257) S (by omega) (by omega) dX6_step_218 (by decide) (fun c_5 => ?_) (fun c_5 => ?_)
            · skip
              exact L_257 b (by simp only [d4, ← hb]; (repeat (first | rw [if_pos (by omega)] | rw [if_neg (by omega)]))) (by omega) _ _ _ hP hS (lv_sub hl [0, 1, 2, 3, 4, 5, 6] rfl)
            · skip
              refine lv_aload_n hxx hbb dX6_step_221 rfl (lv_at hl 0 rfl) ?_
              refine zgX6_65 S hK hP 102 (by decide) zk_102 dX6_step_222 ?_
              refine lv_bipush (v := nI 25) hxx hbb dX6_step_225 (by decide) ?_
              refine lv_iload_n hxx hbb dX6_step_227 rfl (lv_at hl 2 rfl) ?_
              refine zmulN S dX6_step_228 ?_
              refine lv_bipush (v := nI 50) hxx hbb dX6_step_229 (by decide) ?_
              refine zsubN S (by omega) dX6_step_231 ?_
              refine lv_iload_n hxx hbb dX6_step_232 rfl (lv_at hl 3 rfl) ?_
              refine zaddN S dX6_step_233 ?_
              refine lv_iconst (v := nI 2) hxx hbb dX6_step_234 (by decide) ?_
              refine zsubN S (by omega) dX6_step_235 ?_
              have hd9 := (hD (pp - 2) (qq - 2) (by omega) (by omega) (by omega)).2
              refine zaldN S hK hP 116 325 (by decide) zk_116 zl_116 (by omega) (v := nI (D (pp - 2) (qq - 2))) ((congrArg (Y 116) (show 25 * pp - 50 + qq - 2 = 25 * (pp - 2) + (qq - 2) by omega)).trans (hD (pp - 2) (qq - 2) (by omega) (by omega) (by omega)).1) dX6_step_236 ?_
              refine lv_iconst (v := nI 1) hxx hbb dX6_step_237 (by decide) ?_
              refine zaddN S dX6_step_238 ?_
              refine lv_istore (lv' := [(7, .int (nI (D (pp - 2) (qq - 2) + 1))), (0, .ref (A 102)), (1, .int (nI x)), (2, .int (nI pp)), (3, .int (nI qq)), (4, .int (nI ex)), (5, .int (nI b)), (6, .int (nI (12 * x + pp) - nI 1))]) hxx hbb dX6_step_239 hl (by decide) rfl (fun ls hl => ?_)
              refine lv_iload hxx hbb dX6_step_241 (lv_at hl 0 rfl) ?_
              refine lv_iload hxx hbb dX6_step_243 (lv_at hl 6 rfl) ?_
              refine zcmp_ge (tgt := 253) S (by omega) (by omega) dX6_step_245 (by decide) (fun c_6 => ?_) (fun c_6 => ?_)
              · skip
                refine lv_iload hxx hbb dX6_step_253 (lv_at hl 6 rfl) ?_
                refine lv_istore (lv' := [(5, .int (nI b)), (7, .int (nI (D (pp - 2) (qq - 2) + 1))), (0, .ref (A 102)), (1, .int (nI x)), (2, .int (nI pp)), (3, .int (nI qq)), (4, .int (nI ex)), (6, .int (nI (12 * x + pp) - nI 1))]) hxx hbb dX6_step_255 hl (by decide) rfl (fun ls hl => ?_)
                exact L_257 b (by simp only [d4, ← hb]; (repeat (first | rw [if_pos (by omega)] | rw [if_neg (by omega)]))) (by omega) _ _ _ hP hS (lv_sub hl [2, 3, 4, 5, 6, 0, 7] rfl)
              · skip
                refine lv_iload hxx hbb dX6_step_248 (lv_at hl 0 rfl) ?_
                refine lv_goto (tgt := 255) hxx hbb dX6_step_250 (by decide) ?_
                refine lv_istore (lv' := [(5, .int (nI (D (pp - 2) (qq - 2) + 1))), (7, .int (nI (D (pp - 2) (qq - 2) + 1))), (0, .ref (A 102)), (1, .int (nI x)), (2, .int (nI pp)), (3, .int (nI qq)), (4, .int (nI ex)), (6, .int (nI (12 * x + pp) - nI 1))]) hxx hbb dX6_step_255 hl (by decide) rfl (fun ls hl => ?_)
                exact L_257 (D (pp - 2) (qq - 2) + 1) (by simp only [d4, ← hb]; (repeat (first | rw [if_pos (by omega)] | rw [if_neg (by omega)]))) (by omega) _ _ _ hP hS (lv_sub hl [2, 3, 4, 5, 6, 0, 7] rfl)
  have L_102 : ∀ (b : Nat) (hb : b = d2 D pp qq) (hb2 : b ≤ 1000), ∀ (H : Heap) (locs : List Loc) (ls : Array Slot), va_P G.1 vwCl (zW G A Y) H → va_S (zAd A) s.heap H locs → lv_has ls 8 [(0, .ref (A 102)), (1, .int (nI x)), (2, .int (nI pp)), (3, .int (nI qq)), (4, .int (nI ex)), (5, .int (nI b)), (6, .int (nI (12 * x + pp) - nI 1))] → W p l e R s m args below meth c H locs 0 0 Q (F0 m 102 ls []) := by
    intro b hb hb2 H locs ls hP hS hl
    refine lv_iload_n hxx hbb dX6_step_102 rfl (lv_at hl 2 rfl) ?_
    refine zif_le (tgt := 168) S (by omega) dX6_step_103 (by decide) (fun c_7 => ?_) (fun c_7 => ?_)
    · skip
      exact L_168 b (by simp only [d3, ← hb]; (repeat (first | rw [if_pos (by omega)] | rw [if_neg (by omega)]))) (by omega) _ _ _ hP hS (lv_sub hl [0, 1, 2, 3, 4, 5, 6] rfl)
    · skip
      refine lv_iload_n hxx hbb dX6_step_106 rfl (lv_at hl 3 rfl) ?_
      refine zif_le (tgt := 168) S (by omega) dX6_step_107 (by decide) (fun c_8 => ?_) (fun c_8 => ?_)
      · skip
        exact L_168 b (by simp only [d3, ← hb]; (repeat (first | rw [if_pos (by omega)] | rw [if_neg (by omega)]))) (by omega) _ _ _ hP hS (lv_sub hl [0, 1, 2, 3, 4, 5, 6] rfl)
      · skip
        refine lv_aload_n hxx hbb dX6_step_110 rfl (lv_at hl 0 rfl) ?_
        refine zgX6_65 S hK hP 102 (by decide) zk_102 dX6_step_111 ?_
        refine lv_bipush (v := nI 25) hxx hbb dX6_step_114 (by decide) ?_
        refine lv_iload_n hxx hbb dX6_step_116 rfl (lv_at hl 2 rfl) ?_
        refine zmulN S dX6_step_117 ?_
        refine lv_bipush (v := nI 25) hxx hbb dX6_step_118 (by decide) ?_
        refine zsubN S (by omega) dX6_step_120 ?_
        refine lv_iload_n hxx hbb dX6_step_121 rfl (lv_at hl 3 rfl) ?_
        refine zaddN S dX6_step_122 ?_
        refine lv_iconst (v := nI 1) hxx hbb dX6_step_123 (by decide) ?_
        refine zsubN S (by omega) dX6_step_124 ?_
        have hd9 := (hD (pp - 1) (qq - 1) (by omega) (by omega) (by omega)).2
        have hl9 := hs3 (pp - 1) (by omega)
        have ht9 := htx (qq - 1) (by omega)
        refine zaldN S hK hP 116 325 (by decide) zk_116 zl_116 (by omega) (v := nI (D (pp - 1) (qq - 1))) ((congrArg (Y 116) (show 25 * pp - 25 + qq - 1 = 25 * (pp - 1) + (qq - 1) by omega)).trans (hD (pp - 1) (qq - 1) (by omega) (by omega) (by omega)).1) dX6_step_125 ?_
        refine lv_aload_n hxx hbb dX6_step_126 rfl (lv_at hl 0 rfl) ?_
        refine zgX6_62 S hK hP 102 (by decide) zk_102 dX6_step_127 ?_
        refine lv_iload hxx hbb dX6_step_130 (lv_at hl 6 rfl) ?_
        rw [show (nI (12 * x + pp) - nI 1 : Int32) = nI (12 * x + pp - 1) from pk_sub (by omega)]
        refine zaldN S hK hP 115 240 (by decide) zk_115 zl_115 (by omega) (v := nI (lt x (pp - 1))) ((congrArg (Y 115) (show 12 * x + pp - 1 = 12 * x + (pp - 1) by omega)).trans ((hYw x hx).2 _ (by omega))) dX6_step_132 ?_
        refine lv_aload_n hxx hbb dX6_step_133 rfl (lv_at hl 0 rfl) ?_
        refine zgX6_47 S hK hP 102 (by decide) zk_102 dX6_step_134 ?_
        refine lv_iload_n hxx hbb dX6_step_137 rfl (lv_at hl 3 rfl) ?_
        refine lv_iconst (v := nI 1) hxx hbb dX6_step_138 (by decide) ?_
        refine zsubN S (by omega) dX6_step_139 ?_
        refine zaldN S hK hP 112 24 (by decide) zk_112 zl_112 (by omega) (v := nI (tx (qq - 1))) ((hYt _ (by omega))) dX6_step_140 ?_
        refine zcmp_ne (tgt := 148) S (by omega) (by omega) dX6_step_141 (by decide) (fun c_9 => ?_) (fun c_9 => ?_)
        · skip
          refine lv_iconst (v := nI 1) hxx hbb dX6_step_148 (by decide) ?_
          have hdE : dE (lt x) tx pp qq = 1 := by simp only [dE]; first | rw [if_pos (by omega)] | rw [if_neg (by omega)]
          refine zaddN S dX6_step_149 ?_
          refine lv_istore (lv' := [(7, .int (nI (D (pp - 1) (qq - 1) + 1))), (0, .ref (A 102)), (1, .int (nI x)), (2, .int (nI pp)), (3, .int (nI qq)), (4, .int (nI ex)), (5, .int (nI b)), (6, .int (nI (12 * x + pp) - nI 1))]) hxx hbb dX6_step_150 hl (by decide) rfl (fun ls hl => ?_)
          refine lv_iload hxx hbb dX6_step_152 (lv_at hl 0 rfl) ?_
          refine lv_iload hxx hbb dX6_step_154 (lv_at hl 6 rfl) ?_
          refine zcmp_ge (tgt := 164) S (by omega) (by omega) dX6_step_156 (by decide) (fun c_10 => ?_) (fun c_10 => ?_)
          · skip
            refine lv_iload hxx hbb dX6_step_164 (lv_at hl 6 rfl) ?_
            refine lv_istore (lv' := [(5, .int (nI b)), (7, .int (nI (D (pp - 1) (qq - 1) + 1))), (0, .ref (A 102)), (1, .int (nI x)), (2, .int (nI pp)), (3, .int (nI qq)), (4, .int (nI ex)), (6, .int (nI (12 * x + pp) - nI 1))]) hxx hbb dX6_step_166 hl (by decide) rfl (fun ls hl => ?_)
            exact L_168 b (by simp only [d3, hdE, ← hb]; (repeat (first | rw [if_pos (by omega)] | rw [if_neg (by omega)]))) (by omega) _ _ _ hP hS (lv_sub hl [2, 3, 4, 5, 6, 0, 7] rfl)
          · skip
            refine lv_iload hxx hbb dX6_step_159 (lv_at hl 0 rfl) ?_
            refine lv_goto (tgt := 166) hxx hbb dX6_step_161 (by decide) ?_
            refine lv_istore (lv' := [(5, .int (nI (D (pp - 1) (qq - 1) + 1))), (7, .int (nI (D (pp - 1) (qq - 1) + 1))), (0, .ref (A 102)), (1, .int (nI x)), (2, .int (nI pp)), (3, .int (nI qq)), (4, .int (nI ex)), (6, .int (nI (12 * x + pp) - nI 1))]) hxx hbb dX6_step_166 hl (by decide) rfl (fun ls hl => ?_)
            exact L_168 (D (pp - 1) (qq - 1) + 1) (by simp only [d3, hdE, ← hb]; (repeat (first | rw [if_pos (by omega)] | rw [if_neg (by omega)]))) (by omega) _ _ _ hP hS (lv_sub hl [2, 3, 4, 5, 6, 0, 7] rfl)
        · skip
          refine lv_iconst (v := nI 0) hxx hbb dX6_step_144 (by decide) ?_
          refine lv_goto (tgt := 149) hxx hbb dX6_step_145 (by decide) ?_
          have hdE : dE (lt x) tx pp qq = 0 := by simp only [dE]; first | rw [if_pos (by omega)] | rw [if_neg (by omega)]
          refine zaddN S dX6_step_149 ?_
          refine lv_istore (lv' := [(7, .int (nI (D (pp - 1) (qq - 1) + 0))), (0, .ref (A 102)), (1, .int (nI x)), (2, .int (nI pp)), (3, .int (nI qq)), (4, .int (nI ex)), (5, .int (nI b)), (6, .int (nI (12 * x + pp) - nI 1))]) hxx hbb dX6_step_150 hl (by decide) rfl (fun ls hl => ?_)
          refine lv_iload hxx hbb dX6_step_152 (lv_at hl 0 rfl) ?_
          refine lv_iload hxx hbb dX6_step_154 (lv_at hl 6 rfl) ?_
          refine zcmp_ge (tgt := 164) S (by omega) (by omega) dX6_step_156 (by decide) (fun c_11 => ?_) (fun c_11 => ?_)
          · skip
            refine lv_iload hxx hbb dX6_step_164 (lv_at hl 6 rfl) ?_
            refine lv_istore (lv' := [(5, .int (nI b)), (7, .int (nI (D (pp - 1) (qq - 1) + 0))), (0, .ref (A 102)), (1, .int (nI x)), (2, .int (nI pp)), (3, .int (nI qq)), (4, .int (nI ex)), (6, .int (nI (12 * x + pp) - nI 1))]) hxx hbb dX6_step_166 hl (by decide) rfl (fun ls hl => ?_)
            exact L_168 b (by simp only [d3, hdE, ← hb]; (repeat (first | rw [if_pos (by omega)] | rw [if_neg (by omega)]))) (by omega) _ _ _ hP hS (lv_sub hl [2, 3, 4, 5, 6, 0, 7] rfl)
          · skip
            refine lv_iload hxx hbb dX6_step_159 (lv_at hl 0 rfl) ?_
            refine lv_goto (tgt := 166) hxx hbb dX6_step_161 (by decide) ?_
            refine lv_istore (lv' := [(5, .int (nI (D (pp - 1) (qq - 1) + 0))), (7, .int (nI (D (pp - 1) (qq - 1) + 0))), (0, .ref (A 102)), (1, .int (nI x)), (2, .int (nI pp)), (3, .int (nI qq)), (4, .int (nI ex)), (6, .int (nI (12 * x + pp) - nI 1))]) hxx hbb dX6_step_166 hl (by decide) rfl (fun ls hl => ?_)
            exact L_168 (D (pp - 1) (qq - 1) + 0) (by simp only [d3, hdE, ← hb]; (repeat (first | rw [if_pos (by omega)] | rw [if_neg (by omega)]))) (by omega) _ _ _ hP hS (lv_sub hl [2, 3, 4, 5, 6, 0, 7] rfl)
  have L_65 : ∀ (b : Nat) (hb : b = d1 D pp qq) (hb2 : b ≤ 1000), ∀ (H : Heap) (locs : List Loc) (ls : Array Slot), va_P G.1 vwCl (zW G A Y) H → va_S (zAd A) s.heap H locs → lv_has ls 8 [(0, .ref (A 102)), (1, .int (nI x)), (2, .int (nI pp)), (3, .int (nI qq)), (4, .int (nI ex)), (5, .int (nI b)), (6, .int (nI (12 * x + pp) - nI 1))] → W p l e R s m args below meth c H locs 0 0 Q (F0 m 65 ls []) := by
    intro b hb hb2 H locs ls hP hS hl
    refine lv_iload_n hxx hbb dX6_step_65 rfl (lv_at hl 3 rfl) ?_
    refine zif_le (tgt := 102) S (by omega) dX6_step_66 (by decide) (fun c_12 => ?_) (fun c_12 => ?_)
    · skip
      exact L_102 b (by simp only [d2, ← hb]; (repeat (first | rw [if_pos (by omega)] | rw [if_neg (by omega)]))) (by omega) _ _ _ hP hS (lv_sub hl [0, 1, 2, 3, 4, 5, 6] rfl)
    · skip
      refine lv_aload_n hxx hbb dX6_step_69 rfl (lv_at hl 0 rfl) ?_
      refine zgX6_65 S hK hP 102 (by decide) zk_102 dX6_step_70 ?_
      refine lv_bipush (v := nI 25) hxx hbb dX6_step_73 (by decide) ?_
      refine lv_iload_n hxx hbb dX6_step_75 rfl (lv_at hl 2 rfl) ?_
      refine zmulN S dX6_step_76 ?_
      refine lv_iload_n hxx hbb dX6_step_77 rfl (lv_at hl 3 rfl) ?_
      refine zaddN S dX6_step_78 ?_
      refine lv_iconst (v := nI 1) hxx hbb dX6_step_79 (by decide) ?_
      refine zsubN S (by omega) dX6_step_80 ?_
      have hd9 := (hD pp (qq - 1) (by omega) (by omega) (by omega)).2
      refine zaldN S hK hP 116 325 (by decide) zk_116 zl_116 (by omega) (v := nI (D pp (qq - 1))) ((congrArg (Y 116) (show 25 * pp + qq - 1 = 25 * pp + (qq - 1) by omega)).trans (hD pp (qq - 1) (by omega) (by omega) (by omega)).1) dX6_step_81 ?_
      refine lv_iconst (v := nI 1) hxx hbb dX6_step_82 (by decide) ?_
      refine zaddN S dX6_step_83 ?_
      refine lv_istore (lv' := [(7, .int (nI (D pp (qq - 1) + 1))), (0, .ref (A 102)), (1, .int (nI x)), (2, .int (nI pp)), (3, .int (nI qq)), (4, .int (nI ex)), (5, .int (nI b)), (6, .int (nI (12 * x + pp) - nI 1))]) hxx hbb dX6_step_84 hl (by decide) rfl (fun ls hl => ?_)
      refine lv_iload hxx hbb dX6_step_86 (lv_at hl 0 rfl) ?_
      refine lv_iload hxx hbb dX6_step_88 (lv_at hl 6 rfl) ?_
      refine zcmp_ge (tgt := 98) S (by omega) (by omega) dX6_step_90 (by decide) (fun c_13 => ?_) (fun c_13 => ?_)
      · skip
        refine lv_iload hxx hbb dX6_step_98 (lv_at hl 6 rfl) ?_
        refine lv_istore (lv' := [(5, .int (nI b)), (7, .int (nI (D pp (qq - 1) + 1))), (0, .ref (A 102)), (1, .int (nI x)), (2, .int (nI pp)), (3, .int (nI qq)), (4, .int (nI ex)), (6, .int (nI (12 * x + pp) - nI 1))]) hxx hbb dX6_step_100 hl (by decide) rfl (fun ls hl => ?_)
        exact L_102 b (by simp only [d2, ← hb]; (repeat (first | rw [if_pos (by omega)] | rw [if_neg (by omega)]))) (by omega) _ _ _ hP hS (lv_sub hl [2, 3, 4, 5, 6, 0, 7] rfl)
      · skip
        refine lv_iload hxx hbb dX6_step_93 (lv_at hl 0 rfl) ?_
        refine lv_goto (tgt := 100) hxx hbb dX6_step_95 (by decide) ?_
        refine lv_istore (lv' := [(5, .int (nI (D pp (qq - 1) + 1))), (7, .int (nI (D pp (qq - 1) + 1))), (0, .ref (A 102)), (1, .int (nI x)), (2, .int (nI pp)), (3, .int (nI qq)), (4, .int (nI ex)), (6, .int (nI (12 * x + pp) - nI 1))]) hxx hbb dX6_step_100 hl (by decide) rfl (fun ls hl => ?_)
        exact L_102 (D pp (qq - 1) + 1) (by simp only [d2, ← hb]; (repeat (first | rw [if_pos (by omega)] | rw [if_neg (by omega)]))) (by omega) _ _ _ hP hS (lv_sub hl [2, 3, 4, 5, 6, 0, 7] rfl)
  refine lv_iload_n hxx hbb dX6_step_0 rfl (lv_at hl 2 rfl) ?_
  refine zif_ne (tgt := 12) S (by omega) dX6_step_1 (by decide) (fun c_14 => ?_) (fun c_14 => ?_)
  · skip
    refine lv_sipush (v := nI 1000) hxx hbb dX6_step_12 (by decide) ?_
    have hd0 : d0 pp qq = 1000 := by simp only [d0]; first | rw [if_pos (by omega)] | rw [if_neg (by omega)]
    refine lv_istore (lv' := [(5, .int (nI 1000)), (0, .ref (A 102)), (1, .int (nI x)), (2, .int (nI pp)), (3, .int (nI qq)), (4, .int (nI ex))]) hxx hbb dX6_step_15 hl (by decide) rfl (fun ls hl => ?_)
    refine lv_bipush (v := nI 12) hxx hbb dX6_step_17 (by decide) ?_
    refine lv_iload_n hxx hbb dX6_step_19 rfl (lv_at hl 2 rfl) ?_
    refine zmulN S dX6_step_20 ?_
    refine lv_iload_n hxx hbb dX6_step_21 rfl (lv_at hl 3 rfl) ?_
    refine zaddN S dX6_step_22 ?_
    refine lv_iconst (v := nI 1) hxx hbb dX6_step_23 (by decide) ?_
    refine lv_isub hxx hbb dX6_step_24 ?_
    refine lv_istore (lv' := [(6, .int ((nI (12 * x + pp)) - (nI 1))), (5, .int (nI 1000)), (0, .ref (A 102)), (1, .int (nI x)), (2, .int (nI pp)), (3, .int (nI qq)), (4, .int (nI ex))]) hxx hbb dX6_step_25 hl (by decide) rfl (fun ls hl => ?_)
    refine lv_iload_n hxx hbb dX6_step_27 rfl (lv_at hl 4 rfl) ?_
    refine zif_le (tgt := 65) S (by omega) dX6_step_28 (by decide) (fun c_15 => ?_) (fun c_15 => ?_)
    · skip
      exact L_65 1000 (by first | (exfalso; omega) | (simp only [d1, hd0]; (repeat (first | rw [if_pos (by omega)] | rw [if_neg (by omega)])))) (by omega) _ _ _ hP hS (lv_sub hl [2, 3, 4, 5, 6, 1, 0] rfl)
    · skip
      refine lv_aload_n hxx hbb dX6_step_31 rfl (lv_at hl 2 rfl) ?_
      refine zgX6_65 S hK hP 102 (by decide) zk_102 dX6_step_32 ?_
      refine lv_bipush (v := nI 25) hxx hbb dX6_step_35 (by decide) ?_
      refine lv_iload_n hxx hbb dX6_step_37 rfl (lv_at hl 4 rfl) ?_
      refine zmulN S dX6_step_38 ?_
      refine lv_bipush (v := nI 25) hxx hbb dX6_step_39 (by decide) ?_
      refine zsubN S (by omega) dX6_step_41 ?_
      refine lv_iload_n hxx hbb dX6_step_42 rfl (lv_at hl 5 rfl) ?_
      refine zaddN S dX6_step_43 ?_
      have hd9 := (hD (pp - 1) qq (by omega) (by omega) (by omega)).2
      refine zaldN S hK hP 116 325 (by decide) zk_116 zl_116 (by omega) (v := nI (D (pp - 1) qq)) ((congrArg (Y 116) (show 25 * pp - 25 + qq = 25 * (pp - 1) + qq by omega)).trans (hD (pp - 1) qq (by omega) (by omega) (by omega)).1) dX6_step_44 ?_
      refine lv_iconst (v := nI 1) hxx hbb dX6_step_45 (by decide) ?_
      refine zaddN S dX6_step_46 ?_
      refine lv_istore (lv' := [(7, .int (nI (D (pp - 1) qq + 1))), (6, .int ((nI (12 * x + pp)) - (nI 1))), (5, .int (nI 1000)), (0, .ref (A 102)), (1, .int (nI x)), (2, .int (nI pp)), (3, .int (nI qq)), (4, .int (nI ex))]) hxx hbb dX6_step_47 hl (by decide) rfl (fun ls hl => ?_)
      refine lv_iload hxx hbb dX6_step_49 (lv_at hl 0 rfl) ?_
      refine lv_iload hxx hbb dX6_step_51 (lv_at hl 2 rfl) ?_
      refine zcmp_ge (tgt := 61) S (by omega) (by omega) dX6_step_53 (by decide) (fun c_16 => ?_) (fun c_16 => ?_)
      · skip
        refine lv_iload hxx hbb dX6_step_61 (lv_at hl 2 rfl) ?_
        refine lv_istore (lv' := [(5, .int (nI 1000)), (7, .int (nI (D (pp - 1) qq + 1))), (6, .int ((nI (12 * x + pp)) - (nI 1))), (0, .ref (A 102)), (1, .int (nI x)), (2, .int (nI pp)), (3, .int (nI qq)), (4, .int (nI ex))]) hxx hbb dX6_step_63 hl (by decide) rfl (fun ls hl => ?_)
        exact L_65 1000 (by first | (exfalso; omega) | (simp only [d1, hd0]; (repeat (first | rw [if_pos (by omega)] | rw [if_neg (by omega)])))) (by omega) _ _ _ hP hS (lv_sub hl [3, 4, 5, 6, 7, 0, 2] rfl)
      · skip
        refine lv_iload hxx hbb dX6_step_56 (lv_at hl 0 rfl) ?_
        refine lv_goto (tgt := 63) hxx hbb dX6_step_58 (by decide) ?_
        refine lv_istore (lv' := [(5, .int (nI (D (pp - 1) qq + 1))), (7, .int (nI (D (pp - 1) qq + 1))), (6, .int ((nI (12 * x + pp)) - (nI 1))), (0, .ref (A 102)), (1, .int (nI x)), (2, .int (nI pp)), (3, .int (nI qq)), (4, .int (nI ex))]) hxx hbb dX6_step_63 hl (by decide) rfl (fun ls hl => ?_)
        exact L_65 (D (pp - 1) qq + 1) (by first | (exfalso; omega) | (simp only [d1, hd0]; (repeat (first | rw [if_pos (by omega)] | rw [if_neg (by omega)])))) (by omega) _ _ _ hP hS (lv_sub hl [3, 4, 5, 6, 7, 0, 2] rfl)
  · skip
    refine lv_iload_n hxx hbb dX6_step_4 rfl (lv_at hl 3 rfl) ?_
    refine zif_ne (tgt := 12) S (by omega) dX6_step_5 (by decide) (fun c_17 => ?_) (fun c_17 => ?_)
    · skip
      refine lv_sipush (v := nI 1000) hxx hbb dX6_step_12 (by decide) ?_
      have hd0 : d0 pp qq = 1000 := by simp only [d0]; first | rw [if_pos (by omega)] | rw [if_neg (by omega)]
      refine lv_istore (lv' := [(5, .int (nI 1000)), (0, .ref (A 102)), (1, .int (nI x)), (2, .int (nI pp)), (3, .int (nI qq)), (4, .int (nI ex))]) hxx hbb dX6_step_15 hl (by decide) rfl (fun ls hl => ?_)
      refine lv_bipush (v := nI 12) hxx hbb dX6_step_17 (by decide) ?_
      refine lv_iload_n hxx hbb dX6_step_19 rfl (lv_at hl 2 rfl) ?_
      refine zmulN S dX6_step_20 ?_
      refine lv_iload_n hxx hbb dX6_step_21 rfl (lv_at hl 3 rfl) ?_
      refine zaddN S dX6_step_22 ?_
      refine lv_iconst (v := nI 1) hxx hbb dX6_step_23 (by decide) ?_
      refine lv_isub hxx hbb dX6_step_24 ?_
      refine lv_istore (lv' := [(6, .int ((nI (12 * x + pp)) - (nI 1))), (5, .int (nI 1000)), (0, .ref (A 102)), (1, .int (nI x)), (2, .int (nI pp)), (3, .int (nI qq)), (4, .int (nI ex))]) hxx hbb dX6_step_25 hl (by decide) rfl (fun ls hl => ?_)
      refine lv_iload_n hxx hbb dX6_step_27 rfl (lv_at hl 4 rfl) ?_
      refine zif_le (tgt := 65) S (by omega) dX6_step_28 (by decide) (fun c_18 => ?_) (fun c_18 => ?_)
      · skip
        exact L_65 1000 (by first | (exfalso; omega) | (simp only [d1, hd0]; (repeat (first | rw [if_pos (by omega)] | rw [if_neg (by omega)])))) (by omega) _ _ _ hP hS (lv_sub hl [2, 3, 4, 5, 6, 1, 0] rfl)
      · skip
        refine lv_aload_n hxx hbb dX6_step_31 rfl (lv_at hl 2 rfl) ?_
        refine zgX6_65 S hK hP 102 (by decide) zk_102 dX6_step_32 ?_
        refine lv_bipush (v := nI 25) hxx hbb dX6_step_35 (by decide) ?_
        refine lv_iload_n hxx hbb dX6_step_37 rfl (lv_at hl 4 rfl) ?_
        refine zmulN S dX6_step_38 ?_
        refine lv_bipush (v := nI 25) hxx hbb dX6_step_39 (by decide) ?_
        refine zsubN S (by omega) dX6_step_41 ?_
        refine lv_iload_n hxx hbb dX6_step_42 rfl (lv_at hl 5 rfl) ?_
        refine zaddN S dX6_step_43 ?_
        have hd9 := (hD (pp - 1) qq (by omega) (by omega) (by omega)).2
        refine zaldN S hK hP 116 325 (by decide) zk_116 zl_116 (by omega) (v := nI (D (pp - 1) qq)) ((congrArg (Y 116) (show 25 * pp - 25 + qq = 25 * (pp - 1) + qq by omega)).trans (hD (pp - 1) qq (by omega) (by omega) (by omega)).1) dX6_step_44 ?_
        refine lv_iconst (v := nI 1) hxx hbb dX6_step_45 (by decide) ?_
        refine zaddN S dX6_step_46 ?_
        refine lv_istore (lv' := [(7, .int (nI (D (pp - 1) qq + 1))), (6, .int ((nI (12 * x + pp)) - (nI 1))), (5, .int (nI 1000)), (0, .ref (A 102)), (1, .int (nI x)), (2, .int (nI pp)), (3, .int (nI qq)), (4, .int (nI ex))]) hxx hbb dX6_step_47 hl (by decide) rfl (fun ls hl => ?_)
        refine lv_iload hxx hbb dX6_step_49 (lv_at hl 0 rfl) ?_
        refine lv_iload hxx hbb dX6_step_51 (lv_at hl 2 rfl) ?_
        refine zcmp_ge (tgt := 61) S (by omega) (by omega) dX6_step_53 (by decide) (fun c_19 => ?_) (fun c_19 => ?_)
        · skip
          refine lv_iload hxx hbb dX6_step_61 (lv_at hl 2 rfl) ?_
          refine lv_istore (lv' := [(5, .int (nI 1000)), (7, .int (nI (D (pp - 1) qq + 1))), (6, .int ((nI (12 * x + pp)) - (nI 1))), (0, .ref (A 102)), (1, .int (nI x)), (2, .int (nI pp)), (3, .int (nI qq)), (4, .int (nI ex))]) hxx hbb dX6_step_63 hl (by decide) rfl (fun ls hl => ?_)
          exact L_65 1000 (by first | (exfalso; omega) | (simp only [d1, hd0]; (repeat (first | rw [if_pos (by omega)] | rw [if_neg (by omega)])))) (by omega) _ _ _ hP hS (lv_sub hl [3, 4, 5, 6, 7, 0, 2] rfl)
        · skip
          refine lv_iload hxx hbb dX6_step_56 (lv_at hl 0 rfl) ?_
          refine lv_goto (tgt := 63) hxx hbb dX6_step_58 (by decide) ?_
          refine lv_istore (lv' := [(5, .int (nI (D (pp - 1) qq + 1))), (7, .int (nI (D (pp - 1) qq + 1))), (6, .int ((nI (12 * x + pp)) - (nI 1))), (0, .ref (A 102)), (1, .int (nI x)), (2, .int (nI pp)), (3, .int (nI qq)), (4, .int (nI ex))]) hxx hbb dX6_step_63 hl (by decide) rfl (fun ls hl => ?_)
          exact L_65 (D (pp - 1) qq + 1) (by first | (exfalso; omega) | (simp only [d1, hd0]; (repeat (first | rw [if_pos (by omega)] | rw [if_neg (by omega)])))) (by omega) _ _ _ hP hS (lv_sub hl [3, 4, 5, 6, 7, 0, 2] rfl)
    · skip
      refine lv_iconst (v := nI 0) hxx hbb dX6_step_8 (by decide) ?_
      refine lv_goto (tgt := 15) hxx hbb dX6_step_9 (by decide) ?_
      have hd0 : d0 pp qq = 0 := by simp only [d0]; first | rw [if_pos (by omega)] | rw [if_neg (by omega)]
      refine lv_istore (lv' := [(5, .int (nI 0)), (0, .ref (A 102)), (1, .int (nI x)), (2, .int (nI pp)), (3, .int (nI qq)), (4, .int (nI ex))]) hxx hbb dX6_step_15 hl (by decide) rfl (fun ls hl => ?_)
      refine lv_bipush (v := nI 12) hxx hbb dX6_step_17 (by decide) ?_
      refine lv_iload_n hxx hbb dX6_step_19 rfl (lv_at hl 2 rfl) ?_
      refine zmulN S dX6_step_20 ?_
      refine lv_iload_n hxx hbb dX6_step_21 rfl (lv_at hl 3 rfl) ?_
      refine zaddN S dX6_step_22 ?_
      refine lv_iconst (v := nI 1) hxx hbb dX6_step_23 (by decide) ?_
      refine lv_isub hxx hbb dX6_step_24 ?_
      refine lv_istore (lv' := [(6, .int ((nI (12 * x + pp)) - (nI 1))), (5, .int (nI 0)), (0, .ref (A 102)), (1, .int (nI x)), (2, .int (nI pp)), (3, .int (nI qq)), (4, .int (nI ex))]) hxx hbb dX6_step_25 hl (by decide) rfl (fun ls hl => ?_)
      refine lv_iload_n hxx hbb dX6_step_27 rfl (lv_at hl 4 rfl) ?_
      refine zif_le (tgt := 65) S (by omega) dX6_step_28 (by decide) (fun c_20 => ?_) (fun c_20 => ?_)
      · skip
        exact L_65 0 (by first | (exfalso; omega) | (simp only [d1, hd0]; (repeat (first | rw [if_pos (by omega)] | rw [if_neg (by omega)])))) (by omega) _ _ _ hP hS (lv_sub hl [2, 3, 4, 5, 6, 1, 0] rfl)
      · skip
        refine lv_aload_n hxx hbb dX6_step_31 rfl (lv_at hl 2 rfl) ?_
        refine zgX6_65 S hK hP 102 (by decide) zk_102 dX6_step_32 ?_
        refine lv_bipush (v := nI 25) hxx hbb dX6_step_35 (by decide) ?_
        refine lv_iload_n hxx hbb dX6_step_37 rfl (lv_at hl 4 rfl) ?_
        refine zmulN S dX6_step_38 ?_
        refine lv_bipush (v := nI 25) hxx hbb dX6_step_39 (by decide) ?_
        refine zsubN S (by omega) dX6_step_41 ?_
        refine lv_iload_n hxx hbb dX6_step_42 rfl (lv_at hl 5 rfl) ?_
        refine zaddN S dX6_step_43 ?_
        have hd9 := (hD (pp - 1) qq (by omega) (by omega) (by omega)).2
        refine zaldN S hK hP 116 325 (by decide) zk_116 zl_116 (by omega) (v := nI (D (pp - 1) qq)) ((congrArg (Y 116) (show 25 * pp - 25 + qq = 25 * (pp - 1) + qq by omega)).trans (hD (pp - 1) qq (by omega) (by omega) (by omega)).1) dX6_step_44 ?_
        refine lv_iconst (v := nI 1) hxx hbb dX6_step_45 (by decide) ?_
        refine zaddN S dX6_step_46 ?_
        refine lv_istore (lv' := [(7, .int (nI (D (pp - 1) qq + 1))), (6, .int ((nI (12 * x + pp)) - (nI 1))), (5, .int (nI 0)), (0, .ref (A 102)), (1, .int (nI x)), (2, .int (nI pp)), (3, .int (nI qq)), (4, .int (nI ex))]) hxx hbb dX6_step_47 hl (by decide) rfl (fun ls hl => ?_)
        refine lv_iload hxx hbb dX6_step_49 (lv_at hl 0 rfl) ?_
        refine lv_iload hxx hbb dX6_step_51 (lv_at hl 2 rfl) ?_
        refine zcmp_ge (tgt := 61) S (by omega) (by omega) dX6_step_53 (by decide) (fun c_21 => ?_) (fun c_21 => ?_)
        · skip
          refine lv_iload hxx hbb dX6_step_61 (lv_at hl 2 rfl) ?_
          refine lv_istore (lv' := [(5, .int (nI 0)), (7, .int (nI (D (pp - 1) qq + 1))), (6, .int ((nI (12 * x + pp)) - (nI 1))), (0, .ref (A 102)), (1, .int (nI x)), (2, .int (nI pp)), (3, .int (nI qq)), (4, .int (nI ex))]) hxx hbb dX6_step_63 hl (by decide) rfl (fun ls hl => ?_)
          exact L_65 0 (by first | (exfalso; omega) | (simp only [d1, hd0]; (repeat (first | rw [if_pos (by omega)] | rw [if_neg (by omega)])))) (by omega) _ _ _ hP hS (lv_sub hl [3, 4, 5, 6, 7, 0, 2] rfl)
        · skip
          refine lv_iload hxx hbb dX6_step_56 (lv_at hl 0 rfl) ?_
          refine lv_goto (tgt := 63) hxx hbb dX6_step_58 (by decide) ?_
          refine lv_istore (lv' := [(5, .int (nI (D (pp - 1) qq + 1))), (7, .int (nI (D (pp - 1) qq + 1))), (6, .int ((nI (12 * x + pp)) - (nI 1))), (0, .ref (A 102)), (1, .int (nI x)), (2, .int (nI pp)), (3, .int (nI qq)), (4, .int (nI ex))]) hxx hbb dX6_step_63 hl (by decide) rfl (fun ls hl => ?_)
          exact L_65 (D (pp - 1) qq + 1) (by first | (exfalso; omega) | (simp only [d1, hd0]; (repeat (first | rw [if_pos (by omega)] | rw [if_neg (by omega)])))) (by omega) _ _ _ hP hS (lv_sub hl [3, 4, 5, 6, 7, 0, 2] rfl)
end
