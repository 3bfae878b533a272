section
-- ===== PART A: goes FIRST, ahead of the names: the tables' words, and 'selects' of the private methods out of them =====
/-- a private method of a class that the tables say can be made, by its rows of tables_1 -/
def lw_okq (q : MethodName × Nat) : Prop := (q.1.cls ≠ "java/lang/invoke/MethodHandle" ∧ q.1.cls ≠ "java/lang/invoke/VarHandle") ∧ Cond.instantiable q.1.cls q.2 ∈ tables_1 ∧ Cond.privateMethod q.1 ∈ tables_1 ∧ Cond.instanceMethod q.1 ∈ tables_1
theorem lw_p0 : lw_okq (⟨"PlaitBench", "tapeBytes", "(I)V"⟩, 11) := ⟨⟨by decide +kernel, by decide +kernel⟩, List.mem_of_getElem? (i := 17) (by decide +kernel), List.mem_of_getElem? (i := 158) (by decide +kernel), List.mem_of_getElem? (i := 159) (by decide +kernel)⟩
theorem lw_p1 : lw_okq (⟨"PlaitBench", "patternOrNull", "(I)LPlaitBench$Pattern;"⟩, 11) := ⟨⟨by decide +kernel, by decide +kernel⟩, List.mem_of_getElem? (i := 17) (by decide +kernel), List.mem_of_getElem? (i := 166) (by decide +kernel), List.mem_of_getElem? (i := 167) (by decide +kernel)⟩
theorem lw_p2 : lw_okq (⟨"PlaitBench", "strawsLeftOf", "(I)I"⟩, 11) := ⟨⟨by decide +kernel, by decide +kernel⟩, List.mem_of_getElem? (i := 17) (by decide +kernel), List.mem_of_getElem? (i := 207) (by decide +kernel), List.mem_of_getElem? (i := 208) (by decide +kernel)⟩
theorem lw_p3 : lw_okq (⟨"PlaitBench", "takeStraws", "(II)I"⟩, 11) := ⟨⟨by decide +kernel, by decide +kernel⟩, List.mem_of_getElem? (i := 17) (by decide +kernel), List.mem_of_getElem? (i := 211) (by decide +kernel), List.mem_of_getElem? (i := 212) (by decide +kernel)⟩
theorem lw_p4 : lw_okq (⟨"PlaitBench", "lengthLeftOf", "(I)I"⟩, 11) := ⟨⟨by decide +kernel, by decide +kernel⟩, List.mem_of_getElem? (i := 17) (by decide +kernel), List.mem_of_getElem? (i := 251) (by decide +kernel), List.mem_of_getElem? (i := 252) (by decide +kernel)⟩
theorem lw_p5 : lw_okq (⟨"PlaitBench", "sewFromScores", "(LPlaitBench$Hat;I)V"⟩, 11) := ⟨⟨by decide +kernel, by decide +kernel⟩, List.mem_of_getElem? (i := 17) (by decide +kernel), List.mem_of_getElem? (i := 277) (by decide +kernel), List.mem_of_getElem? (i := 278) (by decide +kernel)⟩
theorem lw_p6 : lw_okq (⟨"java/lang/Throwable", "fillInStackTrace", "(I)Ljava/lang/Throwable;"⟩, 6) := ⟨⟨by decide +kernel, by decide +kernel⟩, List.mem_of_getElem? (i := 326) (by decide +kernel), List.mem_of_getElem? (i := 324) (by decide +kernel), List.mem_of_getElem? (i := 325) (by decide +kernel)⟩
theorem lw_p7 : lw_okq (⟨"PlaitBench$Reader", "readItems", "()V"⟩, 12) := ⟨⟨by decide +kernel, by decide +kernel⟩, List.mem_of_getElem? (i := 27) (by decide +kernel), List.mem_of_getElem? (i := 361) (by decide +kernel), List.mem_of_getElem? (i := 362) (by decide +kernel)⟩
theorem lw_p8 : lw_okq (⟨"PlaitBench$Reader", "nextSign", "()I"⟩, 12) := ⟨⟨by decide +kernel, by decide +kernel⟩, List.mem_of_getElem? (i := 27) (by decide +kernel), List.mem_of_getElem? (i := 365) (by decide +kernel), List.mem_of_getElem? (i := 366) (by decide +kernel)⟩
theorem lw_p9 : lw_okq (⟨"PlaitBench$Reader", "refuse", "(II)V"⟩, 12) := ⟨⟨by decide +kernel, by decide +kernel⟩, List.mem_of_getElem? (i := 27) (by decide +kernel), List.mem_of_getElem? (i := 369) (by decide +kernel), List.mem_of_getElem? (i := 370) (by decide +kernel)⟩
theorem lw_p10 : lw_okq (⟨"PlaitBench$Reader", "readItem", "(I)V"⟩, 12) := ⟨⟨by decide +kernel, by decide +kernel⟩, List.mem_of_getElem? (i := 27) (by decide +kernel), List.mem_of_getElem? (i := 373) (by decide +kernel), List.mem_of_getElem? (i := 374) (by decide +kernel)⟩
theorem lw_p11 : lw_okq (⟨"PlaitBench$Reader", "readNumbered", "()V"⟩, 12) := ⟨⟨by decide +kernel, by decide +kernel⟩, List.mem_of_getElem? (i := 27) (by decide +kernel), List.mem_of_getElem? (i := 380) (by decide +kernel), List.mem_of_getElem? (i := 381) (by decide +kernel)⟩
theorem lw_p12 : lw_okq (⟨"PlaitBench$Reader", "readNumber", "()I"⟩, 12) := ⟨⟨by decide +kernel, by decide +kernel⟩, List.mem_of_getElem? (i := 27) (by decide +kernel), List.mem_of_getElem? (i := 384) (by decide +kernel), List.mem_of_getElem? (i := 385) (by decide +kernel)⟩
theorem lw_p13 : lw_okq (⟨"PlaitBench$Reader", "addCrossing", "(III)V"⟩, 12) := ⟨⟨by decide +kernel, by decide +kernel⟩, List.mem_of_getElem? (i := 27) (by decide +kernel), List.mem_of_getElem? (i := 388) (by decide +kernel), List.mem_of_getElem? (i := 389) (by decide +kernel)⟩
theorem lw_p14 : lw_okq (⟨"PlaitBench$Reader", "openBracket", "(I)V"⟩, 12) := ⟨⟨by decide +kernel, by decide +kernel⟩, List.mem_of_getElem? (i := 27) (by decide +kernel), List.mem_of_getElem? (i := 392) (by decide +kernel), List.mem_of_getElem? (i := 393) (by decide +kernel)⟩
theorem lw_p15 : lw_okq (⟨"PlaitBench$Reader", "readCopy", "()V"⟩, 12) := ⟨⟨by decide +kernel, by decide +kernel⟩, List.mem_of_getElem? (i := 27) (by decide +kernel), List.mem_of_getElem? (i := 396) (by decide +kernel), List.mem_of_getElem? (i := 397) (by decide +kernel)⟩
def lw_privs_1 : List (MethodName × Nat) := [(⟨"PlaitBench", "tapeBytes", "(I)V"⟩, 11), (⟨"PlaitBench", "patternOrNull", "(I)LPlaitBench$Pattern;"⟩, 11), (⟨"PlaitBench", "strawsLeftOf", "(I)I"⟩, 11), (⟨"PlaitBench", "takeStraws", "(II)I"⟩, 11), (⟨"PlaitBench", "lengthLeftOf", "(I)I"⟩, 11), (⟨"PlaitBench", "sewFromScores", "(LPlaitBench$Hat;I)V"⟩, 11), (⟨"java/lang/Throwable", "fillInStackTrace", "(I)Ljava/lang/Throwable;"⟩, 6), (⟨"PlaitBench$Reader", "readItems", "()V"⟩, 12), (⟨"PlaitBench$Reader", "nextSign", "()I"⟩, 12), (⟨"PlaitBench$Reader", "refuse", "(II)V"⟩, 12), (⟨"PlaitBench$Reader", "readItem", "(I)V"⟩, 12), (⟨"PlaitBench$Reader", "readNumbered", "()V"⟩, 12), (⟨"PlaitBench$Reader", "readNumber", "()I"⟩, 12), (⟨"PlaitBench$Reader", "addCrossing", "(III)V"⟩, 12), (⟨"PlaitBench$Reader", "openBracket", "(I)V"⟩, 12), (⟨"PlaitBench$Reader", "readCopy", "()V"⟩, 12)]
theorem lw_r1 : ∀ q ∈ lw_privs_1, lw_okq q := List.forall_mem_cons.mpr ⟨lw_p0, List.forall_mem_cons.mpr ⟨lw_p1, List.forall_mem_cons.mpr ⟨lw_p2, List.forall_mem_cons.mpr ⟨lw_p3, List.forall_mem_cons.mpr ⟨lw_p4, List.forall_mem_cons.mpr ⟨lw_p5, List.forall_mem_cons.mpr ⟨lw_p6, List.forall_mem_cons.mpr ⟨lw_p7, List.forall_mem_cons.mpr ⟨lw_p8, List.forall_mem_cons.mpr ⟨lw_p9, List.forall_mem_cons.mpr ⟨lw_p10, List.forall_mem_cons.mpr ⟨lw_p11, List.forall_mem_cons.mpr ⟨lw_p12, List.forall_mem_cons.mpr ⟨lw_p13, List.forall_mem_cons.mpr ⟨lw_p14, List.forall_mem_cons.mpr ⟨lw_p15, fun _ h => absurd h List.not_mem_nil⟩⟩⟩⟩⟩⟩⟩⟩⟩⟩⟩⟩⟩⟩⟩⟩
theorem lw_p16 : lw_okq (⟨"PlaitBench$Reader", "addCopy", "(LPlaitBench$Pattern;I)V"⟩, 12) := ⟨⟨by decide +kernel, by decide +kernel⟩, List.mem_of_getElem? (i := 27) (by decide +kernel), List.mem_of_getElem? (i := 400) (by decide +kernel), List.mem_of_getElem? (i := 401) (by decide +kernel)⟩
theorem lw_p17 : lw_okq (⟨"PlaitBench$Reader", "readLettered", "(I)V"⟩, 12) := ⟨⟨by decide +kernel, by decide +kernel⟩, List.mem_of_getElem? (i := 27) (by decide +kernel), List.mem_of_getElem? (i := 407) (by decide +kernel), List.mem_of_getElem? (i := 408) (by decide +kernel)⟩
theorem lw_p18 : lw_okq (⟨"PlaitBench$Reader", "closeBracket", "()V"⟩, 12) := ⟨⟨by decide +kernel, by decide +kernel⟩, List.mem_of_getElem? (i := 27) (by decide +kernel), List.mem_of_getElem? (i := 411) (by decide +kernel), List.mem_of_getElem? (i := 412) (by decide +kernel)⟩
theorem lw_p19 : lw_okq (⟨"PlaitBench$Reader", "undo", "(I)V"⟩, 12) := ⟨⟨by decide +kernel, by decide +kernel⟩, List.mem_of_getElem? (i := 27) (by decide +kernel), List.mem_of_getElem? (i := 415) (by decide +kernel), List.mem_of_getElem? (i := 416) (by decide +kernel)⟩
theorem lw_p20 : lw_okq (⟨"PlaitBench$Reader", "mirror", "(I)V"⟩, 12) := ⟨⟨by decide +kernel, by decide +kernel⟩, List.mem_of_getElem? (i := 27) (by decide +kernel), List.mem_of_getElem? (i := 419) (by decide +kernel), List.mem_of_getElem? (i := 420) (by decide +kernel)⟩
theorem lw_p21 : lw_okq (⟨"PlaitBench$Reader", "turn", "(I)V"⟩, 12) := ⟨⟨by decide +kernel, by decide +kernel⟩, List.mem_of_getElem? (i := 27) (by decide +kernel), List.mem_of_getElem? (i := 423) (by decide +kernel), List.mem_of_getElem? (i := 424) (by decide +kernel)⟩
theorem lw_p22 : lw_okq (⟨"PlaitBench$Reader", "repeat", "(II)V"⟩, 12) := ⟨⟨by decide +kernel, by decide +kernel⟩, List.mem_of_getElem? (i := 27) (by decide +kernel), List.mem_of_getElem? (i := 427) (by decide +kernel), List.mem_of_getElem? (i := 428) (by decide +kernel)⟩
theorem lw_p23 : lw_okq (⟨"PlaitBench$Pattern", "clearTraces", "()V"⟩, 18) := ⟨⟨by decide +kernel, by decide +kernel⟩, List.mem_of_getElem? (i := 430) (by decide +kernel), List.mem_of_getElem? (i := 512) (by decide +kernel), List.mem_of_getElem? (i := 513) (by decide +kernel)⟩
theorem lw_p24 : lw_okq (⟨"PlaitBench$Pattern", "cross", "(I)V"⟩, 18) := ⟨⟨by decide +kernel, by decide +kernel⟩, List.mem_of_getElem? (i := 430) (by decide +kernel), List.mem_of_getElem? (i := 516) (by decide +kernel), List.mem_of_getElem? (i := 517) (by decide +kernel)⟩
theorem lw_p25 : lw_okq (⟨"PlaitBench$Pattern", "lieAt", "(II)V"⟩, 18) := ⟨⟨by decide +kernel, by decide +kernel⟩, List.mem_of_getElem? (i := 430) (by decide +kernel), List.mem_of_getElem? (i := 523) (by decide +kernel), List.mem_of_getElem? (i := 524) (by decide +kernel)⟩
theorem lw_p26 : lw_okq (⟨"PlaitBench$Pattern", "walkRings", "()V"⟩, 18) := ⟨⟨by decide +kernel, by decide +kernel⟩, List.mem_of_getElem? (i := 430) (by decide +kernel), List.mem_of_getElem? (i := 528) (by decide +kernel), List.mem_of_getElem? (i := 529) (by decide +kernel)⟩
theorem lw_p27 : lw_okq (⟨"PlaitBench$Pattern", "hasAllNumbers", "()Z"⟩, 18) := ⟨⟨by decide +kernel, by decide +kernel⟩, List.mem_of_getElem? (i := 430) (by decide +kernel), List.mem_of_getElem? (i := 535) (by decide +kernel), List.mem_of_getElem? (i := 536) (by decide +kernel)⟩
theorem lw_p28 : lw_okq (⟨"PlaitBench$Pattern", "goesOnInTurn", "()Z"⟩, 18) := ⟨⟨by decide +kernel, by decide +kernel⟩, List.mem_of_getElem? (i := 430) (by decide +kernel), List.mem_of_getElem? (i := 539) (by decide +kernel), List.mem_of_getElem? (i := 540) (by decide +kernel)⟩
theorem lw_p29 : lw_okq (⟨"PlaitBench", "knownPattern", "(I)LPlaitBench$Pattern;"⟩, 11) := ⟨⟨by decide +kernel, by decide +kernel⟩, List.mem_of_getElem? (i := 17) (by decide +kernel), List.mem_of_getElem? (i := 574) (by decide +kernel), List.mem_of_getElem? (i := 575) (by decide +kernel)⟩
theorem lw_p30 : lw_okq (⟨"PlaitBench$Form", "turnFactors", "()V"⟩, 9) := ⟨⟨by decide +kernel, by decide +kernel⟩, List.mem_of_getElem? (i := 76) (by decide +kernel), List.mem_of_getElem? (i := 602) (by decide +kernel), List.mem_of_getElem? (i := 603) (by decide +kernel)⟩
theorem lw_p31 : lw_okq (⟨"PlaitBench$Form", "unpack", "(I)V"⟩, 9) := ⟨⟨by decide +kernel, by decide +kernel⟩, List.mem_of_getElem? (i := 76) (by decide +kernel), List.mem_of_getElem? (i := 606) (by decide +kernel), List.mem_of_getElem? (i := 607) (by decide +kernel)⟩
def lw_privs_2 : List (MethodName × Nat) := [(⟨"PlaitBench$Reader", "addCopy", "(LPlaitBench$Pattern;I)V"⟩, 12), (⟨"PlaitBench$Reader", "readLettered", "(I)V"⟩, 12), (⟨"PlaitBench$Reader", "closeBracket", "()V"⟩, 12), (⟨"PlaitBench$Reader", "undo", "(I)V"⟩, 12), (⟨"PlaitBench$Reader", "mirror", "(I)V"⟩, 12), (⟨"PlaitBench$Reader", "turn", "(I)V"⟩, 12), (⟨"PlaitBench$Reader", "repeat", "(II)V"⟩, 12), (⟨"PlaitBench$Pattern", "clearTraces", "()V"⟩, 18), (⟨"PlaitBench$Pattern", "cross", "(I)V"⟩, 18), (⟨"PlaitBench$Pattern", "lieAt", "(II)V"⟩, 18), (⟨"PlaitBench$Pattern", "walkRings", "()V"⟩, 18), (⟨"PlaitBench$Pattern", "hasAllNumbers", "()Z"⟩, 18), (⟨"PlaitBench$Pattern", "goesOnInTurn", "()Z"⟩, 18), (⟨"PlaitBench", "knownPattern", "(I)LPlaitBench$Pattern;"⟩, 11), (⟨"PlaitBench$Form", "turnFactors", "()V"⟩, 9), (⟨"PlaitBench$Form", "unpack", "(I)V"⟩, 9)]
theorem lw_r2 : ∀ q ∈ lw_privs_2, lw_okq q := List.forall_mem_cons.mpr ⟨lw_p16, List.forall_mem_cons.mpr ⟨lw_p17, List.forall_mem_cons.mpr ⟨lw_p18, List.forall_mem_cons.mpr ⟨lw_p19, List.forall_mem_cons.mpr ⟨lw_p20, List.forall_mem_cons.mpr ⟨lw_p21, List.forall_mem_cons.mpr ⟨lw_p22, List.forall_mem_cons.mpr ⟨lw_p23, List.forall_mem_cons.mpr ⟨lw_p24, List.forall_mem_cons.mpr ⟨lw_p25, List.forall_mem_cons.mpr ⟨lw_p26, List.forall_mem_cons.mpr ⟨lw_p27, List.forall_mem_cons.mpr ⟨lw_p28, List.forall_mem_cons.mpr ⟨lw_p29, List.forall_mem_cons.mpr ⟨lw_p30, List.forall_mem_cons.mpr ⟨lw_p31, fun _ h => absurd h List.not_mem_nil⟩⟩⟩⟩⟩⟩⟩⟩⟩⟩⟩⟩⟩⟩⟩⟩
theorem lw_p32 : lw_okq (⟨"PlaitBench$Form", "withNumbersChanged", "(II)I"⟩, 9) := ⟨⟨by decide +kernel, by decide +kernel⟩, List.mem_of_getElem? (i := 76) (by decide +kernel), List.mem_of_getElem? (i := 611) (by decide +kernel), List.mem_of_getElem? (i := 612) (by decide +kernel)⟩
theorem lw_p33 : lw_okq (⟨"PlaitBench$Form", "unpackInverse", "(I)V"⟩, 9) := ⟨⟨by decide +kernel, by decide +kernel⟩, List.mem_of_getElem? (i := 76) (by decide +kernel), List.mem_of_getElem? (i := 615) (by decide +kernel), List.mem_of_getElem? (i := 616) (by decide +kernel)⟩
theorem lw_p34 : lw_okq (⟨"PlaitBench$Form", "packInverse", "()I"⟩, 9) := ⟨⟨by decide +kernel, by decide +kernel⟩, List.mem_of_getElem? (i := 76) (by decide +kernel), List.mem_of_getElem? (i := 622) (by decide +kernel), List.mem_of_getElem? (i := 623) (by decide +kernel)⟩
theorem lw_p35 : lw_okq (⟨"PlaitBench$Form", "append", "(I)V"⟩, 9) := ⟨⟨by decide +kernel, by decide +kernel⟩, List.mem_of_getElem? (i := 76) (by decide +kernel), List.mem_of_getElem? (i := 626) (by decide +kernel), List.mem_of_getElem? (i := 627) (by decide +kernel)⟩
theorem lw_p36 : lw_okq (⟨"PlaitBench$Form", "slideToFront", "(I)Z"⟩, 9) := ⟨⟨by decide +kernel, by decide +kernel⟩, List.mem_of_getElem? (i := 76) (by decide +kernel), List.mem_of_getElem? (i := 630) (by decide +kernel), List.mem_of_getElem? (i := 631) (by decide +kernel)⟩
theorem lw_p37 : lw_okq (⟨"PlaitBench$Form", "pack", "()I"⟩, 9) := ⟨⟨by decide +kernel, by decide +kernel⟩, List.mem_of_getElem? (i := 76) (by decide +kernel), List.mem_of_getElem? (i := 634) (by decide +kernel), List.mem_of_getElem? (i := 635) (by decide +kernel)⟩
theorem lw_p38 : lw_okq (⟨"PlaitBench", "strawsLeftOfAll", "()I"⟩, 11) := ⟨⟨by decide +kernel, by decide +kernel⟩, List.mem_of_getElem? (i := 17) (by decide +kernel), List.mem_of_getElem? (i := 745) (by decide +kernel), List.mem_of_getElem? (i := 746) (by decide +kernel)⟩
theorem lw_p39 : lw_okq (⟨"PlaitBenchModel", "lays", "(I)V"⟩, 45) := ⟨⟨by decide +kernel, by decide +kernel⟩, List.mem_of_getElem? (i := 749) (by decide +kernel), List.mem_of_getElem? (i := 899) (by decide +kernel), List.mem_of_getElem? (i := 900) (by decide +kernel)⟩
theorem lw_p40 : lw_okq (⟨"PlaitBenchModel", "right", "(ZI)Z"⟩, 45) := ⟨⟨by decide +kernel, by decide +kernel⟩, List.mem_of_getElem? (i := 749) (by decide +kernel), List.mem_of_getElem? (i := 907) (by decide +kernel), List.mem_of_getElem? (i := 908) (by decide +kernel)⟩
theorem lw_p41 : lw_okq (⟨"PlaitBenchModel", "skip", "()V"⟩, 45) := ⟨⟨by decide +kernel, by decide +kernel⟩, List.mem_of_getElem? (i := 749) (by decide +kernel), List.mem_of_getElem? (i := 911) (by decide +kernel), List.mem_of_getElem? (i := 912) (by decide +kernel)⟩
theorem lw_p42 : lw_okq (⟨"PlaitBenchModel", "item", "()Z"⟩, 45) := ⟨⟨by decide +kernel, by decide +kernel⟩, List.mem_of_getElem? (i := 749) (by decide +kernel), List.mem_of_getElem? (i := 915) (by decide +kernel), List.mem_of_getElem? (i := 916) (by decide +kernel)⟩
theorem lw_p43 : lw_okq (⟨"PlaitBenchModel", "now", "()I"⟩, 45) := ⟨⟨by decide +kernel, by decide +kernel⟩, List.mem_of_getElem? (i := 749) (by decide +kernel), List.mem_of_getElem? (i := 919) (by decide +kernel), List.mem_of_getElem? (i := 920) (by decide +kernel)⟩
theorem lw_p44 : lw_okq (⟨"PlaitBenchModel", "closes", "()Z"⟩, 45) := ⟨⟨by decide +kernel, by decide +kernel⟩, List.mem_of_getElem? (i := 749) (by decide +kernel), List.mem_of_getElem? (i := 923) (by decide +kernel), List.mem_of_getElem? (i := 924) (by decide +kernel)⟩
theorem lw_p45 : lw_okq (⟨"PlaitBenchModel", "wrong", "(II)Z"⟩, 45) := ⟨⟨by decide +kernel, by decide +kernel⟩, List.mem_of_getElem? (i := 749) (by decide +kernel), List.mem_of_getElem? (i := 927) (by decide +kernel), List.mem_of_getElem? (i := 928) (by decide +kernel)⟩
theorem lw_p46 : lw_okq (⟨"PlaitBenchModel", "opens", "(I)Z"⟩, 45) := ⟨⟨by decide +kernel, by decide +kernel⟩, List.mem_of_getElem? (i := 749) (by decide +kernel), List.mem_of_getElem? (i := 931) (by decide +kernel), List.mem_of_getElem? (i := 932) (by decide +kernel)⟩
theorem lw_p47 : lw_okq (⟨"PlaitBenchModel", "pattern", "()Z"⟩, 45) := ⟨⟨by decide +kernel, by decide +kernel⟩, List.mem_of_getElem? (i := 749) (by decide +kernel), List.mem_of_getElem? (i := 935) (by decide +kernel), List.mem_of_getElem? (i := 936) (by decide +kernel)⟩
def lw_privs_3 : List (MethodName × Nat) := [(⟨"PlaitBench$Form", "withNumbersChanged", "(II)I"⟩, 9), (⟨"PlaitBench$Form", "unpackInverse", "(I)V"⟩, 9), (⟨"PlaitBench$Form", "packInverse", "()I"⟩, 9), (⟨"PlaitBench$Form", "append", "(I)V"⟩, 9), (⟨"PlaitBench$Form", "slideToFront", "(I)Z"⟩, 9), (⟨"PlaitBench$Form", "pack", "()I"⟩, 9), (⟨"PlaitBench", "strawsLeftOfAll", "()I"⟩, 11), (⟨"PlaitBenchModel", "lays", "(I)V"⟩, 45), (⟨"PlaitBenchModel", "right", "(ZI)Z"⟩, 45), (⟨"PlaitBenchModel", "skip", "()V"⟩, 45), (⟨"PlaitBenchModel", "item", "()Z"⟩, 45), (⟨"PlaitBenchModel", "now", "()I"⟩, 45), (⟨"PlaitBenchModel", "closes", "()Z"⟩, 45), (⟨"PlaitBenchModel", "wrong", "(II)Z"⟩, 45), (⟨"PlaitBenchModel", "opens", "(I)Z"⟩, 45), (⟨"PlaitBenchModel", "pattern", "()Z"⟩, 45)]
theorem lw_r3 : ∀ q ∈ lw_privs_3, lw_okq q := List.forall_mem_cons.mpr ⟨lw_p32, List.forall_mem_cons.mpr ⟨lw_p33, List.forall_mem_cons.mpr ⟨lw_p34, List.forall_mem_cons.mpr ⟨lw_p35, List.forall_mem_cons.mpr ⟨lw_p36, List.forall_mem_cons.mpr ⟨lw_p37, List.forall_mem_cons.mpr ⟨lw_p38, List.forall_mem_cons.mpr ⟨lw_p39, List.forall_mem_cons.mpr ⟨lw_p40, List.forall_mem_cons.mpr ⟨lw_p41, List.forall_mem_cons.mpr ⟨lw_p42, List.forall_mem_cons.mpr ⟨lw_p43, List.forall_mem_cons.mpr ⟨lw_p44, List.forall_mem_cons.mpr ⟨lw_p45, List.forall_mem_cons.mpr ⟨lw_p46, List.forall_mem_cons.mpr ⟨lw_p47, fun _ h => absurd h List.not_mem_nil⟩⟩⟩⟩⟩⟩⟩⟩⟩⟩⟩⟩⟩⟩⟩⟩
theorem lw_p48 : lw_okq (⟨"PlaitBenchModel", "number", "()I"⟩, 45) := ⟨⟨by decide +kernel, by decide +kernel⟩, List.mem_of_getElem? (i := 749) (by decide +kernel), List.mem_of_getElem? (i := 942) (by decide +kernel), List.mem_of_getElem? (i := 943) (by decide +kernel)⟩
theorem lw_p49 : lw_okq (⟨"PlaitBenchModel", "isPattern", "(I)Z"⟩, 45) := ⟨⟨by decide +kernel, by decide +kernel⟩, List.mem_of_getElem? (i := 749) (by decide +kernel), List.mem_of_getElem? (i := 958) (by decide +kernel), List.mem_of_getElem? (i := 959) (by decide +kernel)⟩
theorem lw_p50 : lw_okq (⟨"PlaitBenchModel", "form", "(II)V"⟩, 45) := ⟨⟨by decide +kernel, by decide +kernel⟩, List.mem_of_getElem? (i := 749) (by decide +kernel), List.mem_of_getElem? (i := 966) (by decide +kernel), List.mem_of_getElem? (i := 967) (by decide +kernel)⟩
theorem lw_p51 : lw_okq (⟨"PlaitBenchModel", "behind", "(II)V"⟩, 45) := ⟨⟨by decide +kernel, by decide +kernel⟩, List.mem_of_getElem? (i := 749) (by decide +kernel), List.mem_of_getElem? (i := 970) (by decide +kernel), List.mem_of_getElem? (i := 971) (by decide +kernel)⟩
theorem lw_p52 : lw_okq (⟨"PlaitBenchModel", "from", "(II)I"⟩, 45) := ⟨⟨by decide +kernel, by decide +kernel⟩, List.mem_of_getElem? (i := 749) (by decide +kernel), List.mem_of_getElem? (i := 974) (by decide +kernel), List.mem_of_getElem? (i := 975) (by decide +kernel)⟩
theorem lw_p53 : lw_okq (⟨"PlaitBenchModel", "get", "(II)I"⟩, 45) := ⟨⟨by decide +kernel, by decide +kernel⟩, List.mem_of_getElem? (i := 749) (by decide +kernel), List.mem_of_getElem? (i := 978) (by decide +kernel), List.mem_of_getElem? (i := 979) (by decide +kernel)⟩
theorem lw_p54 : lw_okq (⟨"PlaitBenchModel", "turns", "(II)V"⟩, 45) := ⟨⟨by decide +kernel, by decide +kernel⟩, List.mem_of_getElem? (i := 749) (by decide +kernel), List.mem_of_getElem? (i := 982) (by decide +kernel), List.mem_of_getElem? (i := 983) (by decide +kernel)⟩
theorem lw_p55 : lw_okq (⟨"PlaitBenchModel", "takes", "(II)Z"⟩, 45) := ⟨⟨by decide +kernel, by decide +kernel⟩, List.mem_of_getElem? (i := 749) (by decide +kernel), List.mem_of_getElem? (i := 986) (by decide +kernel), List.mem_of_getElem? (i := 987) (by decide +kernel)⟩
theorem lw_p56 : lw_okq (⟨"PlaitBenchModel", "drops", "(I)V"⟩, 45) := ⟨⟨by decide +kernel, by decide +kernel⟩, List.mem_of_getElem? (i := 749) (by decide +kernel), List.mem_of_getElem? (i := 990) (by decide +kernel), List.mem_of_getElem? (i := 991) (by decide +kernel)⟩
theorem lw_p57 : lw_okq (⟨"PlaitBenchModel", "isNothing", "(II)Z"⟩, 45) := ⟨⟨by decide +kernel, by decide +kernel⟩, List.mem_of_getElem? (i := 749) (by decide +kernel), List.mem_of_getElem? (i := 994) (by decide +kernel), List.mem_of_getElem? (i := 995) (by decide +kernel)⟩
theorem lw_p58 : lw_okq (⟨"PlaitBenchModel", "isAll", "(II)Z"⟩, 45) := ⟨⟨by decide +kernel, by decide +kernel⟩, List.mem_of_getElem? (i := 749) (by decide +kernel), List.mem_of_getElem? (i := 998) (by decide +kernel), List.mem_of_getElem? (i := 999) (by decide +kernel)⟩
theorem lw_p59 : lw_okq (⟨"PlaitBenchModel", "coded", "(II)I"⟩, 45) := ⟨⟨by decide +kernel, by decide +kernel⟩, List.mem_of_getElem? (i := 749) (by decide +kernel), List.mem_of_getElem? (i := 1002) (by decide +kernel), List.mem_of_getElem? (i := 1003) (by decide +kernel)⟩
theorem lw_p60 : lw_okq (⟨"PlaitBenchModel", "home", "(I)I"⟩, 45) := ⟨⟨by decide +kernel, by decide +kernel⟩, List.mem_of_getElem? (i := 749) (by decide +kernel), List.mem_of_getElem? (i := 1018) (by decide +kernel), List.mem_of_getElem? (i := 1019) (by decide +kernel)⟩
theorem lw_p61 : lw_okq (⟨"PlaitBenchModel", "goesTo", "(II)I"⟩, 45) := ⟨⟨by decide +kernel, by decide +kernel⟩, List.mem_of_getElem? (i := 749) (by decide +kernel), List.mem_of_getElem? (i := 1022) (by decide +kernel), List.mem_of_getElem? (i := 1023) (by decide +kernel)⟩
theorem lw_p62 : lw_okq (⟨"PlaitBenchModel", "rings", "(I)I"⟩, 45) := ⟨⟨by decide +kernel, by decide +kernel⟩, List.mem_of_getElem? (i := 749) (by decide +kernel), List.mem_of_getElem? (i := 1026) (by decide +kernel), List.mem_of_getElem? (i := 1027) (by decide +kernel)⟩
theorem lw_p63 : lw_okq (⟨"PlaitBenchModel", "holds", "(I)Z"⟩, 45) := ⟨⟨by decide +kernel, by decide +kernel⟩, List.mem_of_getElem? (i := 749) (by decide +kernel), List.mem_of_getElem? (i := 1030) (by decide +kernel), List.mem_of_getElem? (i := 1031) (by decide +kernel)⟩
def lw_privs_4 : List (MethodName × Nat) := [(⟨"PlaitBenchModel", "number", "()I"⟩, 45), (⟨"PlaitBenchModel", "isPattern", "(I)Z"⟩, 45), (⟨"PlaitBenchModel", "form", "(II)V"⟩, 45), (⟨"PlaitBenchModel", "behind", "(II)V"⟩, 45), (⟨"PlaitBenchModel", "from", "(II)I"⟩, 45), (⟨"PlaitBenchModel", "get", "(II)I"⟩, 45), (⟨"PlaitBenchModel", "turns", "(II)V"⟩, 45), (⟨"PlaitBenchModel", "takes", "(II)Z"⟩, 45), (⟨"PlaitBenchModel", "drops", "(I)V"⟩, 45), (⟨"PlaitBenchModel", "isNothing", "(II)Z"⟩, 45), (⟨"PlaitBenchModel", "isAll", "(II)Z"⟩, 45), (⟨"PlaitBenchModel", "coded", "(II)I"⟩, 45), (⟨"PlaitBenchModel", "home", "(I)I"⟩, 45), (⟨"PlaitBenchModel", "goesTo", "(II)I"⟩, 45), (⟨"PlaitBenchModel", "rings", "(I)I"⟩, 45), (⟨"PlaitBenchModel", "holds", "(I)Z"⟩, 45)]
theorem lw_r4 : ∀ q ∈ lw_privs_4, lw_okq q := List.forall_mem_cons.mpr ⟨lw_p48, List.forall_mem_cons.mpr ⟨lw_p49, List.forall_mem_cons.mpr ⟨lw_p50, List.forall_mem_cons.mpr ⟨lw_p51, List.forall_mem_cons.mpr ⟨lw_p52, List.forall_mem_cons.mpr ⟨lw_p53, List.forall_mem_cons.mpr ⟨lw_p54, List.forall_mem_cons.mpr ⟨lw_p55, List.forall_mem_cons.mpr ⟨lw_p56, List.forall_mem_cons.mpr ⟨lw_p57, List.forall_mem_cons.mpr ⟨lw_p58, List.forall_mem_cons.mpr ⟨lw_p59, List.forall_mem_cons.mpr ⟨lw_p60, List.forall_mem_cons.mpr ⟨lw_p61, List.forall_mem_cons.mpr ⟨lw_p62, List.forall_mem_cons.mpr ⟨lw_p63, fun _ h => absurd h List.not_mem_nil⟩⟩⟩⟩⟩⟩⟩⟩⟩⟩⟩⟩⟩⟩⟩⟩
theorem lw_p64 : lw_okq (⟨"PlaitBenchModel", "isInTurn", "(III)Z"⟩, 45) := ⟨⟨by decide +kernel, by decide +kernel⟩, List.mem_of_getElem? (i := 749) (by decide +kernel), List.mem_of_getElem? (i := 1034) (by decide +kernel), List.mem_of_getElem? (i := 1035) (by decide +kernel)⟩
theorem lw_p65 : lw_okq (⟨"PlaitBenchModel", "levels", "(I)I"⟩, 45) := ⟨⟨by decide +kernel, by decide +kernel⟩, List.mem_of_getElem? (i := 749) (by decide +kernel), List.mem_of_getElem? (i := 1038) (by decide +kernel), List.mem_of_getElem? (i := 1039) (by decide +kernel)⟩
theorem lw_p66 : lw_okq (⟨"PlaitBenchModel", "isPlace", "(II)Z"⟩, 45) := ⟨⟨by decide +kernel, by decide +kernel⟩, List.mem_of_getElem? (i := 749) (by decide +kernel), List.mem_of_getElem? (i := 1046) (by decide +kernel), List.mem_of_getElem? (i := 1047) (by decide +kernel)⟩
theorem lw_p67 : lw_okq (⟨"PlaitBenchModel", "useOf", "(II)I"⟩, 45) := ⟨⟨by decide +kernel, by decide +kernel⟩, List.mem_of_getElem? (i := 749) (by decide +kernel), List.mem_of_getElem? (i := 1058) (by decide +kernel), List.mem_of_getElem? (i := 1059) (by decide +kernel)⟩
def lw_privs_5 : List (MethodName × Nat) := [(⟨"PlaitBenchModel", "isInTurn", "(III)Z"⟩, 45), (⟨"PlaitBenchModel", "levels", "(I)I"⟩, 45), (⟨"PlaitBenchModel", "isPlace", "(II)Z"⟩, 45), (⟨"PlaitBenchModel", "useOf", "(II)I"⟩, 45)]
theorem lw_r5 : ∀ q ∈ lw_privs_5, lw_okq q := List.forall_mem_cons.mpr ⟨lw_p64, List.forall_mem_cons.mpr ⟨lw_p65, List.forall_mem_cons.mpr ⟨lw_p66, List.forall_mem_cons.mpr ⟨lw_p67, fun _ h => absurd h List.not_mem_nil⟩⟩⟩⟩
def lw_privs : List (MethodName × Nat) := lw_privs_1 ++ (lw_privs_2 ++ (lw_privs_3 ++ (lw_privs_4 ++ (lw_privs_5))))
def lw_tbl : List Cond := k2_sels lw_privs ++ tables_1
theorem lw_privs_ok : ∀ q ∈ lw_privs, lw_okq q := by
  show ∀ q ∈ lw_privs_1 ++ (lw_privs_2 ++ (lw_privs_3 ++ (lw_privs_4 ++ (lw_privs_5)))), lw_okq q
  exact List.forall_mem_append.mpr ⟨lw_r1, List.forall_mem_append.mpr ⟨lw_r2, List.forall_mem_append.mpr ⟨lw_r3, List.forall_mem_append.mpr ⟨lw_r4, lw_r5⟩⟩⟩⟩
end
section
def RX0 : String := "PlaitBench$Bundle"
def TX0 : u_T := fun k => match k with
  | 0 => ("PlaitBench$Bundle", "field", "I", true)
  | 1 => ("PlaitBench$Bundle", "width", "I", true)
  | _ => ("PlaitBench$Bundle", "strawsLeft", "I", false)
def tyX0 : Nat → FieldType := fun k => match k with
  | 0 => .int
  | 1 => .int
  | _ => .int
abbrev wsX00 : List Cond := u_ws RX0 TX0 3
theorem nmX0 : ∀ a, a < 3 → ∀ b, b < 3 → a ≠ b → (TX0 a).2.1 ≠ (TX0 b).2.1 := by decide +kernel
theorem tyX0_ok : ∀ k, k < 3 → parseFieldDescriptor (TX0 k).2.2.1 = some (tyX0 k) := by decide +kernel
abbrev cX0_init : ByteArray := prog_2_method_1_code
def yX0_init : MethodName := ⟨RX0, "<init>", "(III)V"⟩
def RX1 : String := "PlaitBench$Form"
def TX1 : u_T := fun k => match k with
  | 0 => ("PlaitBench$Form", "power", "I", false)
  | 1 => ("PlaitBench$Form", "factors", "[I", true)
  | 2 => ("PlaitBench$Form", "head", "I", false)
  | 3 => ("PlaitBench$Form", "tail", "I", false)
  | 4 => ("PlaitBench$Form", "straws", "I", false)
  | 5 => ("PlaitBench$Form", "whole", "I", false)
  | 6 => ("PlaitBench$Form", "empty", "I", false)
  | 7 => ("PlaitBench$Form", "comesFrom", "[I", true)
  | _ => ("PlaitBench$Form", "goesTo", "[I", true)
def tyX1 : Nat → FieldType := fun k => match k with
  | 0 => .int
  | 1 => .array .int
  | 2 => .int
  | 3 => .int
  | 4 => .int
  | 5 => .int
  | 6 => .int
  | 7 => .array .int
  | _ => .array .int
abbrev wsX10 : List Cond := u_ws RX1 TX1 9
theorem nmX1 : ∀ a, a < 9 → ∀ b, b < 9 → a ≠ b → (TX1 a).2.1 ≠ (TX1 b).2.1 := by decide +kernel
theorem tyX1_ok : ∀ k, k < 9 → parseFieldDescriptor (TX1 k).2.2.1 = some (tyX1 k) := by decide +kernel
abbrev cX1_init : ByteArray := prog_3_method_1_code
def yX1_init : MethodName := ⟨RX1, "<init>", "(I)V"⟩
abbrev cX1_clear : ByteArray := prog_3_method_2_code
def yX1_clear : MethodName := ⟨RX1, "clear", "(I)V"⟩
abbrev cX1_factorCount : ByteArray := prog_3_method_3_code
def yX1_factorCount : MethodName := ⟨RX1, "factorCount", "()I"⟩
abbrev cX1_factorAt : ByteArray := prog_3_method_4_code
def yX1_factorAt : MethodName := ⟨RX1, "factorAt", "(I)I"⟩
abbrev cX1_isEvenPowerAlone : ByteArray := prog_3_method_5_code
def yX1_isEvenPowerAlone : MethodName := ⟨RX1, "isEvenPowerAlone", "()Z"⟩
abbrev cX1_isSameAs : ByteArray := prog_3_method_6_code
def yX1_isSameAs : MethodName := ⟨RX1, "isSameAs", "(LPlaitBench$Form;)Z"⟩
abbrev cX1_make : ByteArray := prog_3_method_7_code
def yX1_make : MethodName := ⟨RX1, "make", "([II)V"⟩
abbrev cX1_append : ByteArray := prog_3_method_8_code
def yX1_append : MethodName := ⟨RX1, "append", "(I)V"⟩
abbrev cX1_slideToFront : ByteArray := prog_3_method_9_code
def yX1_slideToFront : MethodName := ⟨RX1, "slideToFront", "(I)Z"⟩
abbrev cX1_changeNeighbours : ByteArray := prog_3_method_10_code
def yX1_changeNeighbours : MethodName := ⟨RX1, "changeNeighbours", "([II)V"⟩
abbrev cX1_turnFactors : ByteArray := prog_3_method_11_code
def yX1_turnFactors : MethodName := ⟨RX1, "turnFactors", "()V"⟩
abbrev cX1_withNumbersChanged : ByteArray := prog_3_method_12_code
def yX1_withNumbersChanged : MethodName := ⟨RX1, "withNumbersChanged", "(II)I"⟩
abbrev cX1_packed : ByteArray := prog_3_method_13_code
def yX1_packed : MethodName := ⟨RX1, "packed", "(II)I"⟩
abbrev cX1_unpack : ByteArray := prog_3_method_14_code
def yX1_unpack : MethodName := ⟨RX1, "unpack", "(I)V"⟩
abbrev cX1_unpackInverse : ByteArray := prog_3_method_15_code
def yX1_unpackInverse : MethodName := ⟨RX1, "unpackInverse", "(I)V"⟩
abbrev cX1_pack : ByteArray := prog_3_method_16_code
def yX1_pack : MethodName := ⟨RX1, "pack", "()I"⟩
abbrev cX1_packInverse : ByteArray := prog_3_method_17_code
def yX1_packInverse : MethodName := ⟨RX1, "packInverse", "()I"⟩
def RX2 : String := "PlaitBench$Hat"
def TX2 : u_T := fun k => match k with
  | 0 => ("PlaitBench$Hat", "length", "I", true)
  | 1 => ("PlaitBench$Hat", "turns", "I", true)
  | 2 => ("PlaitBench$Hat", "fields", "I", false)
  | _ => ("PlaitBench$Hat", "scoreBits", "I", false)
def tyX2 : Nat → FieldType := fun k => match k with
  | 0 => .int
  | 1 => .int
  | 2 => .int
  | _ => .int
abbrev wsX20 : List Cond := u_ws RX2 TX2 4
theorem nmX2 : ∀ a, a < 4 → ∀ b, b < 4 → a ≠ b → (TX2 a).2.1 ≠ (TX2 b).2.1 := by decide +kernel
theorem tyX2_ok : ∀ k, k < 4 → parseFieldDescriptor (TX2 k).2.2.1 = some (tyX2 k) := by decide +kernel
abbrev cX2_init : ByteArray := prog_4_method_1_code
def yX2_init : MethodName := ⟨RX2, "<init>", "(II)V"⟩
def RX3 : String := "PlaitBench$Pattern"
def TX3 : u_T := fun k => match k with
  | 0 => ("PlaitBench$Pattern", "row", "[I", true)
  | 1 => ("PlaitBench$Pattern", "ends", "[I", true)
  | 2 => ("PlaitBench$Pattern", "length", "I", false)
  | 3 => ("PlaitBench$Pattern", "straws", "I", false)
  | 4 => ("PlaitBench$Pattern", "levels", "I", false)
  | 5 => ("PlaitBench$Pattern", "home", "I", false)
  | 6 => ("PlaitBench$Pattern", "rings", "I", false)
  | 7 => ("PlaitBench$Pattern", "holds", "Z", false)
  | 8 => ("PlaitBench$Pattern", "lying", "[I", true)
  | 9 => ("PlaitBench$Pattern", "levelAt", "[I", true)
  | 10 => ("PlaitBench$Pattern", "overs", "[I", true)
  | 11 => ("PlaitBench$Pattern", "firstSide", "[I", true)
  | 12 => ("PlaitBench$Pattern", "lastSide", "[I", true)
  | 13 => ("PlaitBench$Pattern", "twines", "[[I", true)
  | 14 => ("PlaitBench$Pattern", "inTurn", "Z", false)
  | 15 => ("PlaitBench$Pattern", "ownForm", "LPlaitBench$Form;", true)
  | 16 => ("PlaitBench$Pattern", "formed", "Z", false)
  | _ => ("PlaitBench$Pattern", "untwining", "I", false)
def tyX3 : Nat → FieldType := fun k => match k with
  | 0 => .array .int
  | 1 => .array .int
  | 2 => .int
  | 3 => .int
  | 4 => .int
  | 5 => .int
  | 6 => .int
  | 7 => .boolean
  | 8 => .array .int
  | 9 => .array .int
  | 10 => .array .int
  | 11 => .array .int
  | 12 => .array .int
  | 13 => .array (.array .int)
  | 14 => .boolean
  | 15 => .object "PlaitBench$Form"
  | 16 => .boolean
  | _ => .int
abbrev wsX30 : List Cond := u_ws RX3 TX3 18
theorem nmX3 : ∀ a, a < 18 → ∀ b, b < 18 → a ≠ b → (TX3 a).2.1 ≠ (TX3 b).2.1 := by decide +kernel
theorem tyX3_ok : ∀ k, k < 18 → parseFieldDescriptor (TX3 k).2.2.1 = some (tyX3 k) := by decide +kernel
abbrev cX3_init : ByteArray := prog_5_method_1_code
def yX3_init : MethodName := ⟨RX3, "<init>", "()V"⟩
abbrev cX3_become : ByteArray := prog_5_method_2_code
def yX3_become : MethodName := ⟨RX3, "become", "(I[II)V"⟩
abbrev cX3_hasPlace : ByteArray := prog_5_method_3_code
def yX3_hasPlace : MethodName := ⟨RX3, "hasPlace", "(I)Z"⟩
abbrev cX3_useFrom : ByteArray := prog_5_method_4_code
def yX3_useFrom : MethodName := ⟨RX3, "useFrom", "(I)I"⟩
abbrev cX3_strawsNeeded : ByteArray := prog_5_method_5_code
def yX3_strawsNeeded : MethodName := ⟨RX3, "strawsNeeded", "(I)I"⟩
abbrev cX3_twineOf : ByteArray := prog_5_method_6_code
def yX3_twineOf : MethodName := ⟨RX3, "twineOf", "(II)I"⟩
abbrev cX3_form : ByteArray := prog_5_method_7_code
def yX3_form : MethodName := ⟨RX3, "form", "()LPlaitBench$Form;"⟩
abbrev cX3_timesToUntwine : ByteArray := prog_5_method_8_code
def yX3_timesToUntwine : MethodName := ⟨RX3, "timesToUntwine", "(LPlaitBench$Form;)I"⟩
abbrev cX3_clearTraces : ByteArray := prog_5_method_9_code
def yX3_clearTraces : MethodName := ⟨RX3, "clearTraces", "()V"⟩
abbrev cX3_cross : ByteArray := prog_5_method_10_code
def yX3_cross : MethodName := ⟨RX3, "cross", "(I)V"⟩
abbrev cX3_lieAt : ByteArray := prog_5_method_11_code
def yX3_lieAt : MethodName := ⟨RX3, "lieAt", "(II)V"⟩
abbrev cX3_hasAllNumbers : ByteArray := prog_5_method_12_code
def yX3_hasAllNumbers : MethodName := ⟨RX3, "hasAllNumbers", "()Z"⟩
abbrev cX3_goesOnInTurn : ByteArray := prog_5_method_13_code
def yX3_goesOnInTurn : MethodName := ⟨RX3, "goesOnInTurn", "()Z"⟩
abbrev cX3_walkRings : ByteArray := prog_5_method_14_code
def yX3_walkRings : MethodName := ⟨RX3, "walkRings", "()V"⟩
abbrev cX3_leastCommonMultiple : ByteArray := prog_5_method_15_code
def yX3_leastCommonMultiple : MethodName := ⟨RX3, "leastCommonMultiple", "(II)I"⟩
def RX4 : String := "PlaitBench$Reader"
def TX4 : u_T := fun k => match k with
  | 0 => ("PlaitBench$Reader", "row", "[I", true)
  | 1 => ("PlaitBench$Reader", "length", "I", false)
  | 2 => ("PlaitBench$Reader", "faultKind", "I", false)
  | 3 => ("PlaitBench$Reader", "faultPlace", "I", false)
  | 4 => ("PlaitBench$Reader", "openedWith", "[I", true)
  | 5 => ("PlaitBench$Reader", "openedAt", "[I", true)
  | 6 => ("PlaitBench$Reader", "depth", "I", false)
  | 7 => ("PlaitBench$Reader", "text", "[B", true)
  | 8 => ("PlaitBench$Reader", "known", "[LPlaitBench$Pattern;", true)
  | 9 => ("PlaitBench$Reader", "end", "I", false)
  | 10 => ("PlaitBench$Reader", "at", "I", false)
  | _ => ("PlaitBench$Reader", "straws", "I", false)
def tyX4 : Nat → FieldType := fun k => match k with
  | 0 => .array .int
  | 1 => .int
  | 2 => .int
  | 3 => .int
  | 4 => .array .int
  | 5 => .array .int
  | 6 => .int
  | 7 => .array .byte
  | 8 => .array (.object "PlaitBench$Pattern")
  | 9 => .int
  | 10 => .int
  | _ => .int
abbrev wsX40 : List Cond := u_ws RX4 TX4 12
theorem nmX4 : ∀ a, a < 12 → ∀ b, b < 12 → a ≠ b → (TX4 a).2.1 ≠ (TX4 b).2.1 := by decide +kernel
theorem tyX4_ok : ∀ k, k < 12 → parseFieldDescriptor (TX4 k).2.2.1 = some (tyX4 k) := by decide +kernel
abbrev cX4_init : ByteArray := prog_6_method_1_code
def yX4_init : MethodName := ⟨RX4, "<init>", "([B[LPlaitBench$Pattern;)V"⟩
abbrev cX4_read : ByteArray := prog_6_method_2_code
def yX4_read : MethodName := ⟨RX4, "read", "(II)V"⟩
abbrev cX4_readItems : ByteArray := prog_6_method_3_code
def yX4_readItems : MethodName := ⟨RX4, "readItems", "()V"⟩
abbrev cX4_readItem : ByteArray := prog_6_method_4_code
def yX4_readItem : MethodName := ⟨RX4, "readItem", "(I)V"⟩
abbrev cX4_readNumbered : ByteArray := prog_6_method_5_code
def yX4_readNumbered : MethodName := ⟨RX4, "readNumbered", "()V"⟩
abbrev cX4_addCrossing : ByteArray := prog_6_method_6_code
def yX4_addCrossing : MethodName := ⟨RX4, "addCrossing", "(III)V"⟩
abbrev cX4_readCopy : ByteArray := prog_6_method_7_code
def yX4_readCopy : MethodName := ⟨RX4, "readCopy", "()V"⟩
abbrev cX4_addCopy : ByteArray := prog_6_method_8_code
def yX4_addCopy : MethodName := ⟨RX4, "addCopy", "(LPlaitBench$Pattern;I)V"⟩
abbrev cX4_readLettered : ByteArray := prog_6_method_9_code
def yX4_readLettered : MethodName := ⟨RX4, "readLettered", "(I)V"⟩
abbrev cX4_openBracket : ByteArray := prog_6_method_10_code
def yX4_openBracket : MethodName := ⟨RX4, "openBracket", "(I)V"⟩
abbrev cX4_closeBracket : ByteArray := prog_6_method_11_code
def yX4_closeBracket : MethodName := ⟨RX4, "closeBracket", "()V"⟩
abbrev cX4_repeat : ByteArray := prog_6_method_12_code
def yX4_repeat : MethodName := ⟨RX4, "repeat", "(II)V"⟩
abbrev cX4_undo : ByteArray := prog_6_method_13_code
def yX4_undo : MethodName := ⟨RX4, "undo", "(I)V"⟩
abbrev cX4_mirror : ByteArray := prog_6_method_14_code
def yX4_mirror : MethodName := ⟨RX4, "mirror", "(I)V"⟩
abbrev cX4_turn : ByteArray := prog_6_method_15_code
def yX4_turn : MethodName := ⟨RX4, "turn", "(I)V"⟩
abbrev cX4_readNumber : ByteArray := prog_6_method_16_code
def yX4_readNumber : MethodName := ⟨RX4, "readNumber", "()I"⟩
abbrev cX4_nextSign : ByteArray := prog_6_method_17_code
def yX4_nextSign : MethodName := ⟨RX4, "nextSign", "()I"⟩
abbrev cX4_isDigit : ByteArray := prog_6_method_18_code
def yX4_isDigit : MethodName := ⟨RX4, "isDigit", "(I)Z"⟩
abbrev cX4_refuse : ByteArray := prog_6_method_19_code
def yX4_refuse : MethodName := ⟨RX4, "refuse", "(II)V"⟩
def RX5 : String := "PlaitBench$Score"
def TX5 : u_T := fun k => match k with
  | 0 => ("PlaitBench$Score", "width", "I", true)
  | 1 => ("PlaitBench$Score", "length", "I", true)
  | 2 => ("PlaitBench$Score", "fields", "I", true)
  | 3 => ("PlaitBench$Score", "strawsTaken", "I", true)
  | _ => ("PlaitBench$Score", "lengthLeft", "I", false)
def tyX5 : Nat → FieldType := fun k => match k with
  | 0 => .int
  | 1 => .int
  | 2 => .int
  | 3 => .int
  | _ => .int
abbrev wsX50 : List Cond := u_ws RX5 TX5 5
theorem nmX5 : ∀ a, a < 5 → ∀ b, b < 5 → a ≠ b → (TX5 a).2.1 ≠ (TX5 b).2.1 := by decide +kernel
theorem tyX5_ok : ∀ k, k < 5 → parseFieldDescriptor (TX5 k).2.2.1 = some (tyX5 k) := by decide +kernel
abbrev cX5_init : ByteArray := prog_7_method_1_code
def yX5_init : MethodName := ⟨RX5, "<init>", "(IIII)V"⟩
def RX6 : String := "PlaitBench"
def TX6 : u_T := fun k => match k with
  | 0 => ("PlaitBench", "tape", "[B", true)
  | 1 => ("PlaitBench", "taped", "I", false)
  | 2 => ("PlaitBench", "patterns", "[LPlaitBench$Pattern;", true)
  | 3 => ("PlaitBench", "reader", "LPlaitBench$Reader;", true)
  | 4 => ("PlaitBench", "repeated", "LPlaitBench$Form;", true)
  | 5 => ("PlaitBench", "bundles", "[LPlaitBench$Bundle;", true)
  | 6 => ("PlaitBench", "bundleCount", "I", false)
  | 7 => ("PlaitBench", "scores", "[LPlaitBench$Score;", true)
  | 8 => ("PlaitBench", "scoreCount", "I", false)
  | 9 => ("PlaitBench", "hats", "[LPlaitBench$Hat;", true)
  | _ => ("PlaitBench", "hatCount", "I", false)
def tyX6 : Nat → FieldType := fun k => match k with
  | 0 => .array .byte
  | 1 => .int
  | 2 => .array (.object "PlaitBench$Pattern")
  | 3 => .object "PlaitBench$Reader"
  | 4 => .object "PlaitBench$Form"
  | 5 => .array (.object "PlaitBench$Bundle")
  | 6 => .int
  | 7 => .array (.object "PlaitBench$Score")
  | 8 => .int
  | 9 => .array (.object "PlaitBench$Hat")
  | _ => .int
abbrev wsX60 : List Cond := u_ws RX6 TX6 11
theorem nmX6 : ∀ a, a < 11 → ∀ b, b < 11 → a ≠ b → (TX6 a).2.1 ≠ (TX6 b).2.1 := by decide +kernel
theorem tyX6_ok : ∀ k, k < 11 → parseFieldDescriptor (TX6 k).2.2.1 = some (tyX6 k) := by decide +kernel
abbrev cX6_init : ByteArray := prog_1_method_1_code
def yX6_init : MethodName := ⟨RX6, "<init>", "()V"⟩
abbrev cX6_feed : ByteArray := prog_1_method_2_code
def yX6_feed : MethodName := ⟨RX6, "feed", "(IIIII)I"⟩
abbrev cX6_pattern : ByteArray := prog_1_method_3_code
def yX6_pattern : MethodName := ⟨RX6, "pattern", "(III)I"⟩
abbrev cX6_fault : ByteArray := prog_1_method_4_code
def yX6_fault : MethodName := ⟨RX6, "fault", "(I)I"⟩
abbrev cX6_size : ByteArray := prog_1_method_5_code
def yX6_size : MethodName := ⟨RX6, "size", "(I)I"⟩
abbrev cX6_crossing : ByteArray := prog_1_method_6_code
def yX6_crossing : MethodName := ⟨RX6, "crossing", "(II)I"⟩
abbrev cX6_about : ByteArray := prog_1_method_7_code
def yX6_about : MethodName := ⟨RX6, "about", "(II)I"⟩
abbrev cX6_factor : ByteArray := prog_1_method_8_code
def yX6_factor : MethodName := ⟨RX6, "factor", "(II)I"⟩
abbrev cX6_alike : ByteArray := prog_1_method_9_code
def yX6_alike : MethodName := ⟨RX6, "alike", "(II)Z"⟩
abbrev cX6_untwined : ByteArray := prog_1_method_10_code
def yX6_untwined : MethodName := ⟨RX6, "untwined", "(I)I"⟩
abbrev cX6_goes : ByteArray := prog_1_method_11_code
def yX6_goes : MethodName := ⟨RX6, "goes", "(II)I"⟩
abbrev cX6_twine : ByteArray := prog_1_method_12_code
def yX6_twine : MethodName := ⟨RX6, "twine", "(III)I"⟩
abbrev cX6_use : ByteArray := prog_1_method_13_code
def yX6_use : MethodName := ⟨RX6, "use", "(II)I"⟩
abbrev cX6_bundle : ByteArray := prog_1_method_14_code
def yX6_bundle : MethodName := ⟨RX6, "bundle", "(III)I"⟩
abbrev cX6_left : ByteArray := prog_1_method_15_code
def yX6_left : MethodName := ⟨RX6, "left", "(I)I"⟩
abbrev cX6_score : ByteArray := prog_1_method_16_code
def yX6_score : MethodName := ⟨RX6, "score", "(III)I"⟩
abbrev cX6_scored : ByteArray := prog_1_method_17_code
def yX6_scored : MethodName := ⟨RX6, "scored", "(II)I"⟩
abbrev cX6_hat : ByteArray := prog_1_method_18_code
def yX6_hat : MethodName := ⟨RX6, "hat", "(II)I"⟩
abbrev cX6_sewn : ByteArray := prog_1_method_19_code
def yX6_sewn : MethodName := ⟨RX6, "sewn", "(II)I"⟩
abbrev cX6_count : ByteArray := prog_1_method_20_code
def yX6_count : MethodName := ⟨RX6, "count", "(I)I"⟩
abbrev cX6_tapeBytes : ByteArray := prog_1_method_21_code
def yX6_tapeBytes : MethodName := ⟨RX6, "tapeBytes", "(I)V"⟩
abbrev cX6_patternOrNull : ByteArray := prog_1_method_22_code
def yX6_patternOrNull : MethodName := ⟨RX6, "patternOrNull", "(I)LPlaitBench$Pattern;"⟩
abbrev cX6_knownPattern : ByteArray := prog_1_method_23_code
def yX6_knownPattern : MethodName := ⟨RX6, "knownPattern", "(I)LPlaitBench$Pattern;"⟩
abbrev cX6_isWidth : ByteArray := prog_1_method_24_code
def yX6_isWidth : MethodName := ⟨RX6, "isWidth", "(I)Z"⟩
abbrev cX6_strawsLeftOfAll : ByteArray := prog_1_method_25_code
def yX6_strawsLeftOfAll : MethodName := ⟨RX6, "strawsLeftOfAll", "()I"⟩
abbrev cX6_strawsLeftOf : ByteArray := prog_1_method_26_code
def yX6_strawsLeftOf : MethodName := ⟨RX6, "strawsLeftOf", "(I)I"⟩
abbrev cX6_takeStraws : ByteArray := prog_1_method_27_code
def yX6_takeStraws : MethodName := ⟨RX6, "takeStraws", "(II)I"⟩
abbrev cX6_lengthLeftOf : ByteArray := prog_1_method_28_code
def yX6_lengthLeftOf : MethodName := ⟨RX6, "lengthLeftOf", "(I)I"⟩
abbrev cX6_lengthOfTurns : ByteArray := prog_1_method_29_code
def yX6_lengthOfTurns : MethodName := ⟨RX6, "lengthOfTurns", "(II)I"⟩
abbrev cX6_sewFromScores : ByteArray := prog_1_method_30_code
def yX6_sewFromScores : MethodName := ⟨RX6, "sewFromScores", "(LPlaitBench$Hat;I)V"⟩
def RX7 : String := "PlaitBenchModel"
def TX7 : u_T := fun k => match k with
  | 0 => ("PlaitBenchModel", "thrown", "I", false)
  | 1 => ("PlaitBenchModel", "tape", "[I", true)
  | 2 => ("PlaitBenchModel", "taped", "I", false)
  | 3 => ("PlaitBenchModel", "faultKind", "I", false)
  | 4 => ("PlaitBenchModel", "faultPlace", "I", false)
  | 5 => ("PlaitBenchModel", "straws", "[I", true)
  | 6 => ("PlaitBenchModel", "sizes", "[I", true)
  | 7 => ("PlaitBenchModel", "rows", "[I", true)
  | 8 => ("PlaitBenchModel", "end", "I", false)
  | 9 => ("PlaitBenchModel", "at", "I", false)
  | 10 => ("PlaitBenchModel", "n", "I", false)
  | 11 => ("PlaitBenchModel", "made", "[I", true)
  | 12 => ("PlaitBenchModel", "many", "I", false)
  | 13 => ("PlaitBenchModel", "openKind", "[I", true)
  | 14 => ("PlaitBenchModel", "openFrom", "[I", true)
  | 15 => ("PlaitBenchModel", "deep", "I", false)
  | 16 => ("PlaitBenchModel", "numberAt", "I", false)
  | 17 => ("PlaitBenchModel", "digits", "I", false)
  | 18 => ("PlaitBenchModel", "perm", "[I", true)
  | 19 => ("PlaitBenchModel", "perms", "I", false)
  | 20 => ("PlaitBenchModel", "power", "I", false)
  | 21 => ("PlaitBenchModel", "back", "[I", true)
  | 22 => ("PlaitBenchModel", "kept", "[I", true)
  | 23 => ("PlaitBenchModel", "keptPerms", "I", false)
  | 24 => ("PlaitBenchModel", "keptPower", "I", false)
  | 25 => ("PlaitBenchModel", "who", "[I", true)
  | 26 => ("PlaitBenchModel", "place", "[I", true)
  | 27 => ("PlaitBenchModel", "level", "[I", true)
  | 28 => ("PlaitBenchModel", "bundles", "I", false)
  | 29 => ("PlaitBenchModel", "scores", "I", false)
  | 30 => ("PlaitBenchModel", "hats", "I", false)
  | 31 => ("PlaitBenchModel", "field", "[I", true)
  | 32 => ("PlaitBenchModel", "bundleWidth", "[I", true)
  | 33 => ("PlaitBenchModel", "leftOf", "[I", true)
  | 34 => ("PlaitBenchModel", "length", "[I", true)
  | 35 => ("PlaitBenchModel", "lengthLeft", "[I", true)
  | 36 => ("PlaitBenchModel", "scoreWidth", "[I", true)
  | 37 => ("PlaitBenchModel", "scoreFields", "[I", true)
  | 38 => ("PlaitBenchModel", "scoreStraws", "[I", true)
  | 39 => ("PlaitBenchModel", "hatLength", "[I", true)
  | 40 => ("PlaitBenchModel", "hatTurns", "[I", true)
  | 41 => ("PlaitBenchModel", "hatFields", "[I", true)
  | 42 => ("PlaitBenchModel", "hatScores", "[I", true)
  | 43 => ("PlaitBenchModel", "uses", "[I", true)
  | _ => ("PlaitBenchModel", "next", "[I", true)
def tyX7 : Nat → FieldType := fun k => match k with
  | 0 => .int
  | 1 => .array .int
  | 2 => .int
  | 3 => .int
  | 4 => .int
  | 5 => .array .int
  | 6 => .array .int
  | 7 => .array .int
  | 8 => .int
  | 9 => .int
  | 10 => .int
  | 11 => .array .int
  | 12 => .int
  | 13 => .array .int
  | 14 => .array .int
  | 15 => .int
  | 16 => .int
  | 17 => .int
  | 18 => .array .int
  | 19 => .int
  | 20 => .int
  | 21 => .array .int
  | 22 => .array .int
  | 23 => .int
  | 24 => .int
  | 25 => .array .int
  | 26 => .array .int
  | 27 => .array .int
  | 28 => .int
  | 29 => .int
  | 30 => .int
  | 31 => .array .int
  | 32 => .array .int
  | 33 => .array .int
  | 34 => .array .int
  | 35 => .array .int
  | 36 => .array .int
  | 37 => .array .int
  | 38 => .array .int
  | 39 => .array .int
  | 40 => .array .int
  | 41 => .array .int
  | 42 => .array .int
  | 43 => .array .int
  | _ => .array .int
abbrev wsX70 : List Cond := u_ws RX7 TX7 45
theorem nmX7 : ∀ a, a < 45 → ∀ b, b < 45 → a ≠ b → (TX7 a).2.1 ≠ (TX7 b).2.1 := by decide +kernel
theorem tyX7_ok : ∀ k, k < 45 → parseFieldDescriptor (TX7 k).2.2.1 = some (tyX7 k) := by decide +kernel
abbrev cX7_init : ByteArray := prog_9_method_1_code
def yX7_init : MethodName := ⟨RX7, "<init>", "()V"⟩
abbrev cX7_thrown : ByteArray := prog_9_method_2_code
def yX7_thrown : MethodName := ⟨RX7, "thrown", "()I"⟩
abbrev cX7_right : ByteArray := prog_9_method_3_code
def yX7_right : MethodName := ⟨RX7, "right", "(ZI)Z"⟩
abbrev cX7_feed : ByteArray := prog_9_method_4_code
def yX7_feed : MethodName := ⟨RX7, "feed", "(IIIII)I"⟩
abbrev cX7_lays : ByteArray := prog_9_method_5_code
def yX7_lays : MethodName := ⟨RX7, "lays", "(I)V"⟩
abbrev cX7_wrong : ByteArray := prog_9_method_6_code
def yX7_wrong : MethodName := ⟨RX7, "wrong", "(II)Z"⟩
abbrev cX7_skip : ByteArray := prog_9_method_7_code
def yX7_skip : MethodName := ⟨RX7, "skip", "()V"⟩
abbrev cX7_now : ByteArray := prog_9_method_8_code
def yX7_now : MethodName := ⟨RX7, "now", "()I"⟩
abbrev cX7_isDigit : ByteArray := prog_9_method_9_code
def yX7_isDigit : MethodName := ⟨RX7, "isDigit", "(I)Z"⟩
abbrev cX7_number : ByteArray := prog_9_method_10_code
def yX7_number : MethodName := ⟨RX7, "number", "()I"⟩
abbrev cX7_opens : ByteArray := prog_9_method_11_code
def yX7_opens : MethodName := ⟨RX7, "opens", "(I)Z"⟩
abbrev cX7_closes : ByteArray := prog_9_method_12_code
def yX7_closes : MethodName := ⟨RX7, "closes", "()Z"⟩
abbrev cX7_item : ByteArray := prog_9_method_13_code
def yX7_item : MethodName := ⟨RX7, "item", "()Z"⟩
abbrev cX7_pattern : ByteArray := prog_9_method_14_code
def yX7_pattern : MethodName := ⟨RX7, "pattern", "()Z"⟩
abbrev cX7_pattern_ : ByteArray := prog_9_method_15_code
def yX7_pattern_ : MethodName := ⟨RX7, "pattern", "(III)I"⟩
abbrev cX7_fault : ByteArray := prog_9_method_16_code
def yX7_fault : MethodName := ⟨RX7, "fault", "(I)I"⟩
abbrev cX7_isPattern : ByteArray := prog_9_method_17_code
def yX7_isPattern : MethodName := ⟨RX7, "isPattern", "(I)Z"⟩
abbrev cX7_size : ByteArray := prog_9_method_18_code
def yX7_size : MethodName := ⟨RX7, "size", "(I)I"⟩
abbrev cX7_crossing : ByteArray := prog_9_method_19_code
def yX7_crossing : MethodName := ⟨RX7, "crossing", "(II)I"⟩
abbrev cX7_get : ByteArray := prog_9_method_20_code
def yX7_get : MethodName := ⟨RX7, "get", "(II)I"⟩
abbrev cX7_from : ByteArray := prog_9_method_21_code
def yX7_from : MethodName := ⟨RX7, "from", "(II)I"⟩
abbrev cX7_behind : ByteArray := prog_9_method_22_code
def yX7_behind : MethodName := ⟨RX7, "behind", "(II)V"⟩
abbrev cX7_turns : ByteArray := prog_9_method_23_code
def yX7_turns : MethodName := ⟨RX7, "turns", "(II)V"⟩
abbrev cX7_isAll : ByteArray := prog_9_method_24_code
def yX7_isAll : MethodName := ⟨RX7, "isAll", "(II)Z"⟩
abbrev cX7_isNothing : ByteArray := prog_9_method_25_code
def yX7_isNothing : MethodName := ⟨RX7, "isNothing", "(II)Z"⟩
abbrev cX7_takes : ByteArray := prog_9_method_26_code
def yX7_takes : MethodName := ⟨RX7, "takes", "(II)Z"⟩
abbrev cX7_drops : ByteArray := prog_9_method_27_code
def yX7_drops : MethodName := ⟨RX7, "drops", "(I)V"⟩
abbrev cX7_form : ByteArray := prog_9_method_28_code
def yX7_form : MethodName := ⟨RX7, "form", "(II)V"⟩
abbrev cX7_coded : ByteArray := prog_9_method_29_code
def yX7_coded : MethodName := ⟨RX7, "coded", "(II)I"⟩
abbrev cX7_factor : ByteArray := prog_9_method_30_code
def yX7_factor : MethodName := ⟨RX7, "factor", "(II)I"⟩
abbrev cX7_alike : ByteArray := prog_9_method_31_code
def yX7_alike : MethodName := ⟨RX7, "alike", "(II)Z"⟩
abbrev cX7_untwined : ByteArray := prog_9_method_32_code
def yX7_untwined : MethodName := ⟨RX7, "untwined", "(I)I"⟩
abbrev cX7_goesTo : ByteArray := prog_9_method_33_code
def yX7_goesTo : MethodName := ⟨RX7, "goesTo", "(II)I"⟩
abbrev cX7_home : ByteArray := prog_9_method_34_code
def yX7_home : MethodName := ⟨RX7, "home", "(I)I"⟩
abbrev cX7_rings : ByteArray := prog_9_method_35_code
def yX7_rings : MethodName := ⟨RX7, "rings", "(I)I"⟩
abbrev cX7_isInTurn : ByteArray := prog_9_method_36_code
def yX7_isInTurn : MethodName := ⟨RX7, "isInTurn", "(III)Z"⟩
abbrev cX7_holds : ByteArray := prog_9_method_37_code
def yX7_holds : MethodName := ⟨RX7, "holds", "(I)Z"⟩
abbrev cX7_levels : ByteArray := prog_9_method_38_code
def yX7_levels : MethodName := ⟨RX7, "levels", "(I)I"⟩
abbrev cX7_useOf : ByteArray := prog_9_method_39_code
def yX7_useOf : MethodName := ⟨RX7, "useOf", "(II)I"⟩
abbrev cX7_about : ByteArray := prog_9_method_40_code
def yX7_about : MethodName := ⟨RX7, "about", "(II)I"⟩
abbrev cX7_isPlace : ByteArray := prog_9_method_41_code
def yX7_isPlace : MethodName := ⟨RX7, "isPlace", "(II)Z"⟩
abbrev cX7_goes : ByteArray := prog_9_method_42_code
def yX7_goes : MethodName := ⟨RX7, "goes", "(II)I"⟩
abbrev cX7_twine : ByteArray := prog_9_method_43_code
def yX7_twine : MethodName := ⟨RX7, "twine", "(III)I"⟩
abbrev cX7_use : ByteArray := prog_9_method_44_code
def yX7_use : MethodName := ⟨RX7, "use", "(II)I"⟩
abbrev cX7_bundle : ByteArray := prog_9_method_45_code
def yX7_bundle : MethodName := ⟨RX7, "bundle", "(III)I"⟩
abbrev cX7_left : ByteArray := prog_9_method_46_code
def yX7_left : MethodName := ⟨RX7, "left", "(I)I"⟩
abbrev cX7_score : ByteArray := prog_9_method_47_code
def yX7_score : MethodName := ⟨RX7, "score", "(III)I"⟩
abbrev cX7_scored : ByteArray := prog_9_method_48_code
def yX7_scored : MethodName := ⟨RX7, "scored", "(II)I"⟩
abbrev cX7_hat : ByteArray := prog_9_method_49_code
def yX7_hat : MethodName := ⟨RX7, "hat", "(II)I"⟩
abbrev cX7_sewn : ByteArray := prog_9_method_50_code
def yX7_sewn : MethodName := ⟨RX7, "sewn", "(II)I"⟩
abbrev cX7_count : ByteArray := prog_9_method_51_code
def yX7_count : MethodName := ⟨RX7, "count", "(I)I"⟩
def RJ9 : String := "java/lang/Math"
def TJ9 : u_T := fun k => match k with
  | _ => ("", "", "", false)
def tyJ9 : Nat → FieldType := fun k => match k with
  | _ => .int
abbrev wsJ90 : List Cond := u_ws RJ9 TJ9 0
theorem nmJ9 : ∀ a, a < 0 → ∀ b, b < 0 → a ≠ b → (TJ9 a).2.1 ≠ (TJ9 b).2.1 := by decide +kernel
theorem tyJ9_ok : ∀ k, k < 0 → parseFieldDescriptor (TJ9 k).2.2.1 = some (tyJ9 k) := by decide +kernel
abbrev cJ9_abs_0f7a4 : ByteArray := prog_12_method_59_code
def yJ9_abs_0f7a4 : MethodName := ⟨RJ9, "abs", "(I)I"⟩
abbrev cJ9_max_7cf53 : ByteArray := prog_12_method_65_code
def yJ9_max_7cf53 : MethodName := ⟨RJ9, "max", "(II)I"⟩
abbrev cJ9_min_7cf53 : ByteArray := prog_12_method_69_code
def yJ9_min_7cf53 : MethodName := ⟨RJ9, "min", "(II)I"⟩
def RJ0 : String := "java/lang/String"
def TJ0 : u_T := fun k => match k with
  | _ => ("", "", "", false)
def tyJ0 : Nat → FieldType := fun k => match k with
  | _ => .int
abbrev wsJ00 : List Cond := u_ws RJ0 TJ0 0
theorem nmJ0 : ∀ a, a < 0 → ∀ b, b < 0 → a ≠ b → (TJ0 a).2.1 ≠ (TJ0 b).2.1 := by decide +kernel
theorem tyJ0_ok : ∀ k, k < 0 → parseFieldDescriptor (TJ0 k).2.2.1 = some (tyJ0 k) := by decide +kernel
def RJ10 : String := "java/lang/System"
def TJ10 : u_T := fun k => match k with
  | _ => ("", "", "", false)
def tyJ10 : Nat → FieldType := fun k => match k with
  | _ => .int
abbrev wsJ100 : List Cond := u_ws RJ10 TJ10 0
theorem nmJ10 : ∀ a, a < 0 → ∀ b, b < 0 → a ≠ b → (TJ10 a).2.1 ≠ (TJ10 b).2.1 := by decide +kernel
theorem tyJ10_ok : ∀ k, k < 0 → parseFieldDescriptor (TJ10 k).2.2.1 = some (tyJ10 k) := by decide +kernel
def RL : String := "PlaitBenchLaw"
abbrev cL_pattern : ByteArray := method_3_code
def yL_pattern : MethodName := ⟨RL, "pattern", "(LPlaitBench;III[J)I"⟩
abbrev cL_fault : ByteArray := method_4_code
def yL_fault : MethodName := ⟨RL, "fault", "(LPlaitBench;I[J)I"⟩
abbrev cL_crossing : ByteArray := method_5_code
def yL_crossing : MethodName := ⟨RL, "crossing", "(LPlaitBench;II[J)I"⟩
abbrev cL_about : ByteArray := method_6_code
def yL_about : MethodName := ⟨RL, "about", "(LPlaitBench;II[J)I"⟩
abbrev cL_factor : ByteArray := method_7_code
def yL_factor : MethodName := ⟨RL, "factor", "(LPlaitBench;II[J)I"⟩
abbrev cL_alike : ByteArray := method_8_code
def yL_alike : MethodName := ⟨RL, "alike", "(LPlaitBench;II[J)I"⟩
abbrev cL_untwined : ByteArray := method_9_code
def yL_untwined : MethodName := ⟨RL, "untwined", "(LPlaitBench;I[J)I"⟩
abbrev cL_goes : ByteArray := method_10_code
def yL_goes : MethodName := ⟨RL, "goes", "(LPlaitBench;II[J)I"⟩
abbrev cL_twine : ByteArray := method_11_code
def yL_twine : MethodName := ⟨RL, "twine", "(LPlaitBench;III[J)I"⟩
abbrev cL_use : ByteArray := method_12_code
def yL_use : MethodName := ⟨RL, "use", "(LPlaitBench;II[J)I"⟩
abbrev cL_left : ByteArray := method_13_code
def yL_left : MethodName := ⟨RL, "left", "(LPlaitBench;I[J)I"⟩
abbrev cL_scored : ByteArray := method_14_code
def yL_scored : MethodName := ⟨RL, "scored", "(LPlaitBench;II[J)I"⟩
abbrev cL_sewn : ByteArray := method_15_code
def yL_sewn : MethodName := ⟨RL, "sewn", "(LPlaitBench;II[J)I"⟩
abbrev cL_count : ByteArray := method_16_code
def yL_count : MethodName := ⟨RL, "count", "(LPlaitBench;I[J)I"⟩
abbrev cL_law : ByteArray := code
def yL_law : MethodName := ⟨RL, "law", "([I)Z"⟩
abbrev vwCl : List vw_C := [(RX0, TX0, 3), (RX1, TX1, 9), (RX2, TX2, 4), (RX3, TX3, 18), (RX4, TX4, 12), (RX5, TX5, 5), (RX6, TX6, 11), (RX7, TX7, 45)]
end
section
theorem dX7_init_0 : decode cX7_init 0 = .ok (.aload_n 0, 1) := by decide +kernel
theorem dX7_init_1 : decode cX7_init 1 = .ok (.invokespecial 1, 3) := by decide +kernel
theorem dX7_init_4 : decode cX7_init 4 = .ok (.aload_n 0, 1) := by decide +kernel
theorem dX7_init_5 : decode cX7_init 5 = .ok (.sipush 800, 3) := by decide +kernel
theorem dX7_init_8 : decode cX7_init 8 = .ok (.newarray .int, 2) := by decide +kernel
theorem dX7_init_10 : decode cX7_init 10 = .ok (.putfield 7, 3) := by decide +kernel
theorem dX7_init_13 : decode cX7_init 13 = .ok (.aload_n 0, 1) := by decide +kernel
theorem dX7_init_14 : decode cX7_init 14 = .ok (.iconst (-1), 1) := by decide +kernel
theorem dX7_init_15 : decode cX7_init 15 = .ok (.putfield 13, 3) := by decide +kernel
theorem dX7_init_18 : decode cX7_init 18 = .ok (.aload_n 0, 1) := by decide +kernel
theorem dX7_init_19 : decode cX7_init 19 = .ok (.bipush 8, 2) := by decide +kernel
theorem dX7_init_21 : decode cX7_init 21 = .ok (.newarray .int, 2) := by decide +kernel
theorem dX7_init_23 : decode cX7_init 23 = .ok (.putfield 17, 3) := by decide +kernel
theorem dX7_init_26 : decode cX7_init 26 = .ok (.aload_n 0, 1) := by decide +kernel
theorem dX7_init_27 : decode cX7_init 27 = .ok (.bipush 8, 2) := by decide +kernel
theorem dX7_init_29 : decode cX7_init 29 = .ok (.newarray .int, 2) := by decide +kernel
theorem dX7_init_31 : decode cX7_init 31 = .ok (.putfield 20, 3) := by decide +kernel
theorem dX7_init_34 : decode cX7_init 34 = .ok (.aload_n 0, 1) := by decide +kernel
theorem dX7_init_35 : decode cX7_init 35 = .ok (.sipush 2400, 3) := by decide +kernel
theorem dX7_init_38 : decode cX7_init 38 = .ok (.newarray .int, 2) := by decide +kernel
theorem dX7_init_40 : decode cX7_init 40 = .ok (.putfield 23, 3) := by decide +kernel
theorem dX7_init_43 : decode cX7_init 43 = .ok (.aload_n 0, 1) := by decide +kernel
theorem dX7_init_44 : decode cX7_init 44 = .ok (.sipush 300, 3) := by decide +kernel
theorem dX7_init_47 : decode cX7_init 47 = .ok (.newarray .int, 2) := by decide +kernel
theorem dX7_init_49 : decode cX7_init 49 = .ok (.putfield 26, 3) := by decide +kernel
theorem dX7_init_52 : decode cX7_init 52 = .ok (.aload_n 0, 1) := by decide +kernel
theorem dX7_init_53 : decode cX7_init 53 = .ok (.bipush 9, 2) := by decide +kernel
theorem dX7_init_55 : decode cX7_init 55 = .ok (.newarray .int, 2) := by decide +kernel
theorem dX7_init_57 : decode cX7_init 57 = .ok (.putfield 29, 3) := by decide +kernel
theorem dX7_init_60 : decode cX7_init 60 = .ok (.aload_n 0, 1) := by decide +kernel
theorem dX7_init_61 : decode cX7_init 61 = .ok (.bipush 9, 2) := by decide +kernel
theorem dX7_init_63 : decode cX7_init 63 = .ok (.newarray .int, 2) := by decide +kernel
theorem dX7_init_65 : decode cX7_init 65 = .ok (.putfield 32, 3) := by decide +kernel
theorem dX7_init_68 : decode cX7_init 68 = .ok (.aload_n 0, 1) := by decide +kernel
theorem dX7_init_69 : decode cX7_init 69 = .ok (.sipush 4808, 3) := by decide +kernel
theorem dX7_init_72 : decode cX7_init 72 = .ok (.newarray .int, 2) := by decide +kernel
theorem dX7_init_74 : decode cX7_init 74 = .ok (.putfield 35, 3) := by decide +kernel
theorem dX7_init_77 : decode cX7_init 77 = .ok (.aload_n 0, 1) := by decide +kernel
theorem dX7_init_78 : decode cX7_init 78 = .ok (.bipush 8, 2) := by decide +kernel
theorem dX7_init_80 : decode cX7_init 80 = .ok (.newarray .int, 2) := by decide +kernel
theorem dX7_init_82 : decode cX7_init 82 = .ok (.putfield 38, 3) := by decide +kernel
theorem dX7_init_85 : decode cX7_init 85 = .ok (.aload_n 0, 1) := by decide +kernel
theorem dX7_init_86 : decode cX7_init 86 = .ok (.sipush 4808, 3) := by decide +kernel
theorem dX7_init_89 : decode cX7_init 89 = .ok (.newarray .int, 2) := by decide +kernel
theorem dX7_init_91 : decode cX7_init 91 = .ok (.putfield 41, 3) := by decide +kernel
theorem dX7_init_94 : decode cX7_init 94 = .ok (.aload_n 0, 1) := by decide +kernel
theorem dX7_init_95 : decode cX7_init 95 = .ok (.bipush 8, 2) := by decide +kernel
theorem dX7_init_97 : decode cX7_init 97 = .ok (.newarray .int, 2) := by decide +kernel
theorem dX7_init_99 : decode cX7_init 99 = .ok (.putfield 44, 3) := by decide +kernel
theorem dX7_init_102 : decode cX7_init 102 = .ok (.aload_n 0, 1) := by decide +kernel
theorem dX7_init_103 : decode cX7_init 103 = .ok (.bipush 8, 2) := by decide +kernel
theorem dX7_init_105 : decode cX7_init 105 = .ok (.newarray .int, 2) := by decide +kernel
theorem dX7_init_107 : decode cX7_init 107 = .ok (.putfield 47, 3) := by decide +kernel
theorem dX7_init_110 : decode cX7_init 110 = .ok (.aload_n 0, 1) := by decide +kernel
theorem dX7_init_111 : decode cX7_init 111 = .ok (.sipush 300, 3) := by decide +kernel
theorem dX7_init_114 : decode cX7_init 114 = .ok (.newarray .int, 2) := by decide +kernel
theorem dX7_init_116 : decode cX7_init 116 = .ok (.putfield 50, 3) := by decide +kernel
theorem dX7_init_119 : decode cX7_init 119 = .ok (.aload_n 0, 1) := by decide +kernel
theorem dX7_init_120 : decode cX7_init 120 = .ok (.bipush 40, 2) := by decide +kernel
theorem dX7_init_122 : decode cX7_init 122 = .ok (.newarray .int, 2) := by decide +kernel
theorem dX7_init_124 : decode cX7_init 124 = .ok (.putfield 53, 3) := by decide +kernel
theorem dX7_init_127 : decode cX7_init 127 = .ok (.aload_n 0, 1) := by decide +kernel
theorem dX7_init_128 : decode cX7_init 128 = .ok (.bipush 40, 2) := by decide +kernel
theorem dX7_init_130 : decode cX7_init 130 = .ok (.newarray .int, 2) := by decide +kernel
theorem dX7_init_132 : decode cX7_init 132 = .ok (.putfield 56, 3) := by decide +kernel
theorem dX7_init_135 : decode cX7_init 135 = .ok (.aload_n 0, 1) := by decide +kernel
theorem dX7_init_136 : decode cX7_init 136 = .ok (.bipush 40, 2) := by decide +kernel
theorem dX7_init_138 : decode cX7_init 138 = .ok (.newarray .int, 2) := by decide +kernel
theorem dX7_init_140 : decode cX7_init 140 = .ok (.putfield 59, 3) := by decide +kernel
theorem dX7_init_143 : decode cX7_init 143 = .ok (.aload_n 0, 1) := by decide +kernel
theorem dX7_init_144 : decode cX7_init 144 = .ok (.bipush 60, 2) := by decide +kernel
theorem dX7_init_146 : decode cX7_init 146 = .ok (.newarray .int, 2) := by decide +kernel
theorem dX7_init_148 : decode cX7_init 148 = .ok (.putfield 62, 3) := by decide +kernel
theorem dX7_init_151 : decode cX7_init 151 = .ok (.aload_n 0, 1) := by decide +kernel
theorem dX7_init_152 : decode cX7_init 152 = .ok (.bipush 60, 2) := by decide +kernel
theorem dX7_init_154 : decode cX7_init 154 = .ok (.newarray .int, 2) := by decide +kernel
theorem dX7_init_156 : decode cX7_init 156 = .ok (.putfield 65, 3) := by decide +kernel
theorem dX7_init_159 : decode cX7_init 159 = .ok (.aload_n 0, 1) := by decide +kernel
theorem dX7_init_160 : decode cX7_init 160 = .ok (.bipush 60, 2) := by decide +kernel
theorem dX7_init_162 : decode cX7_init 162 = .ok (.newarray .int, 2) := by decide +kernel
theorem dX7_init_164 : decode cX7_init 164 = .ok (.putfield 68, 3) := by decide +kernel
theorem dX7_init_167 : decode cX7_init 167 = .ok (.aload_n 0, 1) := by decide +kernel
theorem dX7_init_168 : decode cX7_init 168 = .ok (.bipush 60, 2) := by decide +kernel
theorem dX7_init_170 : decode cX7_init 170 = .ok (.newarray .int, 2) := by decide +kernel
theorem dX7_init_172 : decode cX7_init 172 = .ok (.putfield 71, 3) := by decide +kernel
theorem dX7_init_175 : decode cX7_init 175 = .ok (.aload_n 0, 1) := by decide +kernel
theorem dX7_init_176 : decode cX7_init 176 = .ok (.bipush 60, 2) := by decide +kernel
theorem dX7_init_178 : decode cX7_init 178 = .ok (.newarray .int, 2) := by decide +kernel
theorem dX7_init_180 : decode cX7_init 180 = .ok (.putfield 74, 3) := by decide +kernel
theorem dX7_init_183 : decode cX7_init 183 = .ok (.aload_n 0, 1) := by decide +kernel
theorem dX7_init_184 : decode cX7_init 184 = .ok (.bipush 60, 2) := by decide +kernel
theorem dX7_init_186 : decode cX7_init 186 = .ok (.newarray .int, 2) := by decide +kernel
theorem dX7_init_188 : decode cX7_init 188 = .ok (.putfield 77, 3) := by decide +kernel
theorem dX7_init_191 : decode cX7_init 191 = .ok (.aload_n 0, 1) := by decide +kernel
theorem dX7_init_192 : decode cX7_init 192 = .ok (.bipush 60, 2) := by decide +kernel
theorem dX7_init_194 : decode cX7_init 194 = .ok (.newarray .int, 2) := by decide +kernel
theorem dX7_init_196 : decode cX7_init 196 = .ok (.putfield 80, 3) := by decide +kernel
theorem dX7_init_199 : decode cX7_init 199 = .ok (.aload_n 0, 1) := by decide +kernel
theorem dX7_init_200 : decode cX7_init 200 = .ok (.bipush 60, 2) := by decide +kernel
theorem dX7_init_202 : decode cX7_init 202 = .ok (.newarray .int, 2) := by decide +kernel
theorem dX7_init_204 : decode cX7_init 204 = .ok (.putfield 83, 3) := by decide +kernel
theorem dX7_init_207 : decode cX7_init 207 = .ok (.aload_n 0, 1) := by decide +kernel
theorem dX7_init_208 : decode cX7_init 208 = .ok (.bipush 60, 2) := by decide +kernel
theorem dX7_init_210 : decode cX7_init 210 = .ok (.newarray .int, 2) := by decide +kernel
theorem dX7_init_212 : decode cX7_init 212 = .ok (.putfield 86, 3) := by decide +kernel
theorem dX7_init_215 : decode cX7_init 215 = .ok (.aload_n 0, 1) := by decide +kernel
theorem dX7_init_216 : decode cX7_init 216 = .ok (.bipush 8, 2) := by decide +kernel
theorem dX7_init_218 : decode cX7_init 218 = .ok (.newarray .int, 2) := by decide +kernel
theorem dX7_init_220 : decode cX7_init 220 = .ok (.putfield 89, 3) := by decide +kernel
theorem dX7_init_223 : decode cX7_init 223 = .ok (.aload_n 0, 1) := by decide +kernel
theorem dX7_init_224 : decode cX7_init 224 = .ok (.bipush 8, 2) := by decide +kernel
theorem dX7_init_226 : decode cX7_init 226 = .ok (.newarray .int, 2) := by decide +kernel
theorem dX7_init_228 : decode cX7_init 228 = .ok (.putfield 92, 3) := by decide +kernel
theorem dX7_init_231 : decode cX7_init 231 = .ok (.return_, 1) := by decide +kernel
theorem dX7_thrown_0 : decode cX7_thrown 0 = .ok (.aload_n 0, 1) := by decide +kernel
theorem dX7_thrown_1 : decode cX7_thrown 1 = .ok (.getfield 95, 3) := by decide +kernel
theorem dX7_thrown_4 : decode cX7_thrown 4 = .ok (.ireturn, 1) := by decide +kernel
theorem dX7_right_0 : decode cX7_right 0 = .ok (.aload_n 0, 1) := by decide +kernel
theorem dX7_right_1 : decode cX7_right 1 = .ok (.getfield 95, 3) := by decide +kernel
theorem dX7_right_4 : decode cX7_right 4 = .ok (.ifCond .ne 12, 3) := by decide +kernel
theorem dX7_right_7 : decode cX7_right 7 = .ok (.iload_n 1, 1) := by decide +kernel
theorem dX7_right_8 : decode cX7_right 8 = .ok (.ifCond .ne 8, 3) := by decide +kernel
theorem dX7_right_11 : decode cX7_right 11 = .ok (.aload_n 0, 1) := by decide +kernel
theorem dX7_right_12 : decode cX7_right 12 = .ok (.iload_n 2, 1) := by decide +kernel
theorem dX7_right_13 : decode cX7_right 13 = .ok (.putfield 95, 3) := by decide +kernel
theorem dX7_right_16 : decode cX7_right 16 = .ok (.aload_n 0, 1) := by decide +kernel
theorem dX7_right_17 : decode cX7_right 17 = .ok (.getfield 95, 3) := by decide +kernel
theorem dX7_right_20 : decode cX7_right 20 = .ok (.ifCond .ne 7, 3) := by decide +kernel
theorem dX7_right_23 : decode cX7_right 23 = .ok (.iconst 1, 1) := by decide +kernel
theorem dX7_right_24 : decode cX7_right 24 = .ok (.goto 4, 3) := by decide +kernel
theorem dX7_right_27 : decode cX7_right 27 = .ok (.iconst 0, 1) := by decide +kernel
theorem dX7_right_28 : decode cX7_right 28 = .ok (.ireturn, 1) := by decide +kernel
theorem dX7_feed_0 : decode cX7_feed 0 = .ok (.aload_n 0, 1) := by decide +kernel
theorem dX7_feed_1 : decode cX7_feed 1 = .ok (.iconst 0, 1) := by decide +kernel
theorem dX7_feed_2 : decode cX7_feed 2 = .ok (.putfield 95, 3) := by decide +kernel
theorem dX7_feed_5 : decode cX7_feed 5 = .ok (.aload_n 0, 1) := by decide +kernel
theorem dX7_feed_6 : decode cX7_feed 6 = .ok (.getfield 98, 3) := by decide +kernel
theorem dX7_feed_9 : decode cX7_feed 9 = .ok (.bipush 20, 2) := by decide +kernel
theorem dX7_feed_11 : decode cX7_feed 11 = .ok (.iadd, 1) := by decide +kernel
theorem dX7_feed_12 : decode cX7_feed 12 = .ok (.sipush 800, 3) := by decide +kernel
theorem dX7_feed_15 : decode cX7_feed 15 = .ok (.if_icmp .le 5, 3) := by decide +kernel
theorem dX7_feed_18 : decode cX7_feed 18 = .ok (.iconst (-1), 1) := by decide +kernel
theorem dX7_feed_19 : decode cX7_feed 19 = .ok (.ireturn, 1) := by decide +kernel
theorem dX7_feed_20 : decode cX7_feed 20 = .ok (.aload_n 0, 1) := by decide +kernel
theorem dX7_feed_21 : decode cX7_feed 21 = .ok (.iload_n 1, 1) := by decide +kernel
theorem dX7_feed_22 : decode cX7_feed 22 = .ok (.invokevirtual 101, 3) := by decide +kernel
theorem dX7_feed_25 : decode cX7_feed 25 = .ok (.aload_n 0, 1) := by decide +kernel
theorem dX7_feed_26 : decode cX7_feed 26 = .ok (.iload_n 2, 1) := by decide +kernel
theorem dX7_feed_27 : decode cX7_feed 27 = .ok (.invokevirtual 101, 3) := by decide +kernel
theorem dX7_feed_30 : decode cX7_feed 30 = .ok (.aload_n 0, 1) := by decide +kernel
theorem dX7_feed_31 : decode cX7_feed 31 = .ok (.iload_n 3, 1) := by decide +kernel
theorem dX7_feed_32 : decode cX7_feed 32 = .ok (.invokevirtual 101, 3) := by decide +kernel
theorem dX7_feed_35 : decode cX7_feed 35 = .ok (.aload_n 0, 1) := by decide +kernel
theorem dX7_feed_36 : decode cX7_feed 36 = .ok (.iload 4, 2) := by decide +kernel
theorem dX7_feed_38 : decode cX7_feed 38 = .ok (.invokevirtual 101, 3) := by decide +kernel
theorem dX7_feed_41 : decode cX7_feed 41 = .ok (.aload_n 0, 1) := by decide +kernel
theorem dX7_feed_42 : decode cX7_feed 42 = .ok (.iload 5, 2) := by decide +kernel
theorem dX7_feed_44 : decode cX7_feed 44 = .ok (.invokevirtual 101, 3) := by decide +kernel
theorem dX7_feed_47 : decode cX7_feed 47 = .ok (.aload_n 0, 1) := by decide +kernel
theorem dX7_feed_48 : decode cX7_feed 48 = .ok (.getfield 98, 3) := by decide +kernel
theorem dX7_feed_51 : decode cX7_feed 51 = .ok (.ireturn, 1) := by decide +kernel
theorem dX7_lays_0 : decode cX7_lays 0 = .ok (.bipush 24, 2) := by decide +kernel
theorem dX7_lays_2 : decode cX7_lays 2 = .ok (.istore_n 2, 1) := by decide +kernel
theorem dX7_lays_3 : decode cX7_lays 3 = .ok (.iload_n 2, 1) := by decide +kernel
theorem dX7_lays_4 : decode cX7_lays 4 = .ok (.ifCond .lt 35, 3) := by decide +kernel
theorem dX7_lays_7 : decode cX7_lays 7 = .ok (.aload_n 0, 1) := by decide +kernel
theorem dX7_lays_8 : decode cX7_lays 8 = .ok (.getfield 7, 3) := by decide +kernel
theorem dX7_lays_11 : decode cX7_lays 11 = .ok (.aload_n 0, 1) := by decide +kernel
theorem dX7_lays_12 : decode cX7_lays 12 = .ok (.getfield 98, 3) := by decide +kernel
theorem dX7_lays_15 : decode cX7_lays 15 = .ok (.iload_n 1, 1) := by decide +kernel
theorem dX7_lays_16 : decode cX7_lays 16 = .ok (.iload_n 2, 1) := by decide +kernel
theorem dX7_lays_17 : decode cX7_lays 17 = .ok (.ishr, 1) := by decide +kernel
theorem dX7_lays_18 : decode cX7_lays 18 = .ok (.sipush 255, 3) := by decide +kernel
theorem dX7_lays_21 : decode cX7_lays 21 = .ok (.iand, 1) := by decide +kernel
theorem dX7_lays_22 : decode cX7_lays 22 = .ok (.iastore, 1) := by decide +kernel
theorem dX7_lays_23 : decode cX7_lays 23 = .ok (.aload_n 0, 1) := by decide +kernel
theorem dX7_lays_24 : decode cX7_lays 24 = .ok (.dup, 1) := by decide +kernel
theorem dX7_lays_25 : decode cX7_lays 25 = .ok (.getfield 98, 3) := by decide +kernel
theorem dX7_lays_28 : decode cX7_lays 28 = .ok (.iconst 1, 1) := by decide +kernel
theorem dX7_lays_29 : decode cX7_lays 29 = .ok (.iadd, 1) := by decide +kernel
theorem dX7_lays_30 : decode cX7_lays 30 = .ok (.putfield 98, 3) := by decide +kernel
theorem dX7_lays_33 : decode cX7_lays 33 = .ok (.iinc 2 (-8), 3) := by decide +kernel
theorem dX7_lays_36 : decode cX7_lays 36 = .ok (.goto (-33), 3) := by decide +kernel
theorem dX7_lays_39 : decode cX7_lays 39 = .ok (.return_, 1) := by decide +kernel
theorem dX7_wrong_0 : decode cX7_wrong 0 = .ok (.aload_n 0, 1) := by decide +kernel
theorem dX7_wrong_1 : decode cX7_wrong 1 = .ok (.getfield 105, 3) := by decide +kernel
theorem dX7_wrong_4 : decode cX7_wrong 4 = .ok (.ifCond .ne 13, 3) := by decide +kernel
theorem dX7_wrong_7 : decode cX7_wrong 7 = .ok (.aload_n 0, 1) := by decide +kernel
theorem dX7_wrong_8 : decode cX7_wrong 8 = .ok (.iload_n 1, 1) := by decide +kernel
theorem dX7_wrong_9 : decode cX7_wrong 9 = .ok (.putfield 105, 3) := by decide +kernel
theorem dX7_wrong_12 : decode cX7_wrong 12 = .ok (.aload_n 0, 1) := by decide +kernel
theorem dX7_wrong_13 : decode cX7_wrong 13 = .ok (.iload_n 2, 1) := by decide +kernel
theorem dX7_wrong_14 : decode cX7_wrong 14 = .ok (.putfield 13, 3) := by decide +kernel
theorem dX7_wrong_17 : decode cX7_wrong 17 = .ok (.iconst 0, 1) := by decide +kernel
theorem dX7_wrong_18 : decode cX7_wrong 18 = .ok (.ireturn, 1) := by decide +kernel
theorem dX7_skip_0 : decode cX7_skip 0 = .ok (.aload_n 0, 1) := by decide +kernel
theorem dX7_skip_1 : decode cX7_skip 1 = .ok (.getfield 108, 3) := by decide +kernel
theorem dX7_skip_4 : decode cX7_skip 4 = .ok (.aload_n 0, 1) := by decide +kernel
theorem dX7_skip_5 : decode cX7_skip 5 = .ok (.getfield 111, 3) := by decide +kernel
theorem dX7_skip_8 : decode cX7_skip 8 = .ok (.if_icmp .ge 44, 3) := by decide +kernel
theorem dX7_skip_11 : decode cX7_skip 11 = .ok (.aload_n 0, 1) := by decide +kernel
theorem dX7_skip_12 : decode cX7_skip 12 = .ok (.getfield 7, 3) := by decide +kernel
theorem dX7_skip_15 : decode cX7_skip 15 = .ok (.aload_n 0, 1) := by decide +kernel
theorem dX7_skip_16 : decode cX7_skip 16 = .ok (.getfield 108, 3) := by decide +kernel
theorem dX7_skip_19 : decode cX7_skip 19 = .ok (.iaload, 1) := by decide +kernel
theorem dX7_skip_20 : decode cX7_skip 20 = .ok (.bipush 32, 2) := by decide +kernel
theorem dX7_skip_22 : decode cX7_skip 22 = .ok (.if_icmp .eq 17, 3) := by decide +kernel
theorem dX7_skip_25 : decode cX7_skip 25 = .ok (.aload_n 0, 1) := by decide +kernel
theorem dX7_skip_26 : decode cX7_skip 26 = .ok (.getfield 7, 3) := by decide +kernel
theorem dX7_skip_29 : decode cX7_skip 29 = .ok (.aload_n 0, 1) := by decide +kernel
theorem dX7_skip_30 : decode cX7_skip 30 = .ok (.getfield 108, 3) := by decide +kernel
theorem dX7_skip_33 : decode cX7_skip 33 = .ok (.iaload, 1) := by decide +kernel
theorem dX7_skip_34 : decode cX7_skip 34 = .ok (.bipush 10, 2) := by decide +kernel
theorem dX7_skip_36 : decode cX7_skip 36 = .ok (.if_icmp .ne 16, 3) := by decide +kernel
theorem dX7_skip_39 : decode cX7_skip 39 = .ok (.aload_n 0, 1) := by decide +kernel
theorem dX7_skip_40 : decode cX7_skip 40 = .ok (.dup, 1) := by decide +kernel
theorem dX7_skip_41 : decode cX7_skip 41 = .ok (.getfield 108, 3) := by decide +kernel
theorem dX7_skip_44 : decode cX7_skip 44 = .ok (.iconst 1, 1) := by decide +kernel
theorem dX7_skip_45 : decode cX7_skip 45 = .ok (.iadd, 1) := by decide +kernel
theorem dX7_skip_46 : decode cX7_skip 46 = .ok (.putfield 108, 3) := by decide +kernel
theorem dX7_skip_49 : decode cX7_skip 49 = .ok (.goto (-49), 3) := by decide +kernel
theorem dX7_skip_52 : decode cX7_skip 52 = .ok (.return_, 1) := by decide +kernel
theorem dX7_now_0 : decode cX7_now 0 = .ok (.aload_n 0, 1) := by decide +kernel
theorem dX7_now_1 : decode cX7_now 1 = .ok (.getfield 108, 3) := by decide +kernel
theorem dX7_now_4 : decode cX7_now 4 = .ok (.aload_n 0, 1) := by decide +kernel
theorem dX7_now_5 : decode cX7_now 5 = .ok (.getfield 111, 3) := by decide +kernel
theorem dX7_now_8 : decode cX7_now 8 = .ok (.if_icmp .ge 15, 3) := by decide +kernel
theorem dX7_now_11 : decode cX7_now 11 = .ok (.aload_n 0, 1) := by decide +kernel
theorem dX7_now_12 : decode cX7_now 12 = .ok (.getfield 7, 3) := by decide +kernel
theorem dX7_now_15 : decode cX7_now 15 = .ok (.aload_n 0, 1) := by decide +kernel
theorem dX7_now_16 : decode cX7_now 16 = .ok (.getfield 108, 3) := by decide +kernel
theorem dX7_now_19 : decode cX7_now 19 = .ok (.iaload, 1) := by decide +kernel
theorem dX7_now_20 : decode cX7_now 20 = .ok (.goto 4, 3) := by decide +kernel
theorem dX7_now_23 : decode cX7_now 23 = .ok (.iconst 0, 1) := by decide +kernel
theorem dX7_now_24 : decode cX7_now 24 = .ok (.ireturn, 1) := by decide +kernel
theorem dX7_isDigit_0 : decode cX7_isDigit 0 = .ok (.iload_n 0, 1) := by decide +kernel
theorem dX7_isDigit_1 : decode cX7_isDigit 1 = .ok (.bipush 48, 2) := by decide +kernel
theorem dX7_isDigit_3 : decode cX7_isDigit 3 = .ok (.if_icmp .lt 13, 3) := by decide +kernel
theorem dX7_isDigit_6 : decode cX7_isDigit 6 = .ok (.iload_n 0, 1) := by decide +kernel
theorem dX7_isDigit_7 : decode cX7_isDigit 7 = .ok (.bipush 57, 2) := by decide +kernel
theorem dX7_isDigit_9 : decode cX7_isDigit 9 = .ok (.if_icmp .gt 7, 3) := by decide +kernel
theorem dX7_isDigit_12 : decode cX7_isDigit 12 = .ok (.iconst 1, 1) := by decide +kernel
theorem dX7_isDigit_13 : decode cX7_isDigit 13 = .ok (.goto 4, 3) := by decide +kernel
theorem dX7_isDigit_16 : decode cX7_isDigit 16 = .ok (.iconst 0, 1) := by decide +kernel
theorem dX7_isDigit_17 : decode cX7_isDigit 17 = .ok (.ireturn, 1) := by decide +kernel
theorem dX7_number_0 : decode cX7_number 0 = .ok (.iconst 0, 1) := by decide +kernel
theorem dX7_number_1 : decode cX7_number 1 = .ok (.istore_n 1, 1) := by decide +kernel
theorem dX7_number_2 : decode cX7_number 2 = .ok (.aload_n 0, 1) := by decide +kernel
theorem dX7_number_3 : decode cX7_number 3 = .ok (.aload_n 0, 1) := by decide +kernel
theorem dX7_number_4 : decode cX7_number 4 = .ok (.getfield 108, 3) := by decide +kernel
theorem dX7_number_7 : decode cX7_number 7 = .ok (.putfield 114, 3) := by decide +kernel
theorem dX7_number_10 : decode cX7_number 10 = .ok (.aload_n 0, 1) := by decide +kernel
theorem dX7_number_11 : decode cX7_number 11 = .ok (.iconst 0, 1) := by decide +kernel
theorem dX7_number_12 : decode cX7_number 12 = .ok (.putfield 117, 3) := by decide +kernel
theorem dX7_number_15 : decode cX7_number 15 = .ok (.aload_n 0, 1) := by decide +kernel
theorem dX7_number_16 : decode cX7_number 16 = .ok (.invokevirtual 120, 3) := by decide +kernel
theorem dX7_number_19 : decode cX7_number 19 = .ok (.invokestatic 124, 3) := by decide +kernel
theorem dX7_number_22 : decode cX7_number 22 = .ok (.ifCond .eq 50, 3) := by decide +kernel
theorem dX7_number_25 : decode cX7_number 25 = .ok (.iload_n 1, 1) := by decide +kernel
theorem dX7_number_26 : decode cX7_number 26 = .ok (.sipush 1000, 3) := by decide +kernel
theorem dX7_number_29 : decode cX7_number 29 = .ok (.if_icmp .le 7, 3) := by decide +kernel
theorem dX7_number_32 : decode cX7_number 32 = .ok (.iload_n 1, 1) := by decide +kernel
theorem dX7_number_33 : decode cX7_number 33 = .ok (.goto 15, 3) := by decide +kernel
theorem dX7_number_36 : decode cX7_number 36 = .ok (.bipush 10, 2) := by decide +kernel
theorem dX7_number_38 : decode cX7_number 38 = .ok (.iload_n 1, 1) := by decide +kernel
theorem dX7_number_39 : decode cX7_number 39 = .ok (.imul, 1) := by decide +kernel
theorem dX7_number_40 : decode cX7_number 40 = .ok (.aload_n 0, 1) := by decide +kernel
theorem dX7_number_41 : decode cX7_number 41 = .ok (.invokevirtual 120, 3) := by decide +kernel
theorem dX7_number_44 : decode cX7_number 44 = .ok (.iadd, 1) := by decide +kernel
theorem dX7_number_45 : decode cX7_number 45 = .ok (.bipush 48, 2) := by decide +kernel
theorem dX7_number_47 : decode cX7_number 47 = .ok (.isub, 1) := by decide +kernel
theorem dX7_number_48 : decode cX7_number 48 = .ok (.istore_n 1, 1) := by decide +kernel
theorem dX7_number_49 : decode cX7_number 49 = .ok (.aload_n 0, 1) := by decide +kernel
theorem dX7_number_50 : decode cX7_number 50 = .ok (.dup, 1) := by decide +kernel
theorem dX7_number_51 : decode cX7_number 51 = .ok (.getfield 117, 3) := by decide +kernel
theorem dX7_number_54 : decode cX7_number 54 = .ok (.iconst 1, 1) := by decide +kernel
theorem dX7_number_55 : decode cX7_number 55 = .ok (.iadd, 1) := by decide +kernel
theorem dX7_number_56 : decode cX7_number 56 = .ok (.putfield 117, 3) := by decide +kernel
theorem dX7_number_59 : decode cX7_number 59 = .ok (.aload_n 0, 1) := by decide +kernel
theorem dX7_number_60 : decode cX7_number 60 = .ok (.dup, 1) := by decide +kernel
theorem dX7_number_61 : decode cX7_number 61 = .ok (.getfield 108, 3) := by decide +kernel
theorem dX7_number_64 : decode cX7_number 64 = .ok (.iconst 1, 1) := by decide +kernel
theorem dX7_number_65 : decode cX7_number 65 = .ok (.iadd, 1) := by decide +kernel
theorem dX7_number_66 : decode cX7_number 66 = .ok (.putfield 108, 3) := by decide +kernel
theorem dX7_number_69 : decode cX7_number 69 = .ok (.goto (-54), 3) := by decide +kernel
theorem dX7_number_72 : decode cX7_number 72 = .ok (.iload_n 1, 1) := by decide +kernel
theorem dX7_number_73 : decode cX7_number 73 = .ok (.ireturn, 1) := by decide +kernel
theorem dX7_opens_0 : decode cX7_opens 0 = .ok (.aload_n 0, 1) := by decide +kernel
theorem dX7_opens_1 : decode cX7_opens 1 = .ok (.getfield 128, 3) := by decide +kernel
theorem dX7_opens_4 : decode cX7_opens 4 = .ok (.bipush 8, 2) := by decide +kernel
theorem dX7_opens_6 : decode cX7_opens 6 = .ok (.if_icmp .ne 13, 3) := by decide +kernel
theorem dX7_opens_9 : decode cX7_opens 9 = .ok (.aload_n 0, 1) := by decide +kernel
theorem dX7_opens_10 : decode cX7_opens 10 = .ok (.iconst 2, 1) := by decide +kernel
theorem dX7_opens_11 : decode cX7_opens 11 = .ok (.aload_n 0, 1) := by decide +kernel
theorem dX7_opens_12 : decode cX7_opens 12 = .ok (.getfield 108, 3) := by decide +kernel
theorem dX7_opens_15 : decode cX7_opens 15 = .ok (.invokevirtual 131, 3) := by decide +kernel
theorem dX7_opens_18 : decode cX7_opens 18 = .ok (.ireturn, 1) := by decide +kernel
theorem dX7_opens_19 : decode cX7_opens 19 = .ok (.aload_n 0, 1) := by decide +kernel
theorem dX7_opens_20 : decode cX7_opens 20 = .ok (.getfield 29, 3) := by decide +kernel
theorem dX7_opens_23 : decode cX7_opens 23 = .ok (.aload_n 0, 1) := by decide +kernel
theorem dX7_opens_24 : decode cX7_opens 24 = .ok (.getfield 128, 3) := by decide +kernel
theorem dX7_opens_27 : decode cX7_opens 27 = .ok (.iload_n 1, 1) := by decide +kernel
theorem dX7_opens_28 : decode cX7_opens 28 = .ok (.iastore, 1) := by decide +kernel
theorem dX7_opens_29 : decode cX7_opens 29 = .ok (.aload_n 0, 1) := by decide +kernel
theorem dX7_opens_30 : decode cX7_opens 30 = .ok (.getfield 32, 3) := by decide +kernel
theorem dX7_opens_33 : decode cX7_opens 33 = .ok (.aload_n 0, 1) := by decide +kernel
theorem dX7_opens_34 : decode cX7_opens 34 = .ok (.getfield 128, 3) := by decide +kernel
theorem dX7_opens_37 : decode cX7_opens 37 = .ok (.aload_n 0, 1) := by decide +kernel
theorem dX7_opens_38 : decode cX7_opens 38 = .ok (.getfield 135, 3) := by decide +kernel
theorem dX7_opens_41 : decode cX7_opens 41 = .ok (.iastore, 1) := by decide +kernel
theorem dX7_opens_42 : decode cX7_opens 42 = .ok (.aload_n 0, 1) := by decide +kernel
theorem dX7_opens_43 : decode cX7_opens 43 = .ok (.dup, 1) := by decide +kernel
theorem dX7_opens_44 : decode cX7_opens 44 = .ok (.getfield 128, 3) := by decide +kernel
theorem dX7_opens_47 : decode cX7_opens 47 = .ok (.iconst 1, 1) := by decide +kernel
theorem dX7_opens_48 : decode cX7_opens 48 = .ok (.iadd, 1) := by decide +kernel
theorem dX7_opens_49 : decode cX7_opens 49 = .ok (.putfield 128, 3) := by decide +kernel
theorem dX7_opens_52 : decode cX7_opens 52 = .ok (.aload_n 0, 1) := by decide +kernel
theorem dX7_opens_53 : decode cX7_opens 53 = .ok (.dup, 1) := by decide +kernel
theorem dX7_opens_54 : decode cX7_opens 54 = .ok (.getfield 108, 3) := by decide +kernel
theorem dX7_opens_57 : decode cX7_opens 57 = .ok (.iconst 1, 1) := by decide +kernel
theorem dX7_opens_58 : decode cX7_opens 58 = .ok (.iadd, 1) := by decide +kernel
theorem dX7_opens_59 : decode cX7_opens 59 = .ok (.putfield 108, 3) := by decide +kernel
theorem dX7_opens_62 : decode cX7_opens 62 = .ok (.iconst 1, 1) := by decide +kernel
theorem dX7_opens_63 : decode cX7_opens 63 = .ok (.ireturn, 1) := by decide +kernel
theorem dX7_closes_0 : decode cX7_closes 0 = .ok (.aload_n 0, 1) := by decide +kernel
theorem dX7_closes_1 : decode cX7_closes 1 = .ok (.getfield 128, 3) := by decide +kernel
theorem dX7_closes_4 : decode cX7_closes 4 = .ok (.ifCond .ne 13, 3) := by decide +kernel
theorem dX7_closes_7 : decode cX7_closes 7 = .ok (.aload_n 0, 1) := by decide +kernel
theorem dX7_closes_8 : decode cX7_closes 8 = .ok (.iconst 1, 1) := by decide +kernel
theorem dX7_closes_9 : decode cX7_closes 9 = .ok (.aload_n 0, 1) := by decide +kernel
theorem dX7_closes_10 : decode cX7_closes 10 = .ok (.getfield 108, 3) := by decide +kernel
theorem dX7_closes_13 : decode cX7_closes 13 = .ok (.invokevirtual 131, 3) := by decide +kernel
theorem dX7_closes_16 : decode cX7_closes 16 = .ok (.ireturn, 1) := by decide +kernel
theorem dX7_closes_17 : decode cX7_closes 17 = .ok (.aload_n 0, 1) := by decide +kernel
theorem dX7_closes_18 : decode cX7_closes 18 = .ok (.getfield 29, 3) := by decide +kernel
theorem dX7_closes_21 : decode cX7_closes 21 = .ok (.aload_n 0, 1) := by decide +kernel
theorem dX7_closes_22 : decode cX7_closes 22 = .ok (.getfield 128, 3) := by decide +kernel
theorem dX7_closes_25 : decode cX7_closes 25 = .ok (.iconst 1, 1) := by decide +kernel
theorem dX7_closes_26 : decode cX7_closes 26 = .ok (.isub, 1) := by decide +kernel
theorem dX7_closes_27 : decode cX7_closes 27 = .ok (.iaload, 1) := by decide +kernel
theorem dX7_closes_28 : decode cX7_closes 28 = .ok (.istore_n 1, 1) := by decide +kernel
theorem dX7_closes_29 : decode cX7_closes 29 = .ok (.aload_n 0, 1) := by decide +kernel
theorem dX7_closes_30 : decode cX7_closes 30 = .ok (.getfield 32, 3) := by decide +kernel
theorem dX7_closes_33 : decode cX7_closes 33 = .ok (.aload_n 0, 1) := by decide +kernel
theorem dX7_closes_34 : decode cX7_closes 34 = .ok (.getfield 128, 3) := by decide +kernel
theorem dX7_closes_37 : decode cX7_closes 37 = .ok (.iconst 1, 1) := by decide +kernel
theorem dX7_closes_38 : decode cX7_closes 38 = .ok (.isub, 1) := by decide +kernel
theorem dX7_closes_39 : decode cX7_closes 39 = .ok (.iaload, 1) := by decide +kernel
theorem dX7_closes_40 : decode cX7_closes 40 = .ok (.istore_n 2, 1) := by decide +kernel
theorem dX7_closes_41 : decode cX7_closes 41 = .ok (.aload_n 0, 1) := by decide +kernel
theorem dX7_closes_42 : decode cX7_closes 42 = .ok (.getfield 135, 3) := by decide +kernel
theorem dX7_closes_45 : decode cX7_closes 45 = .ok (.iload_n 2, 1) := by decide +kernel
theorem dX7_closes_46 : decode cX7_closes 46 = .ok (.isub, 1) := by decide +kernel
theorem dX7_closes_47 : decode cX7_closes 47 = .ok (.istore_n 3, 1) := by decide +kernel
theorem dX7_closes_48 : decode cX7_closes 48 = .ok (.iload_n 1, 1) := by decide +kernel
theorem dX7_closes_49 : decode cX7_closes 49 = .ok (.bipush 100, 2) := by decide +kernel
theorem dX7_closes_51 : decode cX7_closes 51 = .ok (.if_icmp .ge 24, 3) := by decide +kernel
theorem dX7_closes_54 : decode cX7_closes 54 = .ok (.iload_n 2, 1) := by decide +kernel
theorem dX7_closes_55 : decode cX7_closes 55 = .ok (.iload_n 3, 1) := by decide +kernel
theorem dX7_closes_56 : decode cX7_closes 56 = .ok (.iload_n 1, 1) := by decide +kernel
theorem dX7_closes_57 : decode cX7_closes 57 = .ok (.imul, 1) := by decide +kernel
theorem dX7_closes_58 : decode cX7_closes 58 = .ok (.iadd, 1) := by decide +kernel
theorem dX7_closes_59 : decode cX7_closes 59 = .ok (.sipush 300, 3) := by decide +kernel
theorem dX7_closes_62 : decode cX7_closes 62 = .ok (.if_icmp .le 13, 3) := by decide +kernel
theorem dX7_closes_65 : decode cX7_closes 65 = .ok (.aload_n 0, 1) := by decide +kernel
theorem dX7_closes_66 : decode cX7_closes 66 = .ok (.iconst 2, 1) := by decide +kernel
theorem dX7_closes_67 : decode cX7_closes 67 = .ok (.aload_n 0, 1) := by decide +kernel
theorem dX7_closes_68 : decode cX7_closes 68 = .ok (.getfield 108, 3) := by decide +kernel
theorem dX7_closes_71 : decode cX7_closes 71 = .ok (.invokevirtual 131, 3) := by decide +kernel
theorem dX7_closes_74 : decode cX7_closes 74 = .ok (.ireturn, 1) := by decide +kernel
theorem dX7_closes_75 : decode cX7_closes 75 = .ok (.aload_n 0, 1) := by decide +kernel
theorem dX7_closes_76 : decode cX7_closes 76 = .ok (.dup, 1) := by decide +kernel
theorem dX7_closes_77 : decode cX7_closes 77 = .ok (.getfield 128, 3) := by decide +kernel
theorem dX7_closes_80 : decode cX7_closes 80 = .ok (.iconst 1, 1) := by decide +kernel
theorem dX7_closes_81 : decode cX7_closes 81 = .ok (.isub, 1) := by decide +kernel
theorem dX7_closes_82 : decode cX7_closes 82 = .ok (.putfield 128, 3) := by decide +kernel
theorem dX7_closes_85 : decode cX7_closes 85 = .ok (.aload_n 0, 1) := by decide +kernel
theorem dX7_closes_86 : decode cX7_closes 86 = .ok (.dup, 1) := by decide +kernel
theorem dX7_closes_87 : decode cX7_closes 87 = .ok (.getfield 108, 3) := by decide +kernel
theorem dX7_closes_90 : decode cX7_closes 90 = .ok (.iconst 1, 1) := by decide +kernel
theorem dX7_closes_91 : decode cX7_closes 91 = .ok (.iadd, 1) := by decide +kernel
theorem dX7_closes_92 : decode cX7_closes 92 = .ok (.putfield 108, 3) := by decide +kernel
theorem dX7_closes_95 : decode cX7_closes 95 = .ok (.iload_n 1, 1) := by decide +kernel
theorem dX7_closes_96 : decode cX7_closes 96 = .ok (.bipush 100, 2) := by decide +kernel
theorem dX7_closes_98 : decode cX7_closes 98 = .ok (.if_icmp .ge 51, 3) := by decide +kernel
theorem dX7_closes_101 : decode cX7_closes 101 = .ok (.iload_n 3, 1) := by decide +kernel
theorem dX7_closes_102 : decode cX7_closes 102 = .ok (.istore 4, 2) := by decide +kernel
theorem dX7_closes_104 : decode cX7_closes 104 = .ok (.iload 4, 2) := by decide +kernel
theorem dX7_closes_106 : decode cX7_closes 106 = .ok (.iload_n 3, 1) := by decide +kernel
theorem dX7_closes_107 : decode cX7_closes 107 = .ok (.iload_n 1, 1) := by decide +kernel
theorem dX7_closes_108 : decode cX7_closes 108 = .ok (.imul, 1) := by decide +kernel
theorem dX7_closes_109 : decode cX7_closes 109 = .ok (.if_icmp .ge 29, 3) := by decide +kernel
theorem dX7_closes_112 : decode cX7_closes 112 = .ok (.aload_n 0, 1) := by decide +kernel
theorem dX7_closes_113 : decode cX7_closes 113 = .ok (.getfield 26, 3) := by decide +kernel
theorem dX7_closes_116 : decode cX7_closes 116 = .ok (.iload_n 2, 1) := by decide +kernel
theorem dX7_closes_117 : decode cX7_closes 117 = .ok (.iload 4, 2) := by decide +kernel
theorem dX7_closes_119 : decode cX7_closes 119 = .ok (.iadd, 1) := by decide +kernel
theorem dX7_closes_120 : decode cX7_closes 120 = .ok (.aload_n 0, 1) := by decide +kernel
theorem dX7_closes_121 : decode cX7_closes 121 = .ok (.getfield 26, 3) := by decide +kernel
theorem dX7_closes_124 : decode cX7_closes 124 = .ok (.iload_n 2, 1) := by decide +kernel
theorem dX7_closes_125 : decode cX7_closes 125 = .ok (.iload 4, 2) := by decide +kernel
theorem dX7_closes_127 : decode cX7_closes 127 = .ok (.iadd, 1) := by decide +kernel
theorem dX7_closes_128 : decode cX7_closes 128 = .ok (.iload_n 3, 1) := by decide +kernel
theorem dX7_closes_129 : decode cX7_closes 129 = .ok (.isub, 1) := by decide +kernel
theorem dX7_closes_130 : decode cX7_closes 130 = .ok (.iaload, 1) := by decide +kernel
theorem dX7_closes_131 : decode cX7_closes 131 = .ok (.iastore, 1) := by decide +kernel
theorem dX7_closes_132 : decode cX7_closes 132 = .ok (.iinc 4 1, 3) := by decide +kernel
theorem dX7_closes_135 : decode cX7_closes 135 = .ok (.goto (-31), 3) := by decide +kernel
theorem dX7_closes_138 : decode cX7_closes 138 = .ok (.aload_n 0, 1) := by decide +kernel
theorem dX7_closes_139 : decode cX7_closes 139 = .ok (.iload_n 2, 1) := by decide +kernel
theorem dX7_closes_140 : decode cX7_closes 140 = .ok (.iload_n 3, 1) := by decide +kernel
theorem dX7_closes_141 : decode cX7_closes 141 = .ok (.iload_n 1, 1) := by decide +kernel
theorem dX7_closes_142 : decode cX7_closes 142 = .ok (.imul, 1) := by decide +kernel
theorem dX7_closes_143 : decode cX7_closes 143 = .ok (.iadd, 1) := by decide +kernel
theorem dX7_closes_144 : decode cX7_closes 144 = .ok (.putfield 135, 3) := by decide +kernel
theorem dX7_closes_147 : decode cX7_closes 147 = .ok (.iconst 1, 1) := by decide +kernel
theorem dX7_closes_148 : decode cX7_closes 148 = .ok (.ireturn, 1) := by decide +kernel
theorem dX7_closes_149 : decode cX7_closes 149 = .ok (.iconst 0, 1) := by decide +kernel
theorem dX7_closes_150 : decode cX7_closes 150 = .ok (.istore 4, 2) := by decide +kernel
theorem dX7_closes_152 : decode cX7_closes 152 = .ok (.iload 4, 2) := by decide +kernel
theorem dX7_closes_154 : decode cX7_closes 154 = .ok (.iload_n 3, 1) := by decide +kernel
theorem dX7_closes_155 : decode cX7_closes 155 = .ok (.if_icmp .ge 70, 3) := by decide +kernel
theorem dX7_closes_158 : decode cX7_closes 158 = .ok (.iload_n 1, 1) := by decide +kernel
theorem dX7_closes_159 : decode cX7_closes 159 = .ok (.bipush 117, 2) := by decide +kernel
theorem dX7_closes_161 : decode cX7_closes 161 = .ok (.if_icmp .eq 64, 3) := by decide +kernel
theorem dX7_closes_164 : decode cX7_closes 164 = .ok (.aload_n 0, 1) := by decide +kernel
theorem dX7_closes_165 : decode cX7_closes 165 = .ok (.getfield 26, 3) := by decide +kernel
theorem dX7_closes_168 : decode cX7_closes 168 = .ok (.iload_n 2, 1) := by decide +kernel
theorem dX7_closes_169 : decode cX7_closes 169 = .ok (.iload 4, 2) := by decide +kernel
theorem dX7_closes_171 : decode cX7_closes 171 = .ok (.iadd, 1) := by decide +kernel
theorem dX7_closes_172 : decode cX7_closes 172 = .ok (.iaload, 1) := by decide +kernel
theorem dX7_closes_173 : decode cX7_closes 173 = .ok (.istore 5, 2) := by decide +kernel
theorem dX7_closes_175 : decode cX7_closes 175 = .ok (.aload_n 0, 1) := by decide +kernel
theorem dX7_closes_176 : decode cX7_closes 176 = .ok (.getfield 26, 3) := by decide +kernel
theorem dX7_closes_179 : decode cX7_closes 179 = .ok (.iload_n 2, 1) := by decide +kernel
theorem dX7_closes_180 : decode cX7_closes 180 = .ok (.iload 4, 2) := by decide +kernel
theorem dX7_closes_182 : decode cX7_closes 182 = .ok (.iadd, 1) := by decide +kernel
theorem dX7_closes_183 : decode cX7_closes 183 = .ok (.iload_n 1, 1) := by decide +kernel
theorem dX7_closes_184 : decode cX7_closes 184 = .ok (.bipush 109, 2) := by decide +kernel
theorem dX7_closes_186 : decode cX7_closes 186 = .ok (.if_icmp .ne 9, 3) := by decide +kernel
theorem dX7_closes_189 : decode cX7_closes 189 = .ok (.iload 5, 2) := by decide +kernel
theorem dX7_closes_191 : decode cX7_closes 191 = .ok (.ineg, 1) := by decide +kernel
theorem dX7_closes_192 : decode cX7_closes 192 = .ok (.goto 26, 3) := by decide +kernel
theorem dX7_closes_195 : decode cX7_closes 195 = .ok (.iload 5, 2) := by decide +kernel
theorem dX7_closes_197 : decode cX7_closes 197 = .ok (.ifCond .le 13, 3) := by decide +kernel
theorem dX7_closes_200 : decode cX7_closes 200 = .ok (.aload_n 0, 1) := by decide +kernel
theorem dX7_closes_201 : decode cX7_closes 201 = .ok (.getfield 138, 3) := by decide +kernel
theorem dX7_closes_204 : decode cX7_closes 204 = .ok (.iload 5, 2) := by decide +kernel
theorem dX7_closes_206 : decode cX7_closes 206 = .ok (.isub, 1) := by decide +kernel
theorem dX7_closes_207 : decode cX7_closes 207 = .ok (.goto 11, 3) := by decide +kernel
theorem dX7_closes_210 : decode cX7_closes 210 = .ok (.aload_n 0, 1) := by decide +kernel
theorem dX7_closes_211 : decode cX7_closes 211 = .ok (.getfield 138, 3) := by decide +kernel
theorem dX7_closes_214 : decode cX7_closes 214 = .ok (.ineg, 1) := by decide +kernel
theorem dX7_closes_215 : decode cX7_closes 215 = .ok (.iload 5, 2) := by decide +kernel
theorem dX7_closes_217 : decode cX7_closes 217 = .ok (.isub, 1) := by decide +kernel
theorem dX7_closes_218 : decode cX7_closes 218 = .ok (.iastore, 1) := by decide +kernel
theorem dX7_closes_219 : decode cX7_closes 219 = .ok (.iinc 4 1, 3) := by decide +kernel
theorem dX7_closes_222 : decode cX7_closes 222 = .ok (.goto (-70), 3) := by decide +kernel
theorem dX7_closes_225 : decode cX7_closes 225 = .ok (.iconst 0, 1) := by decide +kernel
theorem dX7_closes_226 : decode cX7_closes 226 = .ok (.istore 4, 2) := by decide +kernel
theorem dX7_closes_228 : decode cX7_closes 228 = .ok (.iconst 2, 1) := by decide +kernel
theorem dX7_closes_229 : decode cX7_closes 229 = .ok (.iload 4, 2) := by decide +kernel
theorem dX7_closes_231 : decode cX7_closes 231 = .ok (.imul, 1) := by decide +kernel
theorem dX7_closes_232 : decode cX7_closes 232 = .ok (.iload_n 3, 1) := by decide +kernel
theorem dX7_closes_233 : decode cX7_closes 233 = .ok (.if_icmp .ge 67, 3) := by decide +kernel
theorem dX7_closes_236 : decode cX7_closes 236 = .ok (.iload_n 1, 1) := by decide +kernel
theorem dX7_closes_237 : decode cX7_closes 237 = .ok (.bipush 117, 2) := by decide +kernel
theorem dX7_closes_239 : decode cX7_closes 239 = .ok (.if_icmp .ne 61, 3) := by decide +kernel
theorem dX7_closes_242 : decode cX7_closes 242 = .ok (.aload_n 0, 1) := by decide +kernel
theorem dX7_closes_243 : decode cX7_closes 243 = .ok (.getfield 26, 3) := by decide +kernel
theorem dX7_closes_246 : decode cX7_closes 246 = .ok (.iload_n 2, 1) := by decide +kernel
theorem dX7_closes_247 : decode cX7_closes 247 = .ok (.iload 4, 2) := by decide +kernel
theorem dX7_closes_249 : decode cX7_closes 249 = .ok (.iadd, 1) := by decide +kernel
theorem dX7_closes_250 : decode cX7_closes 250 = .ok (.iaload, 1) := by decide +kernel
theorem dX7_closes_251 : decode cX7_closes 251 = .ok (.istore 5, 2) := by decide +kernel
theorem dX7_closes_253 : decode cX7_closes 253 = .ok (.aload_n 0, 1) := by decide +kernel
theorem dX7_closes_254 : decode cX7_closes 254 = .ok (.getfield 26, 3) := by decide +kernel
theorem dX7_closes_257 : decode cX7_closes 257 = .ok (.iload_n 2, 1) := by decide +kernel
theorem dX7_closes_258 : decode cX7_closes 258 = .ok (.iload 4, 2) := by decide +kernel
theorem dX7_closes_260 : decode cX7_closes 260 = .ok (.iadd, 1) := by decide +kernel
theorem dX7_closes_261 : decode cX7_closes 261 = .ok (.aload_n 0, 1) := by decide +kernel
theorem dX7_closes_262 : decode cX7_closes 262 = .ok (.getfield 26, 3) := by decide +kernel
theorem dX7_closes_265 : decode cX7_closes 265 = .ok (.aload_n 0, 1) := by decide +kernel
theorem dX7_closes_266 : decode cX7_closes 266 = .ok (.getfield 135, 3) := by decide +kernel
theorem dX7_closes_269 : decode cX7_closes 269 = .ok (.iconst 1, 1) := by decide +kernel
theorem dX7_closes_270 : decode cX7_closes 270 = .ok (.isub, 1) := by decide +kernel
theorem dX7_closes_271 : decode cX7_closes 271 = .ok (.iload 4, 2) := by decide +kernel
theorem dX7_closes_273 : decode cX7_closes 273 = .ok (.isub, 1) := by decide +kernel
theorem dX7_closes_274 : decode cX7_closes 274 = .ok (.iaload, 1) := by decide +kernel
theorem dX7_closes_275 : decode cX7_closes 275 = .ok (.ineg, 1) := by decide +kernel
theorem dX7_closes_276 : decode cX7_closes 276 = .ok (.iastore, 1) := by decide +kernel
theorem dX7_closes_277 : decode cX7_closes 277 = .ok (.aload_n 0, 1) := by decide +kernel
theorem dX7_closes_278 : decode cX7_closes 278 = .ok (.getfield 26, 3) := by decide +kernel
theorem dX7_closes_281 : decode cX7_closes 281 = .ok (.aload_n 0, 1) := by decide +kernel
theorem dX7_closes_282 : decode cX7_closes 282 = .ok (.getfield 135, 3) := by decide +kernel
theorem dX7_closes_285 : decode cX7_closes 285 = .ok (.iconst 1, 1) := by decide +kernel
theorem dX7_closes_286 : decode cX7_closes 286 = .ok (.isub, 1) := by decide +kernel
theorem dX7_closes_287 : decode cX7_closes 287 = .ok (.iload 4, 2) := by decide +kernel
theorem dX7_closes_289 : decode cX7_closes 289 = .ok (.isub, 1) := by decide +kernel
theorem dX7_closes_290 : decode cX7_closes 290 = .ok (.iload 5, 2) := by decide +kernel
theorem dX7_closes_292 : decode cX7_closes 292 = .ok (.ineg, 1) := by decide +kernel
theorem dX7_closes_293 : decode cX7_closes 293 = .ok (.iastore, 1) := by decide +kernel
theorem dX7_closes_294 : decode cX7_closes 294 = .ok (.iinc 4 1, 3) := by decide +kernel
theorem dX7_closes_297 : decode cX7_closes 297 = .ok (.goto (-69), 3) := by decide +kernel
theorem dX7_closes_300 : decode cX7_closes 300 = .ok (.iconst 1, 1) := by decide +kernel
theorem dX7_closes_301 : decode cX7_closes 301 = .ok (.ireturn, 1) := by decide +kernel
theorem dX7_item_0 : decode cX7_item 0 = .ok (.aload_n 0, 1) := by decide +kernel
theorem dX7_item_1 : decode cX7_item 1 = .ok (.invokevirtual 120, 3) := by decide +kernel
theorem dX7_item_4 : decode cX7_item 4 = .ok (.istore_n 1, 1) := by decide +kernel
theorem dX7_item_5 : decode cX7_item 5 = .ok (.iload_n 1, 1) := by decide +kernel
theorem dX7_item_6 : decode cX7_item 6 = .ok (.bipush 41, 2) := by decide +kernel
theorem dX7_item_8 : decode cX7_item 8 = .ok (.if_icmp .ne 8, 3) := by decide +kernel
theorem dX7_item_11 : decode cX7_item 11 = .ok (.aload_n 0, 1) := by decide +kernel
theorem dX7_item_12 : decode cX7_item 12 = .ok (.invokevirtual 141, 3) := by decide +kernel
theorem dX7_item_15 : decode cX7_item 15 = .ok (.ireturn, 1) := by decide +kernel
theorem dX7_item_16 : decode cX7_item 16 = .ok (.iload_n 1, 1) := by decide +kernel
theorem dX7_item_17 : decode cX7_item 17 = .ok (.bipush 117, 2) := by decide +kernel
theorem dX7_item_19 : decode cX7_item 19 = .ok (.if_icmp .eq 15, 3) := by decide +kernel
theorem dX7_item_22 : decode cX7_item 22 = .ok (.iload_n 1, 1) := by decide +kernel
theorem dX7_item_23 : decode cX7_item 23 = .ok (.bipush 109, 2) := by decide +kernel
theorem dX7_item_25 : decode cX7_item 25 = .ok (.if_icmp .eq 9, 3) := by decide +kernel
theorem dX7_item_28 : decode cX7_item 28 = .ok (.iload_n 1, 1) := by decide +kernel
theorem dX7_item_29 : decode cX7_item 29 = .ok (.bipush 116, 2) := by decide +kernel
theorem dX7_item_31 : decode cX7_item 31 = .ok (.if_icmp .ne 44, 3) := by decide +kernel
theorem dX7_item_34 : decode cX7_item 34 = .ok (.aload_n 0, 1) := by decide +kernel
theorem dX7_item_35 : decode cX7_item 35 = .ok (.dup, 1) := by decide +kernel
theorem dX7_item_36 : decode cX7_item 36 = .ok (.getfield 108, 3) := by decide +kernel
theorem dX7_item_39 : decode cX7_item 39 = .ok (.iconst 1, 1) := by decide +kernel
theorem dX7_item_40 : decode cX7_item 40 = .ok (.iadd, 1) := by decide +kernel
theorem dX7_item_41 : decode cX7_item 41 = .ok (.putfield 108, 3) := by decide +kernel
theorem dX7_item_44 : decode cX7_item 44 = .ok (.aload_n 0, 1) := by decide +kernel
theorem dX7_item_45 : decode cX7_item 45 = .ok (.invokevirtual 145, 3) := by decide +kernel
theorem dX7_item_48 : decode cX7_item 48 = .ok (.aload_n 0, 1) := by decide +kernel
theorem dX7_item_49 : decode cX7_item 49 = .ok (.invokevirtual 120, 3) := by decide +kernel
theorem dX7_item_52 : decode cX7_item 52 = .ok (.bipush 40, 2) := by decide +kernel
theorem dX7_item_54 : decode cX7_item 54 = .ok (.if_icmp .ne 11, 3) := by decide +kernel
theorem dX7_item_57 : decode cX7_item 57 = .ok (.aload_n 0, 1) := by decide +kernel
theorem dX7_item_58 : decode cX7_item 58 = .ok (.iload_n 1, 1) := by decide +kernel
theorem dX7_item_59 : decode cX7_item 59 = .ok (.invokevirtual 148, 3) := by decide +kernel
theorem dX7_item_62 : decode cX7_item 62 = .ok (.goto 12, 3) := by decide +kernel
theorem dX7_item_65 : decode cX7_item 65 = .ok (.aload_n 0, 1) := by decide +kernel
theorem dX7_item_66 : decode cX7_item 66 = .ok (.iconst 1, 1) := by decide +kernel
theorem dX7_item_67 : decode cX7_item 67 = .ok (.aload_n 0, 1) := by decide +kernel
theorem dX7_item_68 : decode cX7_item 68 = .ok (.getfield 108, 3) := by decide +kernel
theorem dX7_item_71 : decode cX7_item 71 = .ok (.invokevirtual 131, 3) := by decide +kernel
theorem dX7_item_74 : decode cX7_item 74 = .ok (.ireturn, 1) := by decide +kernel
theorem dX7_item_75 : decode cX7_item 75 = .ok (.iload_n 1, 1) := by decide +kernel
theorem dX7_item_76 : decode cX7_item 76 = .ok (.bipush 112, 2) := by decide +kernel
theorem dX7_item_78 : decode cX7_item 78 = .ok (.if_icmp .ne 8, 3) := by decide +kernel
theorem dX7_item_81 : decode cX7_item 81 = .ok (.aload_n 0, 1) := by decide +kernel
theorem dX7_item_82 : decode cX7_item 82 = .ok (.invokevirtual 151, 3) := by decide +kernel
theorem dX7_item_85 : decode cX7_item 85 = .ok (.ireturn, 1) := by decide +kernel
theorem dX7_item_86 : decode cX7_item 86 = .ok (.iload_n 1, 1) := by decide +kernel
theorem dX7_item_87 : decode cX7_item 87 = .ok (.invokestatic 124, 3) := by decide +kernel
theorem dX7_item_90 : decode cX7_item 90 = .ok (.ifCond .ne 13, 3) := by decide +kernel
theorem dX7_item_93 : decode cX7_item 93 = .ok (.aload_n 0, 1) := by decide +kernel
theorem dX7_item_94 : decode cX7_item 94 = .ok (.iconst 1, 1) := by decide +kernel
theorem dX7_item_95 : decode cX7_item 95 = .ok (.aload_n 0, 1) := by decide +kernel
theorem dX7_item_96 : decode cX7_item 96 = .ok (.getfield 108, 3) := by decide +kernel
theorem dX7_item_99 : decode cX7_item 99 = .ok (.invokevirtual 131, 3) := by decide +kernel
theorem dX7_item_102 : decode cX7_item 102 = .ok (.ireturn, 1) := by decide +kernel
theorem dX7_item_103 : decode cX7_item 103 = .ok (.aload_n 0, 1) := by decide +kernel
theorem dX7_item_104 : decode cX7_item 104 = .ok (.invokevirtual 154, 3) := by decide +kernel
theorem dX7_item_107 : decode cX7_item 107 = .ok (.istore_n 2, 1) := by decide +kernel
theorem dX7_item_108 : decode cX7_item 108 = .ok (.aload_n 0, 1) := by decide +kernel
theorem dX7_item_109 : decode cX7_item 109 = .ok (.getfield 114, 3) := by decide +kernel
theorem dX7_item_112 : decode cX7_item 112 = .ok (.istore_n 3, 1) := by decide +kernel
theorem dX7_item_113 : decode cX7_item 113 = .ok (.aload_n 0, 1) := by decide +kernel
theorem dX7_item_114 : decode cX7_item 114 = .ok (.invokevirtual 145, 3) := by decide +kernel
theorem dX7_item_117 : decode cX7_item 117 = .ok (.aload_n 0, 1) := by decide +kernel
theorem dX7_item_118 : decode cX7_item 118 = .ok (.invokevirtual 120, 3) := by decide +kernel
theorem dX7_item_121 : decode cX7_item 121 = .ok (.istore_n 1, 1) := by decide +kernel
theorem dX7_item_122 : decode cX7_item 122 = .ok (.iload_n 1, 1) := by decide +kernel
theorem dX7_item_123 : decode cX7_item 123 = .ok (.bipush 40, 2) := by decide +kernel
theorem dX7_item_125 : decode cX7_item 125 = .ok (.if_icmp .ne 29, 3) := by decide +kernel
theorem dX7_item_128 : decode cX7_item 128 = .ok (.iload_n 2, 1) := by decide +kernel
theorem dX7_item_129 : decode cX7_item 129 = .ok (.iconst 1, 1) := by decide +kernel
theorem dX7_item_130 : decode cX7_item 130 = .ok (.if_icmp .lt 17, 3) := by decide +kernel
theorem dX7_item_133 : decode cX7_item 133 = .ok (.iload_n 2, 1) := by decide +kernel
theorem dX7_item_134 : decode cX7_item 134 = .ok (.bipush 50, 2) := by decide +kernel
theorem dX7_item_136 : decode cX7_item 136 = .ok (.if_icmp .gt 11, 3) := by decide +kernel
theorem dX7_item_139 : decode cX7_item 139 = .ok (.aload_n 0, 1) := by decide +kernel
theorem dX7_item_140 : decode cX7_item 140 = .ok (.iload_n 2, 1) := by decide +kernel
theorem dX7_item_141 : decode cX7_item 141 = .ok (.invokevirtual 148, 3) := by decide +kernel
theorem dX7_item_144 : decode cX7_item 144 = .ok (.goto 9, 3) := by decide +kernel
theorem dX7_item_147 : decode cX7_item 147 = .ok (.aload_n 0, 1) := by decide +kernel
theorem dX7_item_148 : decode cX7_item 148 = .ok (.iconst 2, 1) := by decide +kernel
theorem dX7_item_149 : decode cX7_item 149 = .ok (.iload_n 3, 1) := by decide +kernel
theorem dX7_item_150 : decode cX7_item 150 = .ok (.invokevirtual 131, 3) := by decide +kernel
theorem dX7_item_153 : decode cX7_item 153 = .ok (.ireturn, 1) := by decide +kernel
theorem dX7_item_154 : decode cX7_item 154 = .ok (.iload_n 1, 1) := by decide +kernel
theorem dX7_item_155 : decode cX7_item 155 = .ok (.bipush 43, 2) := by decide +kernel
theorem dX7_item_157 : decode cX7_item 157 = .ok (.if_icmp .eq 19, 3) := by decide +kernel
theorem dX7_item_160 : decode cX7_item 160 = .ok (.iload_n 1, 1) := by decide +kernel
theorem dX7_item_161 : decode cX7_item 161 = .ok (.bipush 45, 2) := by decide +kernel
theorem dX7_item_163 : decode cX7_item 163 = .ok (.if_icmp .eq 13, 3) := by decide +kernel
theorem dX7_item_166 : decode cX7_item 166 = .ok (.aload_n 0, 1) := by decide +kernel
theorem dX7_item_167 : decode cX7_item 167 = .ok (.iconst 1, 1) := by decide +kernel
theorem dX7_item_168 : decode cX7_item 168 = .ok (.aload_n 0, 1) := by decide +kernel
theorem dX7_item_169 : decode cX7_item 169 = .ok (.getfield 108, 3) := by decide +kernel
theorem dX7_item_172 : decode cX7_item 172 = .ok (.invokevirtual 131, 3) := by decide +kernel
theorem dX7_item_175 : decode cX7_item 175 = .ok (.ireturn, 1) := by decide +kernel
theorem dX7_item_176 : decode cX7_item 176 = .ok (.iload_n 2, 1) := by decide +kernel
theorem dX7_item_177 : decode cX7_item 177 = .ok (.iconst 1, 1) := by decide +kernel
theorem dX7_item_178 : decode cX7_item 178 = .ok (.if_icmp .lt 11, 3) := by decide +kernel
theorem dX7_item_181 : decode cX7_item 181 = .ok (.iload_n 2, 1) := by decide +kernel
theorem dX7_item_182 : decode cX7_item 182 = .ok (.aload_n 0, 1) := by decide +kernel
theorem dX7_item_183 : decode cX7_item 183 = .ok (.getfield 138, 3) := by decide +kernel
theorem dX7_item_186 : decode cX7_item 186 = .ok (.if_icmp .lt 10, 3) := by decide +kernel
theorem dX7_item_189 : decode cX7_item 189 = .ok (.aload_n 0, 1) := by decide +kernel
theorem dX7_item_190 : decode cX7_item 190 = .ok (.iconst 2, 1) := by decide +kernel
theorem dX7_item_191 : decode cX7_item 191 = .ok (.iload_n 3, 1) := by decide +kernel
theorem dX7_item_192 : decode cX7_item 192 = .ok (.invokevirtual 131, 3) := by decide +kernel
theorem dX7_item_195 : decode cX7_item 195 = .ok (.ireturn, 1) := by decide +kernel
theorem dX7_item_196 : decode cX7_item 196 = .ok (.aload_n 0, 1) := by decide +kernel
theorem dX7_item_197 : decode cX7_item 197 = .ok (.getfield 135, 3) := by decide +kernel
theorem dX7_item_200 : decode cX7_item 200 = .ok (.sipush 300, 3) := by decide +kernel
theorem dX7_item_203 : decode cX7_item 203 = .ok (.if_icmp .ne 13, 3) := by decide +kernel
theorem dX7_item_206 : decode cX7_item 206 = .ok (.aload_n 0, 1) := by decide +kernel
theorem dX7_item_207 : decode cX7_item 207 = .ok (.iconst 2, 1) := by decide +kernel
theorem dX7_item_208 : decode cX7_item 208 = .ok (.aload_n 0, 1) := by decide +kernel
theorem dX7_item_209 : decode cX7_item 209 = .ok (.getfield 108, 3) := by decide +kernel
theorem dX7_item_212 : decode cX7_item 212 = .ok (.invokevirtual 131, 3) := by decide +kernel
theorem dX7_item_215 : decode cX7_item 215 = .ok (.ireturn, 1) := by decide +kernel
theorem dX7_item_216 : decode cX7_item 216 = .ok (.aload_n 0, 1) := by decide +kernel
theorem dX7_item_217 : decode cX7_item 217 = .ok (.getfield 26, 3) := by decide +kernel
theorem dX7_item_220 : decode cX7_item 220 = .ok (.aload_n 0, 1) := by decide +kernel
theorem dX7_item_221 : decode cX7_item 221 = .ok (.getfield 135, 3) := by decide +kernel
theorem dX7_item_224 : decode cX7_item 224 = .ok (.iload_n 1, 1) := by decide +kernel
theorem dX7_item_225 : decode cX7_item 225 = .ok (.bipush 43, 2) := by decide +kernel
theorem dX7_item_227 : decode cX7_item 227 = .ok (.if_icmp .ne 7, 3) := by decide +kernel
theorem dX7_item_230 : decode cX7_item 230 = .ok (.iload_n 2, 1) := by decide +kernel
theorem dX7_item_231 : decode cX7_item 231 = .ok (.goto 5, 3) := by decide +kernel
theorem dX7_item_234 : decode cX7_item 234 = .ok (.iload_n 2, 1) := by decide +kernel
theorem dX7_item_235 : decode cX7_item 235 = .ok (.ineg, 1) := by decide +kernel
theorem dX7_item_236 : decode cX7_item 236 = .ok (.iastore, 1) := by decide +kernel
theorem dX7_item_237 : decode cX7_item 237 = .ok (.aload_n 0, 1) := by decide +kernel
theorem dX7_item_238 : decode cX7_item 238 = .ok (.dup, 1) := by decide +kernel
theorem dX7_item_239 : decode cX7_item 239 = .ok (.getfield 135, 3) := by decide +kernel
theorem dX7_item_242 : decode cX7_item 242 = .ok (.iconst 1, 1) := by decide +kernel
theorem dX7_item_243 : decode cX7_item 243 = .ok (.iadd, 1) := by decide +kernel
theorem dX7_item_244 : decode cX7_item 244 = .ok (.putfield 135, 3) := by decide +kernel
theorem dX7_item_247 : decode cX7_item 247 = .ok (.aload_n 0, 1) := by decide +kernel
theorem dX7_item_248 : decode cX7_item 248 = .ok (.dup, 1) := by decide +kernel
theorem dX7_item_249 : decode cX7_item 249 = .ok (.getfield 108, 3) := by decide +kernel
theorem dX7_item_252 : decode cX7_item 252 = .ok (.iconst 1, 1) := by decide +kernel
theorem dX7_item_253 : decode cX7_item 253 = .ok (.iadd, 1) := by decide +kernel
theorem dX7_item_254 : decode cX7_item 254 = .ok (.putfield 108, 3) := by decide +kernel
theorem dX7_item_257 : decode cX7_item 257 = .ok (.iconst 1, 1) := by decide +kernel
theorem dX7_item_258 : decode cX7_item 258 = .ok (.ireturn, 1) := by decide +kernel
theorem dX7_pattern_0 : decode cX7_pattern 0 = .ok (.aload_n 0, 1) := by decide +kernel
theorem dX7_pattern_1 : decode cX7_pattern 1 = .ok (.dup, 1) := by decide +kernel
theorem dX7_pattern_2 : decode cX7_pattern 2 = .ok (.getfield 108, 3) := by decide +kernel
theorem dX7_pattern_5 : decode cX7_pattern 5 = .ok (.iconst 1, 1) := by decide +kernel
theorem dX7_pattern_6 : decode cX7_pattern 6 = .ok (.iadd, 1) := by decide +kernel
theorem dX7_pattern_7 : decode cX7_pattern 7 = .ok (.putfield 108, 3) := by decide +kernel
theorem dX7_pattern_10 : decode cX7_pattern 10 = .ok (.aload_n 0, 1) := by decide +kernel
theorem dX7_pattern_11 : decode cX7_pattern 11 = .ok (.invokevirtual 145, 3) := by decide +kernel
theorem dX7_pattern_14 : decode cX7_pattern 14 = .ok (.aload_n 0, 1) := by decide +kernel
theorem dX7_pattern_15 : decode cX7_pattern 15 = .ok (.invokevirtual 120, 3) := by decide +kernel
theorem dX7_pattern_18 : decode cX7_pattern 18 = .ok (.invokestatic 124, 3) := by decide +kernel
theorem dX7_pattern_21 : decode cX7_pattern 21 = .ok (.ifCond .ne 13, 3) := by decide +kernel
theorem dX7_pattern_24 : decode cX7_pattern 24 = .ok (.aload_n 0, 1) := by decide +kernel
theorem dX7_pattern_25 : decode cX7_pattern 25 = .ok (.iconst 1, 1) := by decide +kernel
theorem dX7_pattern_26 : decode cX7_pattern 26 = .ok (.aload_n 0, 1) := by decide +kernel
theorem dX7_pattern_27 : decode cX7_pattern 27 = .ok (.getfield 108, 3) := by decide +kernel
theorem dX7_pattern_30 : decode cX7_pattern 30 = .ok (.invokevirtual 131, 3) := by decide +kernel
theorem dX7_pattern_33 : decode cX7_pattern 33 = .ok (.ireturn, 1) := by decide +kernel
theorem dX7_pattern_34 : decode cX7_pattern 34 = .ok (.aload_n 0, 1) := by decide +kernel
theorem dX7_pattern_35 : decode cX7_pattern 35 = .ok (.invokevirtual 154, 3) := by decide +kernel
theorem dX7_pattern_38 : decode cX7_pattern 38 = .ok (.istore_n 1, 1) := by decide +kernel
theorem dX7_pattern_39 : decode cX7_pattern 39 = .ok (.iload_n 1, 1) := by decide +kernel
theorem dX7_pattern_40 : decode cX7_pattern 40 = .ok (.bipush 7, 2) := by decide +kernel
theorem dX7_pattern_42 : decode cX7_pattern 42 = .ok (.if_icmp .gt 11, 3) := by decide +kernel
theorem dX7_pattern_45 : decode cX7_pattern 45 = .ok (.aload_n 0, 1) := by decide +kernel
theorem dX7_pattern_46 : decode cX7_pattern 46 = .ok (.getfield 117, 3) := by decide +kernel
theorem dX7_pattern_49 : decode cX7_pattern 49 = .ok (.iconst 2, 1) := by decide +kernel
theorem dX7_pattern_50 : decode cX7_pattern 50 = .ok (.if_icmp .le 13, 3) := by decide +kernel
theorem dX7_pattern_53 : decode cX7_pattern 53 = .ok (.aload_n 0, 1) := by decide +kernel
theorem dX7_pattern_54 : decode cX7_pattern 54 = .ok (.iconst 2, 1) := by decide +kernel
theorem dX7_pattern_55 : decode cX7_pattern 55 = .ok (.aload_n 0, 1) := by decide +kernel
theorem dX7_pattern_56 : decode cX7_pattern 56 = .ok (.getfield 114, 3) := by decide +kernel
theorem dX7_pattern_59 : decode cX7_pattern 59 = .ok (.invokevirtual 131, 3) := by decide +kernel
theorem dX7_pattern_62 : decode cX7_pattern 62 = .ok (.ireturn, 1) := by decide +kernel
theorem dX7_pattern_63 : decode cX7_pattern 63 = .ok (.aload_n 0, 1) := by decide +kernel
theorem dX7_pattern_64 : decode cX7_pattern 64 = .ok (.getfield 17, 3) := by decide +kernel
theorem dX7_pattern_67 : decode cX7_pattern 67 = .ok (.iload_n 1, 1) := by decide +kernel
theorem dX7_pattern_68 : decode cX7_pattern 68 = .ok (.iaload, 1) := by decide +kernel
theorem dX7_pattern_69 : decode cX7_pattern 69 = .ok (.aload_n 0, 1) := by decide +kernel
theorem dX7_pattern_70 : decode cX7_pattern 70 = .ok (.getfield 138, 3) := by decide +kernel
theorem dX7_pattern_73 : decode cX7_pattern 73 = .ok (.if_icmp .eq 13, 3) := by decide +kernel
theorem dX7_pattern_76 : decode cX7_pattern 76 = .ok (.aload_n 0, 1) := by decide +kernel
theorem dX7_pattern_77 : decode cX7_pattern 77 = .ok (.iconst 3, 1) := by decide +kernel
theorem dX7_pattern_78 : decode cX7_pattern 78 = .ok (.aload_n 0, 1) := by decide +kernel
theorem dX7_pattern_79 : decode cX7_pattern 79 = .ok (.getfield 114, 3) := by decide +kernel
theorem dX7_pattern_82 : decode cX7_pattern 82 = .ok (.invokevirtual 131, 3) := by decide +kernel
theorem dX7_pattern_85 : decode cX7_pattern 85 = .ok (.ireturn, 1) := by decide +kernel
theorem dX7_pattern_86 : decode cX7_pattern 86 = .ok (.aload_n 0, 1) := by decide +kernel
theorem dX7_pattern_87 : decode cX7_pattern 87 = .ok (.getfield 135, 3) := by decide +kernel
theorem dX7_pattern_90 : decode cX7_pattern 90 = .ok (.aload_n 0, 1) := by decide +kernel
end
section
theorem dX7_pattern_91 : decode cX7_pattern 91 = .ok (.getfield 20, 3) := by decide +kernel
theorem dX7_pattern_94 : decode cX7_pattern 94 = .ok (.iload_n 1, 1) := by decide +kernel
theorem dX7_pattern_95 : decode cX7_pattern 95 = .ok (.iaload, 1) := by decide +kernel
theorem dX7_pattern_96 : decode cX7_pattern 96 = .ok (.iadd, 1) := by decide +kernel
theorem dX7_pattern_97 : decode cX7_pattern 97 = .ok (.sipush 300, 3) := by decide +kernel
theorem dX7_pattern_100 : decode cX7_pattern 100 = .ok (.if_icmp .le 13, 3) := by decide +kernel
theorem dX7_pattern_103 : decode cX7_pattern 103 = .ok (.aload_n 0, 1) := by decide +kernel
theorem dX7_pattern_104 : decode cX7_pattern 104 = .ok (.iconst 2, 1) := by decide +kernel
theorem dX7_pattern_105 : decode cX7_pattern 105 = .ok (.aload_n 0, 1) := by decide +kernel
theorem dX7_pattern_106 : decode cX7_pattern 106 = .ok (.getfield 114, 3) := by decide +kernel
theorem dX7_pattern_109 : decode cX7_pattern 109 = .ok (.invokevirtual 131, 3) := by decide +kernel
theorem dX7_pattern_112 : decode cX7_pattern 112 = .ok (.ireturn, 1) := by decide +kernel
theorem dX7_pattern_113 : decode cX7_pattern 113 = .ok (.iconst 0, 1) := by decide +kernel
theorem dX7_pattern_114 : decode cX7_pattern 114 = .ok (.istore_n 2, 1) := by decide +kernel
theorem dX7_pattern_115 : decode cX7_pattern 115 = .ok (.iload_n 2, 1) := by decide +kernel
theorem dX7_pattern_116 : decode cX7_pattern 116 = .ok (.aload_n 0, 1) := by decide +kernel
theorem dX7_pattern_117 : decode cX7_pattern 117 = .ok (.getfield 20, 3) := by decide +kernel
theorem dX7_pattern_120 : decode cX7_pattern 120 = .ok (.iload_n 1, 1) := by decide +kernel
theorem dX7_pattern_121 : decode cX7_pattern 121 = .ok (.iaload, 1) := by decide +kernel
theorem dX7_pattern_122 : decode cX7_pattern 122 = .ok (.if_icmp .ge 32, 3) := by decide +kernel
theorem dX7_pattern_125 : decode cX7_pattern 125 = .ok (.aload_n 0, 1) := by decide +kernel
theorem dX7_pattern_126 : decode cX7_pattern 126 = .ok (.getfield 26, 3) := by decide +kernel
theorem dX7_pattern_129 : decode cX7_pattern 129 = .ok (.aload_n 0, 1) := by decide +kernel
theorem dX7_pattern_130 : decode cX7_pattern 130 = .ok (.getfield 135, 3) := by decide +kernel
theorem dX7_pattern_133 : decode cX7_pattern 133 = .ok (.iload_n 2, 1) := by decide +kernel
theorem dX7_pattern_134 : decode cX7_pattern 134 = .ok (.iadd, 1) := by decide +kernel
theorem dX7_pattern_135 : decode cX7_pattern 135 = .ok (.aload_n 0, 1) := by decide +kernel
theorem dX7_pattern_136 : decode cX7_pattern 136 = .ok (.getfield 23, 3) := by decide +kernel
theorem dX7_pattern_139 : decode cX7_pattern 139 = .ok (.sipush 300, 3) := by decide +kernel
theorem dX7_pattern_142 : decode cX7_pattern 142 = .ok (.iload_n 1, 1) := by decide +kernel
theorem dX7_pattern_143 : decode cX7_pattern 143 = .ok (.imul, 1) := by decide +kernel
theorem dX7_pattern_144 : decode cX7_pattern 144 = .ok (.iload_n 2, 1) := by decide +kernel
theorem dX7_pattern_145 : decode cX7_pattern 145 = .ok (.iadd, 1) := by decide +kernel
theorem dX7_pattern_146 : decode cX7_pattern 146 = .ok (.iaload, 1) := by decide +kernel
theorem dX7_pattern_147 : decode cX7_pattern 147 = .ok (.iastore, 1) := by decide +kernel
theorem dX7_pattern_148 : decode cX7_pattern 148 = .ok (.iinc 2 1, 3) := by decide +kernel
theorem dX7_pattern_151 : decode cX7_pattern 151 = .ok (.goto (-36), 3) := by decide +kernel
theorem dX7_pattern_154 : decode cX7_pattern 154 = .ok (.aload_n 0, 1) := by decide +kernel
theorem dX7_pattern_155 : decode cX7_pattern 155 = .ok (.dup, 1) := by decide +kernel
theorem dX7_pattern_156 : decode cX7_pattern 156 = .ok (.getfield 135, 3) := by decide +kernel
theorem dX7_pattern_159 : decode cX7_pattern 159 = .ok (.aload_n 0, 1) := by decide +kernel
theorem dX7_pattern_160 : decode cX7_pattern 160 = .ok (.getfield 20, 3) := by decide +kernel
theorem dX7_pattern_163 : decode cX7_pattern 163 = .ok (.iload_n 1, 1) := by decide +kernel
theorem dX7_pattern_164 : decode cX7_pattern 164 = .ok (.iaload, 1) := by decide +kernel
theorem dX7_pattern_165 : decode cX7_pattern 165 = .ok (.iadd, 1) := by decide +kernel
theorem dX7_pattern_166 : decode cX7_pattern 166 = .ok (.putfield 135, 3) := by decide +kernel
theorem dX7_pattern_169 : decode cX7_pattern 169 = .ok (.iconst 1, 1) := by decide +kernel
theorem dX7_pattern_170 : decode cX7_pattern 170 = .ok (.ireturn, 1) := by decide +kernel
theorem dX7_pattern__0 : decode cX7_pattern_ 0 = .ok (.aload_n 0, 1) := by decide +kernel
theorem dX7_pattern__1 : decode cX7_pattern_ 1 = .ok (.iconst 0, 1) := by decide +kernel
theorem dX7_pattern__2 : decode cX7_pattern_ 2 = .ok (.putfield 95, 3) := by decide +kernel
theorem dX7_pattern__5 : decode cX7_pattern_ 5 = .ok (.aload_n 0, 1) := by decide +kernel
theorem dX7_pattern__6 : decode cX7_pattern_ 6 = .ok (.iload_n 1, 1) := by decide +kernel
theorem dX7_pattern__7 : decode cX7_pattern_ 7 = .ok (.ifCond .lt 36, 3) := by decide +kernel
theorem dX7_pattern__10 : decode cX7_pattern_ 10 = .ok (.iload_n 1, 1) := by decide +kernel
theorem dX7_pattern__11 : decode cX7_pattern_ 11 = .ok (.bipush 7, 2) := by decide +kernel
theorem dX7_pattern__13 : decode cX7_pattern_ 13 = .ok (.if_icmp .gt 30, 3) := by decide +kernel
theorem dX7_pattern__16 : decode cX7_pattern_ 16 = .ok (.iload_n 2, 1) := by decide +kernel
theorem dX7_pattern__17 : decode cX7_pattern_ 17 = .ok (.iconst 2, 1) := by decide +kernel
theorem dX7_pattern__18 : decode cX7_pattern_ 18 = .ok (.if_icmp .lt 25, 3) := by decide +kernel
theorem dX7_pattern__21 : decode cX7_pattern_ 21 = .ok (.iload_n 2, 1) := by decide +kernel
theorem dX7_pattern__22 : decode cX7_pattern_ 22 = .ok (.bipush 7, 2) := by decide +kernel
theorem dX7_pattern__24 : decode cX7_pattern_ 24 = .ok (.if_icmp .gt 19, 3) := by decide +kernel
theorem dX7_pattern__27 : decode cX7_pattern_ 27 = .ok (.iload_n 3, 1) := by decide +kernel
theorem dX7_pattern__28 : decode cX7_pattern_ 28 = .ok (.ifCond .lt 15, 3) := by decide +kernel
theorem dX7_pattern__31 : decode cX7_pattern_ 31 = .ok (.iload_n 3, 1) := by decide +kernel
theorem dX7_pattern__32 : decode cX7_pattern_ 32 = .ok (.aload_n 0, 1) := by decide +kernel
theorem dX7_pattern__33 : decode cX7_pattern_ 33 = .ok (.getfield 98, 3) := by decide +kernel
theorem dX7_pattern__36 : decode cX7_pattern_ 36 = .ok (.if_icmp .gt 7, 3) := by decide +kernel
theorem dX7_pattern__39 : decode cX7_pattern_ 39 = .ok (.iconst 1, 1) := by decide +kernel
theorem dX7_pattern__40 : decode cX7_pattern_ 40 = .ok (.goto 4, 3) := by decide +kernel
theorem dX7_pattern__43 : decode cX7_pattern_ 43 = .ok (.iconst 0, 1) := by decide +kernel
theorem dX7_pattern__44 : decode cX7_pattern_ 44 = .ok (.iconst 1, 1) := by decide +kernel
theorem dX7_pattern__45 : decode cX7_pattern_ 45 = .ok (.invokevirtual 157, 3) := by decide +kernel
theorem dX7_pattern__48 : decode cX7_pattern_ 48 = .ok (.ifCond .ne 5, 3) := by decide +kernel
theorem dX7_pattern__51 : decode cX7_pattern_ 51 = .ok (.iconst 0, 1) := by decide +kernel
theorem dX7_pattern__52 : decode cX7_pattern_ 52 = .ok (.ireturn, 1) := by decide +kernel
theorem dX7_pattern__53 : decode cX7_pattern_ 53 = .ok (.aload_n 0, 1) := by decide +kernel
theorem dX7_pattern__54 : decode cX7_pattern_ 54 = .ok (.iload_n 3, 1) := by decide +kernel
theorem dX7_pattern__55 : decode cX7_pattern_ 55 = .ok (.putfield 111, 3) := by decide +kernel
theorem dX7_pattern__58 : decode cX7_pattern_ 58 = .ok (.aload_n 0, 1) := by decide +kernel
theorem dX7_pattern__59 : decode cX7_pattern_ 59 = .ok (.iconst 0, 1) := by decide +kernel
theorem dX7_pattern__60 : decode cX7_pattern_ 60 = .ok (.putfield 98, 3) := by decide +kernel
theorem dX7_pattern__63 : decode cX7_pattern_ 63 = .ok (.aload_n 0, 1) := by decide +kernel
theorem dX7_pattern__64 : decode cX7_pattern_ 64 = .ok (.iconst 0, 1) := by decide +kernel
theorem dX7_pattern__65 : decode cX7_pattern_ 65 = .ok (.putfield 108, 3) := by decide +kernel
theorem dX7_pattern__68 : decode cX7_pattern_ 68 = .ok (.aload_n 0, 1) := by decide +kernel
theorem dX7_pattern__69 : decode cX7_pattern_ 69 = .ok (.iload_n 2, 1) := by decide +kernel
theorem dX7_pattern__70 : decode cX7_pattern_ 70 = .ok (.putfield 138, 3) := by decide +kernel
theorem dX7_pattern__73 : decode cX7_pattern_ 73 = .ok (.aload_n 0, 1) := by decide +kernel
theorem dX7_pattern__74 : decode cX7_pattern_ 74 = .ok (.iconst 0, 1) := by decide +kernel
theorem dX7_pattern__75 : decode cX7_pattern_ 75 = .ok (.putfield 135, 3) := by decide +kernel
theorem dX7_pattern__78 : decode cX7_pattern_ 78 = .ok (.aload_n 0, 1) := by decide +kernel
theorem dX7_pattern__79 : decode cX7_pattern_ 79 = .ok (.iconst 0, 1) := by decide +kernel
theorem dX7_pattern__80 : decode cX7_pattern_ 80 = .ok (.putfield 128, 3) := by decide +kernel
theorem dX7_pattern__83 : decode cX7_pattern_ 83 = .ok (.aload_n 0, 1) := by decide +kernel
theorem dX7_pattern__84 : decode cX7_pattern_ 84 = .ok (.iconst 0, 1) := by decide +kernel
theorem dX7_pattern__85 : decode cX7_pattern_ 85 = .ok (.putfield 105, 3) := by decide +kernel
theorem dX7_pattern__88 : decode cX7_pattern_ 88 = .ok (.aload_n 0, 1) := by decide +kernel
theorem dX7_pattern__89 : decode cX7_pattern_ 89 = .ok (.iconst (-1), 1) := by decide +kernel
theorem dX7_pattern__90 : decode cX7_pattern_ 90 = .ok (.putfield 13, 3) := by decide +kernel
theorem dX7_pattern__93 : decode cX7_pattern_ 93 = .ok (.iconst 1, 1) := by decide +kernel
theorem dX7_pattern__94 : decode cX7_pattern_ 94 = .ok (.istore 4, 2) := by decide +kernel
theorem dX7_pattern__96 : decode cX7_pattern_ 96 = .ok (.aload_n 0, 1) := by decide +kernel
theorem dX7_pattern__97 : decode cX7_pattern_ 97 = .ok (.invokevirtual 145, 3) := by decide +kernel
theorem dX7_pattern__100 : decode cX7_pattern_ 100 = .ok (.iload 4, 2) := by decide +kernel
theorem dX7_pattern__102 : decode cX7_pattern_ 102 = .ok (.ifCond .eq 27, 3) := by decide +kernel
theorem dX7_pattern__105 : decode cX7_pattern_ 105 = .ok (.aload_n 0, 1) := by decide +kernel
theorem dX7_pattern__106 : decode cX7_pattern_ 106 = .ok (.getfield 108, 3) := by decide +kernel
theorem dX7_pattern__109 : decode cX7_pattern_ 109 = .ok (.aload_n 0, 1) := by decide +kernel
theorem dX7_pattern__110 : decode cX7_pattern_ 110 = .ok (.getfield 111, 3) := by decide +kernel
theorem dX7_pattern__113 : decode cX7_pattern_ 113 = .ok (.if_icmp .ge 16, 3) := by decide +kernel
theorem dX7_pattern__116 : decode cX7_pattern_ 116 = .ok (.aload_n 0, 1) := by decide +kernel
theorem dX7_pattern__117 : decode cX7_pattern_ 117 = .ok (.invokevirtual 161, 3) := by decide +kernel
theorem dX7_pattern__120 : decode cX7_pattern_ 120 = .ok (.istore 4, 2) := by decide +kernel
theorem dX7_pattern__122 : decode cX7_pattern_ 122 = .ok (.aload_n 0, 1) := by decide +kernel
theorem dX7_pattern__123 : decode cX7_pattern_ 123 = .ok (.invokevirtual 145, 3) := by decide +kernel
theorem dX7_pattern__126 : decode cX7_pattern_ 126 = .ok (.goto (-26), 3) := by decide +kernel
theorem dX7_pattern__129 : decode cX7_pattern_ 129 = .ok (.iload 4, 2) := by decide +kernel
theorem dX7_pattern__131 : decode cX7_pattern_ 131 = .ok (.ifCond .eq 21, 3) := by decide +kernel
theorem dX7_pattern__134 : decode cX7_pattern_ 134 = .ok (.aload_n 0, 1) := by decide +kernel
theorem dX7_pattern__135 : decode cX7_pattern_ 135 = .ok (.getfield 128, 3) := by decide +kernel
theorem dX7_pattern__138 : decode cX7_pattern_ 138 = .ok (.ifCond .le 14, 3) := by decide +kernel
theorem dX7_pattern__141 : decode cX7_pattern_ 141 = .ok (.aload_n 0, 1) := by decide +kernel
theorem dX7_pattern__142 : decode cX7_pattern_ 142 = .ok (.iconst 1, 1) := by decide +kernel
theorem dX7_pattern__143 : decode cX7_pattern_ 143 = .ok (.aload_n 0, 1) := by decide +kernel
theorem dX7_pattern__144 : decode cX7_pattern_ 144 = .ok (.getfield 111, 3) := by decide +kernel
theorem dX7_pattern__147 : decode cX7_pattern_ 147 = .ok (.invokevirtual 131, 3) := by decide +kernel
theorem dX7_pattern__150 : decode cX7_pattern_ 150 = .ok (.istore 4, 2) := by decide +kernel
theorem dX7_pattern__152 : decode cX7_pattern_ 152 = .ok (.iload 4, 2) := by decide +kernel
theorem dX7_pattern__154 : decode cX7_pattern_ 154 = .ok (.ifCond .ne 8, 3) := by decide +kernel
theorem dX7_pattern__157 : decode cX7_pattern_ 157 = .ok (.aload_n 0, 1) := by decide +kernel
theorem dX7_pattern__158 : decode cX7_pattern_ 158 = .ok (.getfield 105, 3) := by decide +kernel
theorem dX7_pattern__161 : decode cX7_pattern_ 161 = .ok (.ireturn, 1) := by decide +kernel
theorem dX7_pattern__162 : decode cX7_pattern_ 162 = .ok (.aload_n 0, 1) := by decide +kernel
theorem dX7_pattern__163 : decode cX7_pattern_ 163 = .ok (.getfield 17, 3) := by decide +kernel
theorem dX7_pattern__166 : decode cX7_pattern_ 166 = .ok (.iload_n 1, 1) := by decide +kernel
theorem dX7_pattern__167 : decode cX7_pattern_ 167 = .ok (.aload_n 0, 1) := by decide +kernel
theorem dX7_pattern__168 : decode cX7_pattern_ 168 = .ok (.getfield 138, 3) := by decide +kernel
theorem dX7_pattern__171 : decode cX7_pattern_ 171 = .ok (.iastore, 1) := by decide +kernel
theorem dX7_pattern__172 : decode cX7_pattern_ 172 = .ok (.aload_n 0, 1) := by decide +kernel
theorem dX7_pattern__173 : decode cX7_pattern_ 173 = .ok (.getfield 20, 3) := by decide +kernel
theorem dX7_pattern__176 : decode cX7_pattern_ 176 = .ok (.iload_n 1, 1) := by decide +kernel
theorem dX7_pattern__177 : decode cX7_pattern_ 177 = .ok (.aload_n 0, 1) := by decide +kernel
theorem dX7_pattern__178 : decode cX7_pattern_ 178 = .ok (.getfield 135, 3) := by decide +kernel
theorem dX7_pattern__181 : decode cX7_pattern_ 181 = .ok (.iastore, 1) := by decide +kernel
theorem dX7_pattern__182 : decode cX7_pattern_ 182 = .ok (.iconst 0, 1) := by decide +kernel
theorem dX7_pattern__183 : decode cX7_pattern_ 183 = .ok (.istore 5, 2) := by decide +kernel
theorem dX7_pattern__185 : decode cX7_pattern_ 185 = .ok (.iload 5, 2) := by decide +kernel
theorem dX7_pattern__187 : decode cX7_pattern_ 187 = .ok (.aload_n 0, 1) := by decide +kernel
theorem dX7_pattern__188 : decode cX7_pattern_ 188 = .ok (.getfield 135, 3) := by decide +kernel
theorem dX7_pattern__191 : decode cX7_pattern_ 191 = .ok (.if_icmp .ge 29, 3) := by decide +kernel
theorem dX7_pattern__194 : decode cX7_pattern_ 194 = .ok (.aload_n 0, 1) := by decide +kernel
theorem dX7_pattern__195 : decode cX7_pattern_ 195 = .ok (.getfield 23, 3) := by decide +kernel
theorem dX7_pattern__198 : decode cX7_pattern_ 198 = .ok (.sipush 300, 3) := by decide +kernel
theorem dX7_pattern__201 : decode cX7_pattern_ 201 = .ok (.iload_n 1, 1) := by decide +kernel
theorem dX7_pattern__202 : decode cX7_pattern_ 202 = .ok (.imul, 1) := by decide +kernel
theorem dX7_pattern__203 : decode cX7_pattern_ 203 = .ok (.iload 5, 2) := by decide +kernel
theorem dX7_pattern__205 : decode cX7_pattern_ 205 = .ok (.iadd, 1) := by decide +kernel
theorem dX7_pattern__206 : decode cX7_pattern_ 206 = .ok (.aload_n 0, 1) := by decide +kernel
theorem dX7_pattern__207 : decode cX7_pattern_ 207 = .ok (.getfield 26, 3) := by decide +kernel
theorem dX7_pattern__210 : decode cX7_pattern_ 210 = .ok (.iload 5, 2) := by decide +kernel
theorem dX7_pattern__212 : decode cX7_pattern_ 212 = .ok (.iaload, 1) := by decide +kernel
theorem dX7_pattern__213 : decode cX7_pattern_ 213 = .ok (.iastore, 1) := by decide +kernel
theorem dX7_pattern__214 : decode cX7_pattern_ 214 = .ok (.iinc 5 1, 3) := by decide +kernel
theorem dX7_pattern__217 : decode cX7_pattern_ 217 = .ok (.goto (-32), 3) := by decide +kernel
theorem dX7_pattern__220 : decode cX7_pattern_ 220 = .ok (.iconst 0, 1) := by decide +kernel
theorem dX7_pattern__221 : decode cX7_pattern_ 221 = .ok (.ireturn, 1) := by decide +kernel
theorem dX7_fault_0 : decode cX7_fault 0 = .ok (.aload_n 0, 1) := by decide +kernel
theorem dX7_fault_1 : decode cX7_fault 1 = .ok (.iconst 0, 1) := by decide +kernel
theorem dX7_fault_2 : decode cX7_fault 2 = .ok (.putfield 95, 3) := by decide +kernel
theorem dX7_fault_5 : decode cX7_fault 5 = .ok (.aload_n 0, 1) := by decide +kernel
theorem dX7_fault_6 : decode cX7_fault 6 = .ok (.iload_n 1, 1) := by decide +kernel
theorem dX7_fault_7 : decode cX7_fault 7 = .ok (.ifCond .eq 8, 3) := by decide +kernel
theorem dX7_fault_10 : decode cX7_fault 10 = .ok (.iload_n 1, 1) := by decide +kernel
theorem dX7_fault_11 : decode cX7_fault 11 = .ok (.iconst 1, 1) := by decide +kernel
theorem dX7_fault_12 : decode cX7_fault 12 = .ok (.if_icmp .ne 7, 3) := by decide +kernel
theorem dX7_fault_15 : decode cX7_fault 15 = .ok (.iconst 1, 1) := by decide +kernel
theorem dX7_fault_16 : decode cX7_fault 16 = .ok (.goto 4, 3) := by decide +kernel
theorem dX7_fault_19 : decode cX7_fault 19 = .ok (.iconst 0, 1) := by decide +kernel
theorem dX7_fault_20 : decode cX7_fault 20 = .ok (.iconst 1, 1) := by decide +kernel
theorem dX7_fault_21 : decode cX7_fault 21 = .ok (.invokevirtual 157, 3) := by decide +kernel
theorem dX7_fault_24 : decode cX7_fault 24 = .ok (.ifCond .ne 5, 3) := by decide +kernel
theorem dX7_fault_27 : decode cX7_fault 27 = .ok (.iconst 0, 1) := by decide +kernel
theorem dX7_fault_28 : decode cX7_fault 28 = .ok (.ireturn, 1) := by decide +kernel
theorem dX7_fault_29 : decode cX7_fault 29 = .ok (.iload_n 1, 1) := by decide +kernel
theorem dX7_fault_30 : decode cX7_fault 30 = .ok (.ifCond .ne 10, 3) := by decide +kernel
theorem dX7_fault_33 : decode cX7_fault 33 = .ok (.aload_n 0, 1) := by decide +kernel
theorem dX7_fault_34 : decode cX7_fault 34 = .ok (.getfield 105, 3) := by decide +kernel
theorem dX7_fault_37 : decode cX7_fault 37 = .ok (.goto 7, 3) := by decide +kernel
theorem dX7_fault_40 : decode cX7_fault 40 = .ok (.aload_n 0, 1) := by decide +kernel
theorem dX7_fault_41 : decode cX7_fault 41 = .ok (.getfield 13, 3) := by decide +kernel
theorem dX7_fault_44 : decode cX7_fault 44 = .ok (.ireturn, 1) := by decide +kernel
theorem dX7_isPattern_0 : decode cX7_isPattern 0 = .ok (.aload_n 0, 1) := by decide +kernel
theorem dX7_isPattern_1 : decode cX7_isPattern 1 = .ok (.iconst 0, 1) := by decide +kernel
theorem dX7_isPattern_2 : decode cX7_isPattern 2 = .ok (.putfield 95, 3) := by decide +kernel
theorem dX7_isPattern_5 : decode cX7_isPattern 5 = .ok (.aload_n 0, 1) := by decide +kernel
theorem dX7_isPattern_6 : decode cX7_isPattern 6 = .ok (.iload_n 1, 1) := by decide +kernel
theorem dX7_isPattern_7 : decode cX7_isPattern 7 = .ok (.ifCond .lt 22, 3) := by decide +kernel
theorem dX7_isPattern_10 : decode cX7_isPattern 10 = .ok (.iload_n 1, 1) := by decide +kernel
theorem dX7_isPattern_11 : decode cX7_isPattern 11 = .ok (.bipush 7, 2) := by decide +kernel
theorem dX7_isPattern_13 : decode cX7_isPattern 13 = .ok (.if_icmp .gt 16, 3) := by decide +kernel
theorem dX7_isPattern_16 : decode cX7_isPattern 16 = .ok (.aload_n 0, 1) := by decide +kernel
theorem dX7_isPattern_17 : decode cX7_isPattern 17 = .ok (.getfield 17, 3) := by decide +kernel
theorem dX7_isPattern_20 : decode cX7_isPattern 20 = .ok (.iload_n 1, 1) := by decide +kernel
theorem dX7_isPattern_21 : decode cX7_isPattern 21 = .ok (.iaload, 1) := by decide +kernel
theorem dX7_isPattern_22 : decode cX7_isPattern 22 = .ok (.ifCond .le 7, 3) := by decide +kernel
theorem dX7_isPattern_25 : decode cX7_isPattern 25 = .ok (.iconst 1, 1) := by decide +kernel
theorem dX7_isPattern_26 : decode cX7_isPattern 26 = .ok (.goto 4, 3) := by decide +kernel
theorem dX7_isPattern_29 : decode cX7_isPattern 29 = .ok (.iconst 0, 1) := by decide +kernel
theorem dX7_isPattern_30 : decode cX7_isPattern 30 = .ok (.iconst 1, 1) := by decide +kernel
theorem dX7_isPattern_31 : decode cX7_isPattern 31 = .ok (.invokevirtual 157, 3) := by decide +kernel
theorem dX7_isPattern_34 : decode cX7_isPattern 34 = .ok (.ireturn, 1) := by decide +kernel
theorem dX7_size_0 : decode cX7_size 0 = .ok (.aload_n 0, 1) := by decide +kernel
theorem dX7_size_1 : decode cX7_size 1 = .ok (.iconst 0, 1) := by decide +kernel
theorem dX7_size_2 : decode cX7_size 2 = .ok (.putfield 95, 3) := by decide +kernel
theorem dX7_size_5 : decode cX7_size 5 = .ok (.iload_n 1, 1) := by decide +kernel
theorem dX7_size_6 : decode cX7_size 6 = .ok (.ifCond .lt 27, 3) := by decide +kernel
theorem dX7_size_9 : decode cX7_size 9 = .ok (.iload_n 1, 1) := by decide +kernel
theorem dX7_size_10 : decode cX7_size 10 = .ok (.bipush 7, 2) := by decide +kernel
theorem dX7_size_12 : decode cX7_size 12 = .ok (.if_icmp .gt 21, 3) := by decide +kernel
theorem dX7_size_15 : decode cX7_size 15 = .ok (.aload_n 0, 1) := by decide +kernel
theorem dX7_size_16 : decode cX7_size 16 = .ok (.getfield 17, 3) := by decide +kernel
theorem dX7_size_19 : decode cX7_size 19 = .ok (.iload_n 1, 1) := by decide +kernel
theorem dX7_size_20 : decode cX7_size 20 = .ok (.iaload, 1) := by decide +kernel
theorem dX7_size_21 : decode cX7_size 21 = .ok (.ifCond .le 12, 3) := by decide +kernel
theorem dX7_size_24 : decode cX7_size 24 = .ok (.aload_n 0, 1) := by decide +kernel
theorem dX7_size_25 : decode cX7_size 25 = .ok (.getfield 20, 3) := by decide +kernel
theorem dX7_size_28 : decode cX7_size 28 = .ok (.iload_n 1, 1) := by decide +kernel
theorem dX7_size_29 : decode cX7_size 29 = .ok (.iaload, 1) := by decide +kernel
theorem dX7_size_30 : decode cX7_size 30 = .ok (.goto 4, 3) := by decide +kernel
theorem dX7_size_33 : decode cX7_size 33 = .ok (.iconst (-1), 1) := by decide +kernel
theorem dX7_size_34 : decode cX7_size 34 = .ok (.ireturn, 1) := by decide +kernel
theorem dX7_crossing_0 : decode cX7_crossing 0 = .ok (.aload_n 0, 1) := by decide +kernel
theorem dX7_crossing_1 : decode cX7_crossing 1 = .ok (.iload_n 1, 1) := by decide +kernel
theorem dX7_crossing_2 : decode cX7_crossing 2 = .ok (.invokevirtual 164, 3) := by decide +kernel
theorem dX7_crossing_5 : decode cX7_crossing 5 = .ok (.ifCond .eq 45, 3) := by decide +kernel
theorem dX7_crossing_8 : decode cX7_crossing 8 = .ok (.aload_n 0, 1) := by decide +kernel
theorem dX7_crossing_9 : decode cX7_crossing 9 = .ok (.iload_n 2, 1) := by decide +kernel
theorem dX7_crossing_10 : decode cX7_crossing 10 = .ok (.ifCond .lt 17, 3) := by decide +kernel
theorem dX7_crossing_13 : decode cX7_crossing 13 = .ok (.iload_n 2, 1) := by decide +kernel
theorem dX7_crossing_14 : decode cX7_crossing 14 = .ok (.aload_n 0, 1) := by decide +kernel
theorem dX7_crossing_15 : decode cX7_crossing 15 = .ok (.getfield 20, 3) := by decide +kernel
theorem dX7_crossing_18 : decode cX7_crossing 18 = .ok (.iload_n 1, 1) := by decide +kernel
theorem dX7_crossing_19 : decode cX7_crossing 19 = .ok (.iaload, 1) := by decide +kernel
theorem dX7_crossing_20 : decode cX7_crossing 20 = .ok (.if_icmp .ge 7, 3) := by decide +kernel
theorem dX7_crossing_23 : decode cX7_crossing 23 = .ok (.iconst 1, 1) := by decide +kernel
theorem dX7_crossing_24 : decode cX7_crossing 24 = .ok (.goto 4, 3) := by decide +kernel
theorem dX7_crossing_27 : decode cX7_crossing 27 = .ok (.iconst 0, 1) := by decide +kernel
theorem dX7_crossing_28 : decode cX7_crossing 28 = .ok (.iconst 1, 1) := by decide +kernel
theorem dX7_crossing_29 : decode cX7_crossing 29 = .ok (.invokevirtual 157, 3) := by decide +kernel
theorem dX7_crossing_32 : decode cX7_crossing 32 = .ok (.ifCond .eq 18, 3) := by decide +kernel
theorem dX7_crossing_35 : decode cX7_crossing 35 = .ok (.aload_n 0, 1) := by decide +kernel
theorem dX7_crossing_36 : decode cX7_crossing 36 = .ok (.getfield 23, 3) := by decide +kernel
theorem dX7_crossing_39 : decode cX7_crossing 39 = .ok (.sipush 300, 3) := by decide +kernel
theorem dX7_crossing_42 : decode cX7_crossing 42 = .ok (.iload_n 1, 1) := by decide +kernel
theorem dX7_crossing_43 : decode cX7_crossing 43 = .ok (.imul, 1) := by decide +kernel
theorem dX7_crossing_44 : decode cX7_crossing 44 = .ok (.iload_n 2, 1) := by decide +kernel
theorem dX7_crossing_45 : decode cX7_crossing 45 = .ok (.iadd, 1) := by decide +kernel
theorem dX7_crossing_46 : decode cX7_crossing 46 = .ok (.iaload, 1) := by decide +kernel
theorem dX7_crossing_47 : decode cX7_crossing 47 = .ok (.goto 4, 3) := by decide +kernel
theorem dX7_crossing_50 : decode cX7_crossing 50 = .ok (.iconst 0, 1) := by decide +kernel
theorem dX7_crossing_51 : decode cX7_crossing 51 = .ok (.ireturn, 1) := by decide +kernel
theorem dX7_get_0 : decode cX7_get 0 = .ok (.aload_n 0, 1) := by decide +kernel
theorem dX7_get_1 : decode cX7_get 1 = .ok (.getfield 35, 3) := by decide +kernel
theorem dX7_get_4 : decode cX7_get 4 = .ok (.bipush 8, 2) := by decide +kernel
theorem dX7_get_6 : decode cX7_get 6 = .ok (.iload_n 1, 1) := by decide +kernel
theorem dX7_get_7 : decode cX7_get 7 = .ok (.imul, 1) := by decide +kernel
theorem dX7_get_8 : decode cX7_get 8 = .ok (.iload_n 2, 1) := by decide +kernel
theorem dX7_get_9 : decode cX7_get 9 = .ok (.iadd, 1) := by decide +kernel
theorem dX7_get_10 : decode cX7_get 10 = .ok (.iaload, 1) := by decide +kernel
theorem dX7_get_11 : decode cX7_get 11 = .ok (.ireturn, 1) := by decide +kernel
theorem dX7_from_0 : decode cX7_from 0 = .ok (.iconst 1, 1) := by decide +kernel
theorem dX7_from_1 : decode cX7_from 1 = .ok (.istore_n 3, 1) := by decide +kernel
theorem dX7_from_2 : decode cX7_from 2 = .ok (.aload_n 0, 1) := by decide +kernel
theorem dX7_from_3 : decode cX7_from 3 = .ok (.iload_n 1, 1) := by decide +kernel
theorem dX7_from_4 : decode cX7_from 4 = .ok (.iload_n 3, 1) := by decide +kernel
theorem dX7_from_5 : decode cX7_from 5 = .ok (.invokevirtual 167, 3) := by decide +kernel
theorem dX7_from_8 : decode cX7_from 8 = .ok (.iload_n 2, 1) := by decide +kernel
theorem dX7_from_9 : decode cX7_from 9 = .ok (.if_icmp .eq 9, 3) := by decide +kernel
theorem dX7_from_12 : decode cX7_from 12 = .ok (.iinc 3 1, 3) := by decide +kernel
theorem dX7_from_15 : decode cX7_from 15 = .ok (.goto (-13), 3) := by decide +kernel
theorem dX7_from_18 : decode cX7_from 18 = .ok (.iload_n 3, 1) := by decide +kernel
theorem dX7_from_19 : decode cX7_from 19 = .ok (.ireturn, 1) := by decide +kernel
theorem dX7_behind_0 : decode cX7_behind 0 = .ok (.aload_n 0, 1) := by decide +kernel
theorem dX7_behind_1 : decode cX7_behind 1 = .ok (.iload_n 1, 1) := by decide +kernel
theorem dX7_behind_2 : decode cX7_behind 2 = .ok (.iload_n 2, 1) := by decide +kernel
theorem dX7_behind_3 : decode cX7_behind 3 = .ok (.invokevirtual 171, 3) := by decide +kernel
theorem dX7_behind_6 : decode cX7_behind 6 = .ok (.istore_n 3, 1) := by decide +kernel
theorem dX7_behind_7 : decode cX7_behind 7 = .ok (.aload_n 0, 1) := by decide +kernel
theorem dX7_behind_8 : decode cX7_behind 8 = .ok (.iload_n 1, 1) := by decide +kernel
theorem dX7_behind_9 : decode cX7_behind 9 = .ok (.iload_n 2, 1) := by decide +kernel
theorem dX7_behind_10 : decode cX7_behind 10 = .ok (.iconst 1, 1) := by decide +kernel
theorem dX7_behind_11 : decode cX7_behind 11 = .ok (.iadd, 1) := by decide +kernel
theorem dX7_behind_12 : decode cX7_behind 12 = .ok (.invokevirtual 171, 3) := by decide +kernel
theorem dX7_behind_15 : decode cX7_behind 15 = .ok (.istore 4, 2) := by decide +kernel
theorem dX7_behind_17 : decode cX7_behind 17 = .ok (.aload_n 0, 1) := by decide +kernel
theorem dX7_behind_18 : decode cX7_behind 18 = .ok (.getfield 35, 3) := by decide +kernel
theorem dX7_behind_21 : decode cX7_behind 21 = .ok (.bipush 8, 2) := by decide +kernel
theorem dX7_behind_23 : decode cX7_behind 23 = .ok (.iload_n 1, 1) := by decide +kernel
theorem dX7_behind_24 : decode cX7_behind 24 = .ok (.imul, 1) := by decide +kernel
theorem dX7_behind_25 : decode cX7_behind 25 = .ok (.iload_n 3, 1) := by decide +kernel
theorem dX7_behind_26 : decode cX7_behind 26 = .ok (.iadd, 1) := by decide +kernel
theorem dX7_behind_27 : decode cX7_behind 27 = .ok (.iload_n 2, 1) := by decide +kernel
theorem dX7_behind_28 : decode cX7_behind 28 = .ok (.iconst 1, 1) := by decide +kernel
theorem dX7_behind_29 : decode cX7_behind 29 = .ok (.iadd, 1) := by decide +kernel
theorem dX7_behind_30 : decode cX7_behind 30 = .ok (.iastore, 1) := by decide +kernel
theorem dX7_behind_31 : decode cX7_behind 31 = .ok (.aload_n 0, 1) := by decide +kernel
theorem dX7_behind_32 : decode cX7_behind 32 = .ok (.getfield 35, 3) := by decide +kernel
theorem dX7_behind_35 : decode cX7_behind 35 = .ok (.bipush 8, 2) := by decide +kernel
theorem dX7_behind_37 : decode cX7_behind 37 = .ok (.iload_n 1, 1) := by decide +kernel
theorem dX7_behind_38 : decode cX7_behind 38 = .ok (.imul, 1) := by decide +kernel
theorem dX7_behind_39 : decode cX7_behind 39 = .ok (.iload 4, 2) := by decide +kernel
theorem dX7_behind_41 : decode cX7_behind 41 = .ok (.iadd, 1) := by decide +kernel
theorem dX7_behind_42 : decode cX7_behind 42 = .ok (.iload_n 2, 1) := by decide +kernel
theorem dX7_behind_43 : decode cX7_behind 43 = .ok (.iastore, 1) := by decide +kernel
theorem dX7_behind_44 : decode cX7_behind 44 = .ok (.return_, 1) := by decide +kernel
theorem dX7_turns_0 : decode cX7_turns 0 = .ok (.iconst 1, 1) := by decide +kernel
theorem dX7_turns_1 : decode cX7_turns 1 = .ok (.istore_n 3, 1) := by decide +kernel
theorem dX7_turns_2 : decode cX7_turns 2 = .ok (.iload_n 3, 1) := by decide +kernel
theorem dX7_turns_3 : decode cX7_turns 3 = .ok (.iload_n 2, 1) := by decide +kernel
theorem dX7_turns_4 : decode cX7_turns 4 = .ok (.if_icmp .gt 29, 3) := by decide +kernel
theorem dX7_turns_7 : decode cX7_turns 7 = .ok (.aload_n 0, 1) := by decide +kernel
theorem dX7_turns_8 : decode cX7_turns 8 = .ok (.getfield 38, 3) := by decide +kernel
theorem dX7_turns_11 : decode cX7_turns 11 = .ok (.iload_n 3, 1) := by decide +kernel
theorem dX7_turns_12 : decode cX7_turns 12 = .ok (.iload_n 2, 1) := by decide +kernel
theorem dX7_turns_13 : decode cX7_turns 13 = .ok (.iconst 1, 1) := by decide +kernel
theorem dX7_turns_14 : decode cX7_turns 14 = .ok (.iadd, 1) := by decide +kernel
theorem dX7_turns_15 : decode cX7_turns 15 = .ok (.aload_n 0, 1) := by decide +kernel
theorem dX7_turns_16 : decode cX7_turns 16 = .ok (.iload_n 1, 1) := by decide +kernel
theorem dX7_turns_17 : decode cX7_turns 17 = .ok (.iload_n 2, 1) := by decide +kernel
theorem dX7_turns_18 : decode cX7_turns 18 = .ok (.iconst 1, 1) := by decide +kernel
theorem dX7_turns_19 : decode cX7_turns 19 = .ok (.iadd, 1) := by decide +kernel
theorem dX7_turns_20 : decode cX7_turns 20 = .ok (.iload_n 3, 1) := by decide +kernel
theorem dX7_turns_21 : decode cX7_turns 21 = .ok (.isub, 1) := by decide +kernel
theorem dX7_turns_22 : decode cX7_turns 22 = .ok (.invokevirtual 167, 3) := by decide +kernel
theorem dX7_turns_25 : decode cX7_turns 25 = .ok (.isub, 1) := by decide +kernel
theorem dX7_turns_26 : decode cX7_turns 26 = .ok (.iastore, 1) := by decide +kernel
theorem dX7_turns_27 : decode cX7_turns 27 = .ok (.iinc 3 1, 3) := by decide +kernel
theorem dX7_turns_30 : decode cX7_turns 30 = .ok (.goto (-28), 3) := by decide +kernel
theorem dX7_turns_33 : decode cX7_turns 33 = .ok (.iconst 1, 1) := by decide +kernel
theorem dX7_turns_34 : decode cX7_turns 34 = .ok (.istore_n 3, 1) := by decide +kernel
theorem dX7_turns_35 : decode cX7_turns 35 = .ok (.iload_n 3, 1) := by decide +kernel
theorem dX7_turns_36 : decode cX7_turns 36 = .ok (.iload_n 2, 1) := by decide +kernel
theorem dX7_turns_37 : decode cX7_turns 37 = .ok (.if_icmp .gt 26, 3) := by decide +kernel
theorem dX7_turns_40 : decode cX7_turns 40 = .ok (.aload_n 0, 1) := by decide +kernel
theorem dX7_turns_41 : decode cX7_turns 41 = .ok (.getfield 35, 3) := by decide +kernel
theorem dX7_turns_44 : decode cX7_turns 44 = .ok (.bipush 8, 2) := by decide +kernel
theorem dX7_turns_46 : decode cX7_turns 46 = .ok (.iload_n 1, 1) := by decide +kernel
theorem dX7_turns_47 : decode cX7_turns 47 = .ok (.imul, 1) := by decide +kernel
theorem dX7_turns_48 : decode cX7_turns 48 = .ok (.iload_n 3, 1) := by decide +kernel
theorem dX7_turns_49 : decode cX7_turns 49 = .ok (.iadd, 1) := by decide +kernel
theorem dX7_turns_50 : decode cX7_turns 50 = .ok (.aload_n 0, 1) := by decide +kernel
theorem dX7_turns_51 : decode cX7_turns 51 = .ok (.getfield 38, 3) := by decide +kernel
theorem dX7_turns_54 : decode cX7_turns 54 = .ok (.iload_n 3, 1) := by decide +kernel
theorem dX7_turns_55 : decode cX7_turns 55 = .ok (.iaload, 1) := by decide +kernel
theorem dX7_turns_56 : decode cX7_turns 56 = .ok (.iastore, 1) := by decide +kernel
theorem dX7_turns_57 : decode cX7_turns 57 = .ok (.iinc 3 1, 3) := by decide +kernel
theorem dX7_turns_60 : decode cX7_turns 60 = .ok (.goto (-25), 3) := by decide +kernel
theorem dX7_turns_63 : decode cX7_turns 63 = .ok (.return_, 1) := by decide +kernel
theorem dX7_isAll_0 : decode cX7_isAll 0 = .ok (.iconst 1, 1) := by decide +kernel
theorem dX7_isAll_1 : decode cX7_isAll 1 = .ok (.istore_n 3, 1) := by decide +kernel
theorem dX7_isAll_2 : decode cX7_isAll 2 = .ok (.iconst 1, 1) := by decide +kernel
theorem dX7_isAll_3 : decode cX7_isAll 3 = .ok (.istore 4, 2) := by decide +kernel
theorem dX7_isAll_5 : decode cX7_isAll 5 = .ok (.iload 4, 2) := by decide +kernel
theorem dX7_isAll_7 : decode cX7_isAll 7 = .ok (.iload_n 2, 1) := by decide +kernel
theorem dX7_isAll_8 : decode cX7_isAll 8 = .ok (.if_icmp .gt 35, 3) := by decide +kernel
theorem dX7_isAll_11 : decode cX7_isAll 11 = .ok (.iload_n 3, 1) := by decide +kernel
theorem dX7_isAll_12 : decode cX7_isAll 12 = .ok (.ifCond .eq 23, 3) := by decide +kernel
theorem dX7_isAll_15 : decode cX7_isAll 15 = .ok (.aload_n 0, 1) := by decide +kernel
theorem dX7_isAll_16 : decode cX7_isAll 16 = .ok (.iload_n 1, 1) := by decide +kernel
theorem dX7_isAll_17 : decode cX7_isAll 17 = .ok (.iload 4, 2) := by decide +kernel
theorem dX7_isAll_19 : decode cX7_isAll 19 = .ok (.invokevirtual 167, 3) := by decide +kernel
theorem dX7_isAll_22 : decode cX7_isAll 22 = .ok (.iload_n 2, 1) := by decide +kernel
theorem dX7_isAll_23 : decode cX7_isAll 23 = .ok (.iconst 1, 1) := by decide +kernel
theorem dX7_isAll_24 : decode cX7_isAll 24 = .ok (.iadd, 1) := by decide +kernel
theorem dX7_isAll_25 : decode cX7_isAll 25 = .ok (.iload 4, 2) := by decide +kernel
theorem dX7_isAll_27 : decode cX7_isAll 27 = .ok (.isub, 1) := by decide +kernel
theorem dX7_isAll_28 : decode cX7_isAll 28 = .ok (.if_icmp .ne 7, 3) := by decide +kernel
theorem dX7_isAll_31 : decode cX7_isAll 31 = .ok (.iconst 1, 1) := by decide +kernel
theorem dX7_isAll_32 : decode cX7_isAll 32 = .ok (.goto 4, 3) := by decide +kernel
theorem dX7_isAll_35 : decode cX7_isAll 35 = .ok (.iconst 0, 1) := by decide +kernel
theorem dX7_isAll_36 : decode cX7_isAll 36 = .ok (.istore_n 3, 1) := by decide +kernel
theorem dX7_isAll_37 : decode cX7_isAll 37 = .ok (.iinc 4 1, 3) := by decide +kernel
theorem dX7_isAll_40 : decode cX7_isAll 40 = .ok (.goto (-35), 3) := by decide +kernel
theorem dX7_isAll_43 : decode cX7_isAll 43 = .ok (.iload_n 3, 1) := by decide +kernel
theorem dX7_isAll_44 : decode cX7_isAll 44 = .ok (.ireturn, 1) := by decide +kernel
theorem dX7_isNothing_0 : decode cX7_isNothing 0 = .ok (.iconst 1, 1) := by decide +kernel
theorem dX7_isNothing_1 : decode cX7_isNothing 1 = .ok (.istore_n 3, 1) := by decide +kernel
theorem dX7_isNothing_2 : decode cX7_isNothing 2 = .ok (.iconst 1, 1) := by decide +kernel
theorem dX7_isNothing_3 : decode cX7_isNothing 3 = .ok (.istore 4, 2) := by decide +kernel
theorem dX7_isNothing_5 : decode cX7_isNothing 5 = .ok (.iload 4, 2) := by decide +kernel
theorem dX7_isNothing_7 : decode cX7_isNothing 7 = .ok (.iload_n 2, 1) := by decide +kernel
theorem dX7_isNothing_8 : decode cX7_isNothing 8 = .ok (.if_icmp .gt 31, 3) := by decide +kernel
theorem dX7_isNothing_11 : decode cX7_isNothing 11 = .ok (.iload_n 3, 1) := by decide +kernel
theorem dX7_isNothing_12 : decode cX7_isNothing 12 = .ok (.ifCond .eq 19, 3) := by decide +kernel
theorem dX7_isNothing_15 : decode cX7_isNothing 15 = .ok (.aload_n 0, 1) := by decide +kernel
theorem dX7_isNothing_16 : decode cX7_isNothing 16 = .ok (.iload_n 1, 1) := by decide +kernel
theorem dX7_isNothing_17 : decode cX7_isNothing 17 = .ok (.iload 4, 2) := by decide +kernel
theorem dX7_isNothing_19 : decode cX7_isNothing 19 = .ok (.invokevirtual 167, 3) := by decide +kernel
theorem dX7_isNothing_22 : decode cX7_isNothing 22 = .ok (.iload 4, 2) := by decide +kernel
theorem dX7_isNothing_24 : decode cX7_isNothing 24 = .ok (.if_icmp .ne 7, 3) := by decide +kernel
theorem dX7_isNothing_27 : decode cX7_isNothing 27 = .ok (.iconst 1, 1) := by decide +kernel
theorem dX7_isNothing_28 : decode cX7_isNothing 28 = .ok (.goto 4, 3) := by decide +kernel
theorem dX7_isNothing_31 : decode cX7_isNothing 31 = .ok (.iconst 0, 1) := by decide +kernel
theorem dX7_isNothing_32 : decode cX7_isNothing 32 = .ok (.istore_n 3, 1) := by decide +kernel
theorem dX7_isNothing_33 : decode cX7_isNothing 33 = .ok (.iinc 4 1, 3) := by decide +kernel
theorem dX7_isNothing_36 : decode cX7_isNothing 36 = .ok (.goto (-31), 3) := by decide +kernel
theorem dX7_isNothing_39 : decode cX7_isNothing 39 = .ok (.iload_n 3, 1) := by decide +kernel
theorem dX7_isNothing_40 : decode cX7_isNothing 40 = .ok (.ireturn, 1) := by decide +kernel
theorem dX7_takes_0 : decode cX7_takes 0 = .ok (.iconst 0, 1) := by decide +kernel
theorem dX7_takes_1 : decode cX7_takes 1 = .ok (.istore_n 3, 1) := by decide +kernel
theorem dX7_takes_2 : decode cX7_takes 2 = .ok (.iconst 1, 1) := by decide +kernel
theorem dX7_takes_3 : decode cX7_takes 3 = .ok (.istore 4, 2) := by decide +kernel
theorem dX7_takes_5 : decode cX7_takes 5 = .ok (.iload 4, 2) := by decide +kernel
theorem dX7_takes_7 : decode cX7_takes 7 = .ok (.iload_n 2, 1) := by decide +kernel
theorem dX7_takes_8 : decode cX7_takes 8 = .ok (.if_icmp .ge 122, 3) := by decide +kernel
theorem dX7_takes_11 : decode cX7_takes 11 = .ok (.aload_n 0, 1) := by decide +kernel
theorem dX7_takes_12 : decode cX7_takes 12 = .ok (.iload_n 1, 1) := by decide +kernel
theorem dX7_takes_13 : decode cX7_takes 13 = .ok (.iconst 1, 1) := by decide +kernel
theorem dX7_takes_14 : decode cX7_takes 14 = .ok (.iadd, 1) := by decide +kernel
theorem dX7_takes_15 : decode cX7_takes 15 = .ok (.iload 4, 2) := by decide +kernel
theorem dX7_takes_17 : decode cX7_takes 17 = .ok (.invokevirtual 167, 3) := by decide +kernel
theorem dX7_takes_20 : decode cX7_takes 20 = .ok (.aload_n 0, 1) := by decide +kernel
theorem dX7_takes_21 : decode cX7_takes 21 = .ok (.iload_n 1, 1) := by decide +kernel
theorem dX7_takes_22 : decode cX7_takes 22 = .ok (.iconst 1, 1) := by decide +kernel
theorem dX7_takes_23 : decode cX7_takes 23 = .ok (.iadd, 1) := by decide +kernel
theorem dX7_takes_24 : decode cX7_takes 24 = .ok (.iload 4, 2) := by decide +kernel
theorem dX7_takes_26 : decode cX7_takes 26 = .ok (.iconst 1, 1) := by decide +kernel
theorem dX7_takes_27 : decode cX7_takes 27 = .ok (.iadd, 1) := by decide +kernel
theorem dX7_takes_28 : decode cX7_takes 28 = .ok (.invokevirtual 167, 3) := by decide +kernel
theorem dX7_takes_31 : decode cX7_takes 31 = .ok (.if_icmp .le 93, 3) := by decide +kernel
theorem dX7_takes_34 : decode cX7_takes 34 = .ok (.aload_n 0, 1) := by decide +kernel
theorem dX7_takes_35 : decode cX7_takes 35 = .ok (.iload_n 1, 1) := by decide +kernel
theorem dX7_takes_36 : decode cX7_takes 36 = .ok (.iload 4, 2) := by decide +kernel
theorem dX7_takes_38 : decode cX7_takes 38 = .ok (.invokevirtual 171, 3) := by decide +kernel
theorem dX7_takes_41 : decode cX7_takes 41 = .ok (.aload_n 0, 1) := by decide +kernel
theorem dX7_takes_42 : decode cX7_takes 42 = .ok (.iload_n 1, 1) := by decide +kernel
theorem dX7_takes_43 : decode cX7_takes 43 = .ok (.iload 4, 2) := by decide +kernel
theorem dX7_takes_45 : decode cX7_takes 45 = .ok (.iconst 1, 1) := by decide +kernel
theorem dX7_takes_46 : decode cX7_takes 46 = .ok (.iadd, 1) := by decide +kernel
theorem dX7_takes_47 : decode cX7_takes 47 = .ok (.invokevirtual 171, 3) := by decide +kernel
theorem dX7_takes_50 : decode cX7_takes 50 = .ok (.if_icmp .ge 74, 3) := by decide +kernel
theorem dX7_takes_53 : decode cX7_takes 53 = .ok (.aload_n 0, 1) := by decide +kernel
theorem dX7_takes_54 : decode cX7_takes 54 = .ok (.iload_n 1, 1) := by decide +kernel
theorem dX7_takes_55 : decode cX7_takes 55 = .ok (.iload 4, 2) := by decide +kernel
theorem dX7_takes_57 : decode cX7_takes 57 = .ok (.invokevirtual 174, 3) := by decide +kernel
theorem dX7_takes_60 : decode cX7_takes 60 = .ok (.aload_n 0, 1) := by decide +kernel
theorem dX7_takes_61 : decode cX7_takes 61 = .ok (.iload_n 1, 1) := by decide +kernel
theorem dX7_takes_62 : decode cX7_takes 62 = .ok (.iconst 1, 1) := by decide +kernel
theorem dX7_takes_63 : decode cX7_takes 63 = .ok (.iadd, 1) := by decide +kernel
theorem dX7_takes_64 : decode cX7_takes 64 = .ok (.iload 4, 2) := by decide +kernel
theorem dX7_takes_66 : decode cX7_takes 66 = .ok (.invokevirtual 167, 3) := by decide +kernel
theorem dX7_takes_69 : decode cX7_takes 69 = .ok (.istore 5, 2) := by decide +kernel
theorem dX7_takes_71 : decode cX7_takes 71 = .ok (.aload_n 0, 1) := by decide +kernel
theorem dX7_takes_72 : decode cX7_takes 72 = .ok (.getfield 35, 3) := by decide +kernel
theorem dX7_takes_75 : decode cX7_takes 75 = .ok (.bipush 8, 2) := by decide +kernel
theorem dX7_takes_77 : decode cX7_takes 77 = .ok (.iload_n 1, 1) := by decide +kernel
theorem dX7_takes_78 : decode cX7_takes 78 = .ok (.imul, 1) := by decide +kernel
theorem dX7_takes_79 : decode cX7_takes 79 = .ok (.bipush 8, 2) := by decide +kernel
theorem dX7_takes_81 : decode cX7_takes 81 = .ok (.iadd, 1) := by decide +kernel
theorem dX7_takes_82 : decode cX7_takes 82 = .ok (.iload 4, 2) := by decide +kernel
theorem dX7_takes_84 : decode cX7_takes 84 = .ok (.iadd, 1) := by decide +kernel
theorem dX7_takes_85 : decode cX7_takes 85 = .ok (.aload_n 0, 1) := by decide +kernel
theorem dX7_takes_86 : decode cX7_takes 86 = .ok (.iload_n 1, 1) := by decide +kernel
theorem dX7_takes_87 : decode cX7_takes 87 = .ok (.iconst 1, 1) := by decide +kernel
theorem dX7_takes_88 : decode cX7_takes 88 = .ok (.iadd, 1) := by decide +kernel
theorem dX7_takes_89 : decode cX7_takes 89 = .ok (.iload 4, 2) := by decide +kernel
theorem dX7_takes_91 : decode cX7_takes 91 = .ok (.iconst 1, 1) := by decide +kernel
theorem dX7_takes_92 : decode cX7_takes 92 = .ok (.iadd, 1) := by decide +kernel
theorem dX7_takes_93 : decode cX7_takes 93 = .ok (.invokevirtual 167, 3) := by decide +kernel
theorem dX7_takes_96 : decode cX7_takes 96 = .ok (.iastore, 1) := by decide +kernel
theorem dX7_takes_97 : decode cX7_takes 97 = .ok (.aload_n 0, 1) := by decide +kernel
theorem dX7_takes_98 : decode cX7_takes 98 = .ok (.getfield 35, 3) := by decide +kernel
theorem dX7_takes_101 : decode cX7_takes 101 = .ok (.bipush 8, 2) := by decide +kernel
theorem dX7_takes_103 : decode cX7_takes 103 = .ok (.iload_n 1, 1) := by decide +kernel
theorem dX7_takes_104 : decode cX7_takes 104 = .ok (.imul, 1) := by decide +kernel
theorem dX7_takes_105 : decode cX7_takes 105 = .ok (.bipush 8, 2) := by decide +kernel
theorem dX7_takes_107 : decode cX7_takes 107 = .ok (.iadd, 1) := by decide +kernel
theorem dX7_takes_108 : decode cX7_takes 108 = .ok (.iload 4, 2) := by decide +kernel
theorem dX7_takes_110 : decode cX7_takes 110 = .ok (.iadd, 1) := by decide +kernel
theorem dX7_takes_111 : decode cX7_takes 111 = .ok (.iconst 1, 1) := by decide +kernel
theorem dX7_takes_112 : decode cX7_takes 112 = .ok (.iadd, 1) := by decide +kernel
theorem dX7_takes_113 : decode cX7_takes 113 = .ok (.iload 5, 2) := by decide +kernel
theorem dX7_takes_115 : decode cX7_takes 115 = .ok (.iastore, 1) := by decide +kernel
theorem dX7_takes_116 : decode cX7_takes 116 = .ok (.iconst 1, 1) := by decide +kernel
theorem dX7_takes_117 : decode cX7_takes 117 = .ok (.istore_n 3, 1) := by decide +kernel
theorem dX7_takes_118 : decode cX7_takes 118 = .ok (.iconst 1, 1) := by decide +kernel
theorem dX7_takes_119 : decode cX7_takes 119 = .ok (.istore 4, 2) := by decide +kernel
theorem dX7_takes_121 : decode cX7_takes 121 = .ok (.goto (-116), 3) := by decide +kernel
theorem dX7_takes_124 : decode cX7_takes 124 = .ok (.iinc 4 1, 3) := by decide +kernel
theorem dX7_takes_127 : decode cX7_takes 127 = .ok (.goto (-122), 3) := by decide +kernel
theorem dX7_takes_130 : decode cX7_takes 130 = .ok (.iload_n 3, 1) := by decide +kernel
theorem dX7_takes_131 : decode cX7_takes 131 = .ok (.ireturn, 1) := by decide +kernel
theorem dX7_drops_0 : decode cX7_drops 0 = .ok (.iconst 0, 1) := by decide +kernel
theorem dX7_drops_1 : decode cX7_drops 1 = .ok (.istore_n 2, 1) := by decide +kernel
theorem dX7_drops_2 : decode cX7_drops 2 = .ok (.iconst 0, 1) := by decide +kernel
theorem dX7_drops_3 : decode cX7_drops 3 = .ok (.istore_n 3, 1) := by decide +kernel
theorem dX7_drops_4 : decode cX7_drops 4 = .ok (.iload_n 3, 1) := by decide +kernel
theorem dX7_drops_5 : decode cX7_drops 5 = .ok (.aload_n 0, 1) := by decide +kernel
theorem dX7_drops_6 : decode cX7_drops 6 = .ok (.getfield 178, 3) := by decide +kernel
theorem dX7_drops_9 : decode cX7_drops 9 = .ok (.if_icmp .ge 58, 3) := by decide +kernel
theorem dX7_drops_12 : decode cX7_drops 12 = .ok (.aload_n 0, 1) := by decide +kernel
theorem dX7_drops_13 : decode cX7_drops 13 = .ok (.iload_n 3, 1) := by decide +kernel
theorem dX7_drops_14 : decode cX7_drops 14 = .ok (.iload_n 1, 1) := by decide +kernel
theorem dX7_drops_15 : decode cX7_drops 15 = .ok (.invokevirtual 181, 3) := by decide +kernel
theorem dX7_drops_18 : decode cX7_drops 18 = .ok (.ifCond .eq 6, 3) := by decide +kernel
theorem dX7_drops_21 : decode cX7_drops 21 = .ok (.goto 40, 3) := by decide +kernel
theorem dX7_drops_24 : decode cX7_drops 24 = .ok (.iconst 1, 1) := by decide +kernel
theorem dX7_drops_25 : decode cX7_drops 25 = .ok (.istore 4, 2) := by decide +kernel
theorem dX7_drops_27 : decode cX7_drops 27 = .ok (.iload 4, 2) := by decide +kernel
theorem dX7_drops_29 : decode cX7_drops 29 = .ok (.iload_n 1, 1) := by decide +kernel
theorem dX7_drops_30 : decode cX7_drops 30 = .ok (.if_icmp .gt 28, 3) := by decide +kernel
theorem dX7_drops_33 : decode cX7_drops 33 = .ok (.aload_n 0, 1) := by decide +kernel
theorem dX7_drops_34 : decode cX7_drops 34 = .ok (.getfield 35, 3) := by decide +kernel
theorem dX7_drops_37 : decode cX7_drops 37 = .ok (.bipush 8, 2) := by decide +kernel
theorem dX7_drops_39 : decode cX7_drops 39 = .ok (.iload_n 2, 1) := by decide +kernel
theorem dX7_drops_40 : decode cX7_drops 40 = .ok (.imul, 1) := by decide +kernel
theorem dX7_drops_41 : decode cX7_drops 41 = .ok (.iload 4, 2) := by decide +kernel
theorem dX7_drops_43 : decode cX7_drops 43 = .ok (.iadd, 1) := by decide +kernel
theorem dX7_drops_44 : decode cX7_drops 44 = .ok (.aload_n 0, 1) := by decide +kernel
theorem dX7_drops_45 : decode cX7_drops 45 = .ok (.iload_n 3, 1) := by decide +kernel
theorem dX7_drops_46 : decode cX7_drops 46 = .ok (.iload 4, 2) := by decide +kernel
theorem dX7_drops_48 : decode cX7_drops 48 = .ok (.invokevirtual 167, 3) := by decide +kernel
theorem dX7_drops_51 : decode cX7_drops 51 = .ok (.iastore, 1) := by decide +kernel
theorem dX7_drops_52 : decode cX7_drops 52 = .ok (.iinc 4 1, 3) := by decide +kernel
theorem dX7_drops_55 : decode cX7_drops 55 = .ok (.goto (-28), 3) := by decide +kernel
theorem dX7_drops_58 : decode cX7_drops 58 = .ok (.iinc 2 1, 3) := by decide +kernel
theorem dX7_drops_61 : decode cX7_drops 61 = .ok (.iinc 3 1, 3) := by decide +kernel
theorem dX7_drops_64 : decode cX7_drops 64 = .ok (.goto (-60), 3) := by decide +kernel
theorem dX7_drops_67 : decode cX7_drops 67 = .ok (.aload_n 0, 1) := by decide +kernel
theorem dX7_drops_68 : decode cX7_drops 68 = .ok (.iload_n 2, 1) := by decide +kernel
theorem dX7_drops_69 : decode cX7_drops 69 = .ok (.putfield 178, 3) := by decide +kernel
theorem dX7_drops_72 : decode cX7_drops 72 = .ok (.return_, 1) := by decide +kernel
theorem dX7_form_0 : decode cX7_form 0 = .ok (.aload_n 0, 1) := by decide +kernel
theorem dX7_form_1 : decode cX7_form 1 = .ok (.getfield 17, 3) := by decide +kernel
theorem dX7_form_4 : decode cX7_form 4 = .ok (.iload_n 1, 1) := by decide +kernel
theorem dX7_form_5 : decode cX7_form 5 = .ok (.iaload, 1) := by decide +kernel
theorem dX7_form_6 : decode cX7_form 6 = .ok (.istore_n 3, 1) := by decide +kernel
theorem dX7_form_7 : decode cX7_form 7 = .ok (.aload_n 0, 1) := by decide +kernel
theorem dX7_form_8 : decode cX7_form 8 = .ok (.iconst 0, 1) := by decide +kernel
theorem dX7_form_9 : decode cX7_form 9 = .ok (.putfield 178, 3) := by decide +kernel
theorem dX7_form_12 : decode cX7_form 12 = .ok (.aload_n 0, 1) := by decide +kernel
theorem dX7_form_13 : decode cX7_form 13 = .ok (.iconst 0, 1) := by decide +kernel
theorem dX7_form_14 : decode cX7_form 14 = .ok (.putfield 184, 3) := by decide +kernel
theorem dX7_form_17 : decode cX7_form 17 = .ok (.aload_n 0, 1) := by decide +kernel
theorem dX7_form_18 : decode cX7_form 18 = .ok (.getfield 20, 3) := by decide +kernel
theorem dX7_form_21 : decode cX7_form 21 = .ok (.iload_n 1, 1) := by decide +kernel
theorem dX7_form_22 : decode cX7_form 22 = .ok (.iaload, 1) := by decide +kernel
theorem dX7_form_23 : decode cX7_form 23 = .ok (.iload_n 2, 1) := by decide +kernel
theorem dX7_form_24 : decode cX7_form 24 = .ok (.imul, 1) := by decide +kernel
theorem dX7_form_25 : decode cX7_form 25 = .ok (.istore 4, 2) := by decide +kernel
theorem dX7_form_27 : decode cX7_form 27 = .ok (.aload_n 0, 1) := by decide +kernel
theorem dX7_form_28 : decode cX7_form 28 = .ok (.iload 4, 2) := by decide +kernel
theorem dX7_form_30 : decode cX7_form 30 = .ok (.putfield 178, 3) := by decide +kernel
theorem dX7_form_33 : decode cX7_form 33 = .ok (.iload 4, 2) := by decide +kernel
theorem dX7_form_35 : decode cX7_form 35 = .ok (.iconst 1, 1) := by decide +kernel
theorem dX7_form_36 : decode cX7_form 36 = .ok (.isub, 1) := by decide +kernel
theorem dX7_form_37 : decode cX7_form 37 = .ok (.istore 5, 2) := by decide +kernel
theorem dX7_form_39 : decode cX7_form 39 = .ok (.iload 5, 2) := by decide +kernel
theorem dX7_form_41 : decode cX7_form 41 = .ok (.ifCond .lt 125, 3) := by decide +kernel
theorem dX7_form_44 : decode cX7_form 44 = .ok (.aload_n 0, 1) := by decide +kernel
theorem dX7_form_45 : decode cX7_form 45 = .ok (.getfield 23, 3) := by decide +kernel
theorem dX7_form_48 : decode cX7_form 48 = .ok (.sipush 300, 3) := by decide +kernel
theorem dX7_form_51 : decode cX7_form 51 = .ok (.iload_n 1, 1) := by decide +kernel
theorem dX7_form_52 : decode cX7_form 52 = .ok (.imul, 1) := by decide +kernel
theorem dX7_form_53 : decode cX7_form 53 = .ok (.iload 5, 2) := by decide +kernel
theorem dX7_form_55 : decode cX7_form 55 = .ok (.aload_n 0, 1) := by decide +kernel
theorem dX7_form_56 : decode cX7_form 56 = .ok (.getfield 20, 3) := by decide +kernel
theorem dX7_form_59 : decode cX7_form 59 = .ok (.iload_n 1, 1) := by decide +kernel
theorem dX7_form_60 : decode cX7_form 60 = .ok (.iaload, 1) := by decide +kernel
theorem dX7_form_61 : decode cX7_form 61 = .ok (.irem, 1) := by decide +kernel
theorem dX7_form_62 : decode cX7_form 62 = .ok (.iadd, 1) := by decide +kernel
theorem dX7_form_63 : decode cX7_form 63 = .ok (.iaload, 1) := by decide +kernel
theorem dX7_form_64 : decode cX7_form 64 = .ok (.istore 6, 2) := by decide +kernel
theorem dX7_form_66 : decode cX7_form 66 = .ok (.iconst 1, 1) := by decide +kernel
theorem dX7_form_67 : decode cX7_form 67 = .ok (.istore 7, 2) := by decide +kernel
theorem dX7_form_69 : decode cX7_form 69 = .ok (.iload 7, 2) := by decide +kernel
theorem dX7_form_71 : decode cX7_form 71 = .ok (.iload_n 3, 1) := by decide +kernel
theorem dX7_form_72 : decode cX7_form 72 = .ok (.if_icmp .gt 38, 3) := by decide +kernel
theorem dX7_form_75 : decode cX7_form 75 = .ok (.aload_n 0, 1) := by decide +kernel
theorem dX7_form_76 : decode cX7_form 76 = .ok (.getfield 35, 3) := by decide +kernel
theorem dX7_form_79 : decode cX7_form 79 = .ok (.bipush 8, 2) := by decide +kernel
theorem dX7_form_81 : decode cX7_form 81 = .ok (.iload 5, 2) := by decide +kernel
theorem dX7_form_83 : decode cX7_form 83 = .ok (.imul, 1) := by decide +kernel
theorem dX7_form_84 : decode cX7_form 84 = .ok (.iload 7, 2) := by decide +kernel
theorem dX7_form_86 : decode cX7_form 86 = .ok (.iadd, 1) := by decide +kernel
theorem dX7_form_87 : decode cX7_form 87 = .ok (.iload 6, 2) := by decide +kernel
theorem dX7_form_89 : decode cX7_form 89 = .ok (.ifCond .le 8, 3) := by decide +kernel
theorem dX7_form_92 : decode cX7_form 92 = .ok (.iload 7, 2) := by decide +kernel
theorem dX7_form_94 : decode cX7_form 94 = .ok (.goto 9, 3) := by decide +kernel
theorem dX7_form_97 : decode cX7_form 97 = .ok (.iload_n 3, 1) := by decide +kernel
theorem dX7_form_98 : decode cX7_form 98 = .ok (.iconst 1, 1) := by decide +kernel
theorem dX7_form_99 : decode cX7_form 99 = .ok (.iadd, 1) := by decide +kernel
theorem dX7_form_100 : decode cX7_form 100 = .ok (.iload 7, 2) := by decide +kernel
theorem dX7_form_102 : decode cX7_form 102 = .ok (.isub, 1) := by decide +kernel
theorem dX7_form_103 : decode cX7_form 103 = .ok (.iastore, 1) := by decide +kernel
theorem dX7_form_104 : decode cX7_form 104 = .ok (.iinc 7 1, 3) := by decide +kernel
theorem dX7_form_107 : decode cX7_form 107 = .ok (.goto (-38), 3) := by decide +kernel
theorem dX7_form_110 : decode cX7_form 110 = .ok (.aload_n 0, 1) := by decide +kernel
theorem dX7_form_111 : decode cX7_form 111 = .ok (.iload 5, 2) := by decide +kernel
theorem dX7_form_113 : decode cX7_form 113 = .ok (.iload 6, 2) := by decide +kernel
theorem dX7_form_115 : decode cX7_form 115 = .ok (.ifCond .le 8, 3) := by decide +kernel
theorem dX7_form_118 : decode cX7_form 118 = .ok (.iload 6, 2) := by decide +kernel
theorem dX7_form_120 : decode cX7_form 120 = .ok (.goto 6, 3) := by decide +kernel
theorem dX7_form_123 : decode cX7_form 123 = .ok (.iload 6, 2) := by decide +kernel
theorem dX7_form_125 : decode cX7_form 125 = .ok (.ineg, 1) := by decide +kernel
theorem dX7_form_126 : decode cX7_form 126 = .ok (.invokevirtual 174, 3) := by decide +kernel
theorem dX7_form_129 : decode cX7_form 129 = .ok (.aload_n 0, 1) := by decide +kernel
theorem dX7_form_130 : decode cX7_form 130 = .ok (.getfield 184, 3) := by decide +kernel
theorem dX7_form_133 : decode cX7_form 133 = .ok (.iconst 2, 1) := by decide +kernel
theorem dX7_form_134 : decode cX7_form 134 = .ok (.irem, 1) := by decide +kernel
theorem dX7_form_135 : decode cX7_form 135 = .ok (.ifCond .eq 10, 3) := by decide +kernel
theorem dX7_form_138 : decode cX7_form 138 = .ok (.aload_n 0, 1) := by decide +kernel
theorem dX7_form_139 : decode cX7_form 139 = .ok (.iload 5, 2) := by decide +kernel
theorem dX7_form_141 : decode cX7_form 141 = .ok (.iload_n 3, 1) := by decide +kernel
theorem dX7_form_142 : decode cX7_form 142 = .ok (.invokevirtual 187, 3) := by decide +kernel
theorem dX7_form_145 : decode cX7_form 145 = .ok (.iload 6, 2) := by decide +kernel
theorem dX7_form_147 : decode cX7_form 147 = .ok (.ifCond .ge 13, 3) := by decide +kernel
theorem dX7_form_150 : decode cX7_form 150 = .ok (.aload_n 0, 1) := by decide +kernel
theorem dX7_form_151 : decode cX7_form 151 = .ok (.dup, 1) := by decide +kernel
theorem dX7_form_152 : decode cX7_form 152 = .ok (.getfield 184, 3) := by decide +kernel
theorem dX7_form_155 : decode cX7_form 155 = .ok (.iconst 1, 1) := by decide +kernel
theorem dX7_form_156 : decode cX7_form 156 = .ok (.isub, 1) := by decide +kernel
theorem dX7_form_157 : decode cX7_form 157 = .ok (.putfield 184, 3) := by decide +kernel
theorem dX7_form_160 : decode cX7_form 160 = .ok (.iinc 5 (-1), 3) := by decide +kernel
theorem dX7_form_163 : decode cX7_form 163 = .ok (.goto (-124), 3) := by decide +kernel
theorem dX7_form_166 : decode cX7_form 166 = .ok (.iconst 1, 1) := by decide +kernel
theorem dX7_form_167 : decode cX7_form 167 = .ok (.istore 5, 2) := by decide +kernel
theorem dX7_form_169 : decode cX7_form 169 = .ok (.iload 5, 2) := by decide +kernel
theorem dX7_form_171 : decode cX7_form 171 = .ok (.ifCond .eq 55, 3) := by decide +kernel
theorem dX7_form_174 : decode cX7_form 174 = .ok (.iconst 0, 1) := by decide +kernel
theorem dX7_form_175 : decode cX7_form 175 = .ok (.istore 5, 2) := by decide +kernel
theorem dX7_form_177 : decode cX7_form 177 = .ok (.aload_n 0, 1) := by decide +kernel
theorem dX7_form_178 : decode cX7_form 178 = .ok (.getfield 178, 3) := by decide +kernel
theorem dX7_form_181 : decode cX7_form 181 = .ok (.iconst 2, 1) := by decide +kernel
theorem dX7_form_182 : decode cX7_form 182 = .ok (.isub, 1) := by decide +kernel
theorem dX7_form_183 : decode cX7_form 183 = .ok (.istore 6, 2) := by decide +kernel
theorem dX7_form_185 : decode cX7_form 185 = .ok (.iload 6, 2) := by decide +kernel
theorem dX7_form_187 : decode cX7_form 187 = .ok (.ifCond .lt 31, 3) := by decide +kernel
theorem dX7_form_190 : decode cX7_form 190 = .ok (.aload_n 0, 1) := by decide +kernel
theorem dX7_form_191 : decode cX7_form 191 = .ok (.iload 6, 2) := by decide +kernel
theorem dX7_form_193 : decode cX7_form 193 = .ok (.iload_n 3, 1) := by decide +kernel
theorem dX7_form_194 : decode cX7_form 194 = .ok (.invokevirtual 190, 3) := by decide +kernel
theorem dX7_form_197 : decode cX7_form 197 = .ok (.ifCond .ne 8, 3) := by decide +kernel
theorem dX7_form_200 : decode cX7_form 200 = .ok (.iload 5, 2) := by decide +kernel
theorem dX7_form_202 : decode cX7_form 202 = .ok (.ifCond .eq 7, 3) := by decide +kernel
theorem dX7_form_205 : decode cX7_form 205 = .ok (.iconst 1, 1) := by decide +kernel
theorem dX7_form_206 : decode cX7_form 206 = .ok (.goto 4, 3) := by decide +kernel
theorem dX7_form_209 : decode cX7_form 209 = .ok (.iconst 0, 1) := by decide +kernel
theorem dX7_form_210 : decode cX7_form 210 = .ok (.istore 5, 2) := by decide +kernel
theorem dX7_form_212 : decode cX7_form 212 = .ok (.iinc 6 (-1), 3) := by decide +kernel
theorem dX7_form_215 : decode cX7_form 215 = .ok (.goto (-30), 3) := by decide +kernel
theorem dX7_form_218 : decode cX7_form 218 = .ok (.aload_n 0, 1) := by decide +kernel
theorem dX7_form_219 : decode cX7_form 219 = .ok (.iload_n 3, 1) := by decide +kernel
theorem dX7_form_220 : decode cX7_form 220 = .ok (.invokevirtual 193, 3) := by decide +kernel
theorem dX7_form_223 : decode cX7_form 223 = .ok (.goto (-54), 3) := by decide +kernel
theorem dX7_form_226 : decode cX7_form 226 = .ok (.iconst 0, 1) := by decide +kernel
theorem dX7_form_227 : decode cX7_form 227 = .ok (.istore 6, 2) := by decide +kernel
theorem dX7_form_229 : decode cX7_form 229 = .ok (.iload 6, 2) := by decide +kernel
theorem dX7_form_231 : decode cX7_form 231 = .ok (.aload_n 0, 1) := by decide +kernel
theorem dX7_form_232 : decode cX7_form 232 = .ok (.getfield 178, 3) := by decide +kernel
theorem dX7_form_235 : decode cX7_form 235 = .ok (.if_icmp .ge 19, 3) := by decide +kernel
theorem dX7_form_238 : decode cX7_form 238 = .ok (.aload_n 0, 1) := by decide +kernel
theorem dX7_form_239 : decode cX7_form 239 = .ok (.iload 6, 2) := by decide +kernel
theorem dX7_form_241 : decode cX7_form 241 = .ok (.iload_n 3, 1) := by decide +kernel
theorem dX7_form_242 : decode cX7_form 242 = .ok (.invokevirtual 196, 3) := by decide +kernel
theorem dX7_form_245 : decode cX7_form 245 = .ok (.ifCond .eq 9, 3) := by decide +kernel
theorem dX7_form_248 : decode cX7_form 248 = .ok (.iinc 6 1, 3) := by decide +kernel
theorem dX7_form_251 : decode cX7_form 251 = .ok (.goto (-22), 3) := by decide +kernel
theorem dX7_form_254 : decode cX7_form 254 = .ok (.aload_n 0, 1) := by decide +kernel
theorem dX7_form_255 : decode cX7_form 255 = .ok (.dup, 1) := by decide +kernel
theorem dX7_form_256 : decode cX7_form 256 = .ok (.getfield 184, 3) := by decide +kernel
theorem dX7_form_259 : decode cX7_form 259 = .ok (.iload 6, 2) := by decide +kernel
theorem dX7_form_261 : decode cX7_form 261 = .ok (.iadd, 1) := by decide +kernel
theorem dX7_form_262 : decode cX7_form 262 = .ok (.putfield 184, 3) := by decide +kernel
theorem dX7_form_265 : decode cX7_form 265 = .ok (.iload 6, 2) := by decide +kernel
theorem dX7_form_267 : decode cX7_form 267 = .ok (.istore 7, 2) := by decide +kernel
theorem dX7_form_269 : decode cX7_form 269 = .ok (.iload 7, 2) := by decide +kernel
theorem dX7_form_271 : decode cX7_form 271 = .ok (.aload_n 0, 1) := by decide +kernel
theorem dX7_form_272 : decode cX7_form 272 = .ok (.getfield 178, 3) := by decide +kernel
theorem dX7_form_275 : decode cX7_form 275 = .ok (.if_icmp .ge 48, 3) := by decide +kernel
theorem dX7_form_278 : decode cX7_form 278 = .ok (.iconst 1, 1) := by decide +kernel
theorem dX7_form_279 : decode cX7_form 279 = .ok (.istore 8, 2) := by decide +kernel
theorem dX7_form_281 : decode cX7_form 281 = .ok (.iload 8, 2) := by decide +kernel
theorem dX7_form_283 : decode cX7_form 283 = .ok (.iload_n 3, 1) := by decide +kernel
theorem dX7_form_284 : decode cX7_form 284 = .ok (.if_icmp .gt 33, 3) := by decide +kernel
theorem dX7_form_287 : decode cX7_form 287 = .ok (.aload_n 0, 1) := by decide +kernel
theorem dX7_form_288 : decode cX7_form 288 = .ok (.getfield 35, 3) := by decide +kernel
theorem dX7_form_291 : decode cX7_form 291 = .ok (.bipush 8, 2) := by decide +kernel
theorem dX7_form_293 : decode cX7_form 293 = .ok (.iload 7, 2) := by decide +kernel
theorem dX7_form_295 : decode cX7_form 295 = .ok (.iload 6, 2) := by decide +kernel
theorem dX7_form_297 : decode cX7_form 297 = .ok (.isub, 1) := by decide +kernel
theorem dX7_form_298 : decode cX7_form 298 = .ok (.imul, 1) := by decide +kernel
theorem dX7_form_299 : decode cX7_form 299 = .ok (.iload 8, 2) := by decide +kernel
theorem dX7_form_301 : decode cX7_form 301 = .ok (.iadd, 1) := by decide +kernel
theorem dX7_form_302 : decode cX7_form 302 = .ok (.aload_n 0, 1) := by decide +kernel
theorem dX7_form_303 : decode cX7_form 303 = .ok (.iload 7, 2) := by decide +kernel
theorem dX7_form_305 : decode cX7_form 305 = .ok (.iload 8, 2) := by decide +kernel
theorem dX7_form_307 : decode cX7_form 307 = .ok (.invokevirtual 167, 3) := by decide +kernel
end
section
theorem dX7_form_310 : decode cX7_form 310 = .ok (.iastore, 1) := by decide +kernel
theorem dX7_form_311 : decode cX7_form 311 = .ok (.iinc 8 1, 3) := by decide +kernel
theorem dX7_form_314 : decode cX7_form 314 = .ok (.goto (-33), 3) := by decide +kernel
theorem dX7_form_317 : decode cX7_form 317 = .ok (.iinc 7 1, 3) := by decide +kernel
theorem dX7_form_320 : decode cX7_form 320 = .ok (.goto (-51), 3) := by decide +kernel
theorem dX7_form_323 : decode cX7_form 323 = .ok (.aload_n 0, 1) := by decide +kernel
theorem dX7_form_324 : decode cX7_form 324 = .ok (.dup, 1) := by decide +kernel
theorem dX7_form_325 : decode cX7_form 325 = .ok (.getfield 178, 3) := by decide +kernel
theorem dX7_form_328 : decode cX7_form 328 = .ok (.iload 6, 2) := by decide +kernel
theorem dX7_form_330 : decode cX7_form 330 = .ok (.isub, 1) := by decide +kernel
theorem dX7_form_331 : decode cX7_form 331 = .ok (.putfield 178, 3) := by decide +kernel
theorem dX7_form_334 : decode cX7_form 334 = .ok (.return_, 1) := by decide +kernel
theorem dX7_coded_0 : decode cX7_coded 0 = .ok (.iconst 0, 1) := by decide +kernel
theorem dX7_coded_1 : decode cX7_coded 1 = .ok (.istore_n 3, 1) := by decide +kernel
theorem dX7_coded_2 : decode cX7_coded 2 = .ok (.iconst 1, 1) := by decide +kernel
theorem dX7_coded_3 : decode cX7_coded 3 = .ok (.istore 4, 2) := by decide +kernel
theorem dX7_coded_5 : decode cX7_coded 5 = .ok (.iload 4, 2) := by decide +kernel
theorem dX7_coded_7 : decode cX7_coded 7 = .ok (.iload_n 2, 1) := by decide +kernel
theorem dX7_coded_8 : decode cX7_coded 8 = .ok (.if_icmp .gt 26, 3) := by decide +kernel
theorem dX7_coded_11 : decode cX7_coded 11 = .ok (.iload_n 3, 1) := by decide +kernel
theorem dX7_coded_12 : decode cX7_coded 12 = .ok (.aload_n 0, 1) := by decide +kernel
theorem dX7_coded_13 : decode cX7_coded 13 = .ok (.iload_n 1, 1) := by decide +kernel
theorem dX7_coded_14 : decode cX7_coded 14 = .ok (.iload 4, 2) := by decide +kernel
theorem dX7_coded_16 : decode cX7_coded 16 = .ok (.invokevirtual 167, 3) := by decide +kernel
theorem dX7_coded_19 : decode cX7_coded 19 = .ok (.iconst 3, 1) := by decide +kernel
theorem dX7_coded_20 : decode cX7_coded 20 = .ok (.iload 4, 2) := by decide +kernel
theorem dX7_coded_22 : decode cX7_coded 22 = .ok (.imul, 1) := by decide +kernel
theorem dX7_coded_23 : decode cX7_coded 23 = .ok (.iconst 3, 1) := by decide +kernel
theorem dX7_coded_24 : decode cX7_coded 24 = .ok (.isub, 1) := by decide +kernel
theorem dX7_coded_25 : decode cX7_coded 25 = .ok (.ishl, 1) := by decide +kernel
theorem dX7_coded_26 : decode cX7_coded 26 = .ok (.ior, 1) := by decide +kernel
theorem dX7_coded_27 : decode cX7_coded 27 = .ok (.istore_n 3, 1) := by decide +kernel
theorem dX7_coded_28 : decode cX7_coded 28 = .ok (.iinc 4 1, 3) := by decide +kernel
theorem dX7_coded_31 : decode cX7_coded 31 = .ok (.goto (-26), 3) := by decide +kernel
theorem dX7_coded_34 : decode cX7_coded 34 = .ok (.iload_n 3, 1) := by decide +kernel
theorem dX7_coded_35 : decode cX7_coded 35 = .ok (.ireturn, 1) := by decide +kernel
theorem dX7_factor_0 : decode cX7_factor 0 = .ok (.aload_n 0, 1) := by decide +kernel
theorem dX7_factor_1 : decode cX7_factor 1 = .ok (.iload_n 1, 1) := by decide +kernel
theorem dX7_factor_2 : decode cX7_factor 2 = .ok (.invokevirtual 164, 3) := by decide +kernel
theorem dX7_factor_5 : decode cX7_factor 5 = .ok (.ifCond .ne 5, 3) := by decide +kernel
theorem dX7_factor_8 : decode cX7_factor 8 = .ok (.iconst 0, 1) := by decide +kernel
theorem dX7_factor_9 : decode cX7_factor 9 = .ok (.ireturn, 1) := by decide +kernel
theorem dX7_factor_10 : decode cX7_factor 10 = .ok (.aload_n 0, 1) := by decide +kernel
theorem dX7_factor_11 : decode cX7_factor 11 = .ok (.iload_n 1, 1) := by decide +kernel
theorem dX7_factor_12 : decode cX7_factor 12 = .ok (.iconst 1, 1) := by decide +kernel
theorem dX7_factor_13 : decode cX7_factor 13 = .ok (.invokevirtual 199, 3) := by decide +kernel
theorem dX7_factor_16 : decode cX7_factor 16 = .ok (.aload_n 0, 1) := by decide +kernel
theorem dX7_factor_17 : decode cX7_factor 17 = .ok (.iload_n 2, 1) := by decide +kernel
theorem dX7_factor_18 : decode cX7_factor 18 = .ok (.ifCond .lt 15, 3) := by decide +kernel
theorem dX7_factor_21 : decode cX7_factor 21 = .ok (.iload_n 2, 1) := by decide +kernel
theorem dX7_factor_22 : decode cX7_factor 22 = .ok (.aload_n 0, 1) := by decide +kernel
theorem dX7_factor_23 : decode cX7_factor 23 = .ok (.getfield 178, 3) := by decide +kernel
theorem dX7_factor_26 : decode cX7_factor 26 = .ok (.if_icmp .ge 7, 3) := by decide +kernel
theorem dX7_factor_29 : decode cX7_factor 29 = .ok (.iconst 1, 1) := by decide +kernel
theorem dX7_factor_30 : decode cX7_factor 30 = .ok (.goto 4, 3) := by decide +kernel
theorem dX7_factor_33 : decode cX7_factor 33 = .ok (.iconst 0, 1) := by decide +kernel
theorem dX7_factor_34 : decode cX7_factor 34 = .ok (.iconst 1, 1) := by decide +kernel
theorem dX7_factor_35 : decode cX7_factor 35 = .ok (.invokevirtual 157, 3) := by decide +kernel
theorem dX7_factor_38 : decode cX7_factor 38 = .ok (.ifCond .eq 17, 3) := by decide +kernel
theorem dX7_factor_41 : decode cX7_factor 41 = .ok (.aload_n 0, 1) := by decide +kernel
theorem dX7_factor_42 : decode cX7_factor 42 = .ok (.iload_n 2, 1) := by decide +kernel
theorem dX7_factor_43 : decode cX7_factor 43 = .ok (.aload_n 0, 1) := by decide +kernel
theorem dX7_factor_44 : decode cX7_factor 44 = .ok (.getfield 17, 3) := by decide +kernel
theorem dX7_factor_47 : decode cX7_factor 47 = .ok (.iload_n 1, 1) := by decide +kernel
theorem dX7_factor_48 : decode cX7_factor 48 = .ok (.iaload, 1) := by decide +kernel
theorem dX7_factor_49 : decode cX7_factor 49 = .ok (.invokevirtual 202, 3) := by decide +kernel
theorem dX7_factor_52 : decode cX7_factor 52 = .ok (.goto 4, 3) := by decide +kernel
theorem dX7_factor_55 : decode cX7_factor 55 = .ok (.iconst 0, 1) := by decide +kernel
theorem dX7_factor_56 : decode cX7_factor 56 = .ok (.ireturn, 1) := by decide +kernel
theorem dX7_alike_0 : decode cX7_alike 0 = .ok (.aload_n 0, 1) := by decide +kernel
theorem dX7_alike_1 : decode cX7_alike 1 = .ok (.iload_n 1, 1) := by decide +kernel
theorem dX7_alike_2 : decode cX7_alike 2 = .ok (.invokevirtual 164, 3) := by decide +kernel
theorem dX7_alike_5 : decode cX7_alike 5 = .ok (.ifCond .eq 26, 3) := by decide +kernel
theorem dX7_alike_8 : decode cX7_alike 8 = .ok (.aload_n 0, 1) := by decide +kernel
theorem dX7_alike_9 : decode cX7_alike 9 = .ok (.iload_n 2, 1) := by decide +kernel
theorem dX7_alike_10 : decode cX7_alike 10 = .ok (.invokevirtual 164, 3) := by decide +kernel
theorem dX7_alike_13 : decode cX7_alike 13 = .ok (.ifCond .eq 18, 3) := by decide +kernel
theorem dX7_alike_16 : decode cX7_alike 16 = .ok (.aload_n 0, 1) := by decide +kernel
theorem dX7_alike_17 : decode cX7_alike 17 = .ok (.getfield 17, 3) := by decide +kernel
theorem dX7_alike_20 : decode cX7_alike 20 = .ok (.iload_n 1, 1) := by decide +kernel
theorem dX7_alike_21 : decode cX7_alike 21 = .ok (.iaload, 1) := by decide +kernel
theorem dX7_alike_22 : decode cX7_alike 22 = .ok (.aload_n 0, 1) := by decide +kernel
theorem dX7_alike_23 : decode cX7_alike 23 = .ok (.getfield 17, 3) := by decide +kernel
theorem dX7_alike_26 : decode cX7_alike 26 = .ok (.iload_n 2, 1) := by decide +kernel
theorem dX7_alike_27 : decode cX7_alike 27 = .ok (.iaload, 1) := by decide +kernel
theorem dX7_alike_28 : decode cX7_alike 28 = .ok (.if_icmp .eq 5, 3) := by decide +kernel
theorem dX7_alike_31 : decode cX7_alike 31 = .ok (.iconst 0, 1) := by decide +kernel
theorem dX7_alike_32 : decode cX7_alike 32 = .ok (.ireturn, 1) := by decide +kernel
theorem dX7_alike_33 : decode cX7_alike 33 = .ok (.aload_n 0, 1) := by decide +kernel
theorem dX7_alike_34 : decode cX7_alike 34 = .ok (.iload_n 1, 1) := by decide +kernel
theorem dX7_alike_35 : decode cX7_alike 35 = .ok (.iconst 1, 1) := by decide +kernel
theorem dX7_alike_36 : decode cX7_alike 36 = .ok (.invokevirtual 199, 3) := by decide +kernel
theorem dX7_alike_39 : decode cX7_alike 39 = .ok (.aload_n 0, 1) := by decide +kernel
theorem dX7_alike_40 : decode cX7_alike 40 = .ok (.aload_n 0, 1) := by decide +kernel
theorem dX7_alike_41 : decode cX7_alike 41 = .ok (.getfield 178, 3) := by decide +kernel
theorem dX7_alike_44 : decode cX7_alike 44 = .ok (.putfield 205, 3) := by decide +kernel
theorem dX7_alike_47 : decode cX7_alike 47 = .ok (.aload_n 0, 1) := by decide +kernel
theorem dX7_alike_48 : decode cX7_alike 48 = .ok (.aload_n 0, 1) := by decide +kernel
theorem dX7_alike_49 : decode cX7_alike 49 = .ok (.getfield 184, 3) := by decide +kernel
theorem dX7_alike_52 : decode cX7_alike 52 = .ok (.putfield 208, 3) := by decide +kernel
theorem dX7_alike_55 : decode cX7_alike 55 = .ok (.iconst 0, 1) := by decide +kernel
theorem dX7_alike_56 : decode cX7_alike 56 = .ok (.istore_n 3, 1) := by decide +kernel
theorem dX7_alike_57 : decode cX7_alike 57 = .ok (.iload_n 3, 1) := by decide +kernel
theorem dX7_alike_58 : decode cX7_alike 58 = .ok (.aload_n 0, 1) := by decide +kernel
theorem dX7_alike_59 : decode cX7_alike 59 = .ok (.getfield 178, 3) := by decide +kernel
theorem dX7_alike_62 : decode cX7_alike 62 = .ok (.if_icmp .ge 26, 3) := by decide +kernel
theorem dX7_alike_65 : decode cX7_alike 65 = .ok (.aload_n 0, 1) := by decide +kernel
theorem dX7_alike_66 : decode cX7_alike 66 = .ok (.getfield 41, 3) := by decide +kernel
theorem dX7_alike_69 : decode cX7_alike 69 = .ok (.iload_n 3, 1) := by decide +kernel
theorem dX7_alike_70 : decode cX7_alike 70 = .ok (.aload_n 0, 1) := by decide +kernel
theorem dX7_alike_71 : decode cX7_alike 71 = .ok (.iload_n 3, 1) := by decide +kernel
theorem dX7_alike_72 : decode cX7_alike 72 = .ok (.aload_n 0, 1) := by decide +kernel
theorem dX7_alike_73 : decode cX7_alike 73 = .ok (.getfield 17, 3) := by decide +kernel
theorem dX7_alike_76 : decode cX7_alike 76 = .ok (.iload_n 1, 1) := by decide +kernel
theorem dX7_alike_77 : decode cX7_alike 77 = .ok (.iaload, 1) := by decide +kernel
theorem dX7_alike_78 : decode cX7_alike 78 = .ok (.invokevirtual 202, 3) := by decide +kernel
theorem dX7_alike_81 : decode cX7_alike 81 = .ok (.iastore, 1) := by decide +kernel
theorem dX7_alike_82 : decode cX7_alike 82 = .ok (.iinc 3 1, 3) := by decide +kernel
theorem dX7_alike_85 : decode cX7_alike 85 = .ok (.goto (-28), 3) := by decide +kernel
theorem dX7_alike_88 : decode cX7_alike 88 = .ok (.aload_n 0, 1) := by decide +kernel
theorem dX7_alike_89 : decode cX7_alike 89 = .ok (.iload_n 2, 1) := by decide +kernel
theorem dX7_alike_90 : decode cX7_alike 90 = .ok (.iconst 1, 1) := by decide +kernel
theorem dX7_alike_91 : decode cX7_alike 91 = .ok (.invokevirtual 199, 3) := by decide +kernel
theorem dX7_alike_94 : decode cX7_alike 94 = .ok (.aload_n 0, 1) := by decide +kernel
theorem dX7_alike_95 : decode cX7_alike 95 = .ok (.getfield 205, 3) := by decide +kernel
theorem dX7_alike_98 : decode cX7_alike 98 = .ok (.aload_n 0, 1) := by decide +kernel
theorem dX7_alike_99 : decode cX7_alike 99 = .ok (.getfield 178, 3) := by decide +kernel
theorem dX7_alike_102 : decode cX7_alike 102 = .ok (.if_icmp .ne 18, 3) := by decide +kernel
theorem dX7_alike_105 : decode cX7_alike 105 = .ok (.aload_n 0, 1) := by decide +kernel
theorem dX7_alike_106 : decode cX7_alike 106 = .ok (.getfield 208, 3) := by decide +kernel
theorem dX7_alike_109 : decode cX7_alike 109 = .ok (.aload_n 0, 1) := by decide +kernel
theorem dX7_alike_110 : decode cX7_alike 110 = .ok (.getfield 184, 3) := by decide +kernel
theorem dX7_alike_113 : decode cX7_alike 113 = .ok (.if_icmp .ne 7, 3) := by decide +kernel
theorem dX7_alike_116 : decode cX7_alike 116 = .ok (.iconst 1, 1) := by decide +kernel
theorem dX7_alike_117 : decode cX7_alike 117 = .ok (.goto 4, 3) := by decide +kernel
theorem dX7_alike_120 : decode cX7_alike 120 = .ok (.iconst 0, 1) := by decide +kernel
theorem dX7_alike_121 : decode cX7_alike 121 = .ok (.istore_n 3, 1) := by decide +kernel
theorem dX7_alike_122 : decode cX7_alike 122 = .ok (.iconst 0, 1) := by decide +kernel
theorem dX7_alike_123 : decode cX7_alike 123 = .ok (.istore 4, 2) := by decide +kernel
theorem dX7_alike_125 : decode cX7_alike 125 = .ok (.iload 4, 2) := by decide +kernel
theorem dX7_alike_127 : decode cX7_alike 127 = .ok (.aload_n 0, 1) := by decide +kernel
theorem dX7_alike_128 : decode cX7_alike 128 = .ok (.getfield 178, 3) := by decide +kernel
theorem dX7_alike_131 : decode cX7_alike 131 = .ok (.if_icmp .ge 41, 3) := by decide +kernel
theorem dX7_alike_134 : decode cX7_alike 134 = .ok (.iload_n 3, 1) := by decide +kernel
theorem dX7_alike_135 : decode cX7_alike 135 = .ok (.ifCond .eq 37, 3) := by decide +kernel
theorem dX7_alike_138 : decode cX7_alike 138 = .ok (.aload_n 0, 1) := by decide +kernel
theorem dX7_alike_139 : decode cX7_alike 139 = .ok (.getfield 41, 3) := by decide +kernel
theorem dX7_alike_142 : decode cX7_alike 142 = .ok (.iload 4, 2) := by decide +kernel
theorem dX7_alike_144 : decode cX7_alike 144 = .ok (.iaload, 1) := by decide +kernel
theorem dX7_alike_145 : decode cX7_alike 145 = .ok (.aload_n 0, 1) := by decide +kernel
theorem dX7_alike_146 : decode cX7_alike 146 = .ok (.iload 4, 2) := by decide +kernel
theorem dX7_alike_148 : decode cX7_alike 148 = .ok (.aload_n 0, 1) := by decide +kernel
theorem dX7_alike_149 : decode cX7_alike 149 = .ok (.getfield 17, 3) := by decide +kernel
theorem dX7_alike_152 : decode cX7_alike 152 = .ok (.iload_n 2, 1) := by decide +kernel
theorem dX7_alike_153 : decode cX7_alike 153 = .ok (.iaload, 1) := by decide +kernel
theorem dX7_alike_154 : decode cX7_alike 154 = .ok (.invokevirtual 202, 3) := by decide +kernel
theorem dX7_alike_157 : decode cX7_alike 157 = .ok (.if_icmp .ne 7, 3) := by decide +kernel
theorem dX7_alike_160 : decode cX7_alike 160 = .ok (.iconst 1, 1) := by decide +kernel
theorem dX7_alike_161 : decode cX7_alike 161 = .ok (.goto 4, 3) := by decide +kernel
theorem dX7_alike_164 : decode cX7_alike 164 = .ok (.iconst 0, 1) := by decide +kernel
theorem dX7_alike_165 : decode cX7_alike 165 = .ok (.istore_n 3, 1) := by decide +kernel
theorem dX7_alike_166 : decode cX7_alike 166 = .ok (.iinc 4 1, 3) := by decide +kernel
theorem dX7_alike_169 : decode cX7_alike 169 = .ok (.goto (-44), 3) := by decide +kernel
theorem dX7_alike_172 : decode cX7_alike 172 = .ok (.iload_n 3, 1) := by decide +kernel
theorem dX7_alike_173 : decode cX7_alike 173 = .ok (.ireturn, 1) := by decide +kernel
theorem dX7_untwined_0 : decode cX7_untwined 0 = .ok (.aload_n 0, 1) := by decide +kernel
theorem dX7_untwined_1 : decode cX7_untwined 1 = .ok (.iload_n 1, 1) := by decide +kernel
theorem dX7_untwined_2 : decode cX7_untwined 2 = .ok (.invokevirtual 164, 3) := by decide +kernel
theorem dX7_untwined_5 : decode cX7_untwined 5 = .ok (.ifCond .ne 5, 3) := by decide +kernel
theorem dX7_untwined_8 : decode cX7_untwined 8 = .ok (.iconst 0, 1) := by decide +kernel
theorem dX7_untwined_9 : decode cX7_untwined 9 = .ok (.ireturn, 1) := by decide +kernel
theorem dX7_untwined_10 : decode cX7_untwined 10 = .ok (.iconst 1, 1) := by decide +kernel
theorem dX7_untwined_11 : decode cX7_untwined 11 = .ok (.istore_n 2, 1) := by decide +kernel
theorem dX7_untwined_12 : decode cX7_untwined 12 = .ok (.iload_n 2, 1) := by decide +kernel
theorem dX7_untwined_13 : decode cX7_untwined 13 = .ok (.bipush 12, 2) := by decide +kernel
theorem dX7_untwined_15 : decode cX7_untwined 15 = .ok (.if_icmp .gt 47, 3) := by decide +kernel
theorem dX7_untwined_18 : decode cX7_untwined 18 = .ok (.iload_n 2, 1) := by decide +kernel
theorem dX7_untwined_19 : decode cX7_untwined 19 = .ok (.aload_n 0, 1) := by decide +kernel
theorem dX7_untwined_20 : decode cX7_untwined 20 = .ok (.getfield 20, 3) := by decide +kernel
theorem dX7_untwined_23 : decode cX7_untwined 23 = .ok (.iload_n 1, 1) := by decide +kernel
theorem dX7_untwined_24 : decode cX7_untwined 24 = .ok (.iaload, 1) := by decide +kernel
theorem dX7_untwined_25 : decode cX7_untwined 25 = .ok (.imul, 1) := by decide +kernel
theorem dX7_untwined_26 : decode cX7_untwined 26 = .ok (.sipush 600, 3) := by decide +kernel
theorem dX7_untwined_29 : decode cX7_untwined 29 = .ok (.if_icmp .gt 33, 3) := by decide +kernel
theorem dX7_untwined_32 : decode cX7_untwined 32 = .ok (.aload_n 0, 1) := by decide +kernel
theorem dX7_untwined_33 : decode cX7_untwined 33 = .ok (.iload_n 1, 1) := by decide +kernel
theorem dX7_untwined_34 : decode cX7_untwined 34 = .ok (.iload_n 2, 1) := by decide +kernel
theorem dX7_untwined_35 : decode cX7_untwined 35 = .ok (.invokevirtual 199, 3) := by decide +kernel
theorem dX7_untwined_38 : decode cX7_untwined 38 = .ok (.aload_n 0, 1) := by decide +kernel
theorem dX7_untwined_39 : decode cX7_untwined 39 = .ok (.getfield 178, 3) := by decide +kernel
theorem dX7_untwined_42 : decode cX7_untwined 42 = .ok (.ifCond .ne 14, 3) := by decide +kernel
theorem dX7_untwined_45 : decode cX7_untwined 45 = .ok (.aload_n 0, 1) := by decide +kernel
theorem dX7_untwined_46 : decode cX7_untwined 46 = .ok (.getfield 184, 3) := by decide +kernel
theorem dX7_untwined_49 : decode cX7_untwined 49 = .ok (.iconst 2, 1) := by decide +kernel
theorem dX7_untwined_50 : decode cX7_untwined 50 = .ok (.irem, 1) := by decide +kernel
theorem dX7_untwined_51 : decode cX7_untwined 51 = .ok (.ifCond .ne 5, 3) := by decide +kernel
theorem dX7_untwined_54 : decode cX7_untwined 54 = .ok (.iload_n 2, 1) := by decide +kernel
theorem dX7_untwined_55 : decode cX7_untwined 55 = .ok (.ireturn, 1) := by decide +kernel
theorem dX7_untwined_56 : decode cX7_untwined 56 = .ok (.iinc 2 1, 3) := by decide +kernel
theorem dX7_untwined_59 : decode cX7_untwined 59 = .ok (.goto (-47), 3) := by decide +kernel
theorem dX7_untwined_62 : decode cX7_untwined 62 = .ok (.iconst (-1), 1) := by decide +kernel
theorem dX7_untwined_63 : decode cX7_untwined 63 = .ok (.ireturn, 1) := by decide +kernel
theorem dX7_goesTo_0 : decode cX7_goesTo 0 = .ok (.iload_n 2, 1) := by decide +kernel
theorem dX7_goesTo_1 : decode cX7_goesTo 1 = .ok (.istore_n 3, 1) := by decide +kernel
theorem dX7_goesTo_2 : decode cX7_goesTo 2 = .ok (.iconst 0, 1) := by decide +kernel
theorem dX7_goesTo_3 : decode cX7_goesTo 3 = .ok (.istore 4, 2) := by decide +kernel
theorem dX7_goesTo_5 : decode cX7_goesTo 5 = .ok (.iload 4, 2) := by decide +kernel
theorem dX7_goesTo_7 : decode cX7_goesTo 7 = .ok (.aload_n 0, 1) := by decide +kernel
theorem dX7_goesTo_8 : decode cX7_goesTo 8 = .ok (.getfield 20, 3) := by decide +kernel
theorem dX7_goesTo_11 : decode cX7_goesTo 11 = .ok (.iload_n 1, 1) := by decide +kernel
theorem dX7_goesTo_12 : decode cX7_goesTo 12 = .ok (.iaload, 1) := by decide +kernel
theorem dX7_goesTo_13 : decode cX7_goesTo 13 = .ok (.if_icmp .ge 67, 3) := by decide +kernel
theorem dX7_goesTo_16 : decode cX7_goesTo 16 = .ok (.aload_n 0, 1) := by decide +kernel
theorem dX7_goesTo_17 : decode cX7_goesTo 17 = .ok (.getfield 23, 3) := by decide +kernel
theorem dX7_goesTo_20 : decode cX7_goesTo 20 = .ok (.sipush 300, 3) := by decide +kernel
theorem dX7_goesTo_23 : decode cX7_goesTo 23 = .ok (.iload_n 1, 1) := by decide +kernel
theorem dX7_goesTo_24 : decode cX7_goesTo 24 = .ok (.imul, 1) := by decide +kernel
theorem dX7_goesTo_25 : decode cX7_goesTo 25 = .ok (.iload 4, 2) := by decide +kernel
theorem dX7_goesTo_27 : decode cX7_goesTo 27 = .ok (.iadd, 1) := by decide +kernel
theorem dX7_goesTo_28 : decode cX7_goesTo 28 = .ok (.iaload, 1) := by decide +kernel
theorem dX7_goesTo_29 : decode cX7_goesTo 29 = .ok (.istore 5, 2) := by decide +kernel
theorem dX7_goesTo_31 : decode cX7_goesTo 31 = .ok (.iload 5, 2) := by decide +kernel
theorem dX7_goesTo_33 : decode cX7_goesTo 33 = .ok (.ifCond .le 8, 3) := by decide +kernel
theorem dX7_goesTo_36 : decode cX7_goesTo 36 = .ok (.iload 5, 2) := by decide +kernel
theorem dX7_goesTo_38 : decode cX7_goesTo 38 = .ok (.goto 6, 3) := by decide +kernel
theorem dX7_goesTo_41 : decode cX7_goesTo 41 = .ok (.iload 5, 2) := by decide +kernel
theorem dX7_goesTo_43 : decode cX7_goesTo 43 = .ok (.ineg, 1) := by decide +kernel
theorem dX7_goesTo_44 : decode cX7_goesTo 44 = .ok (.istore 6, 2) := by decide +kernel
theorem dX7_goesTo_46 : decode cX7_goesTo 46 = .ok (.iload_n 3, 1) := by decide +kernel
theorem dX7_goesTo_47 : decode cX7_goesTo 47 = .ok (.iload 6, 2) := by decide +kernel
theorem dX7_goesTo_49 : decode cX7_goesTo 49 = .ok (.if_icmp .ne 10, 3) := by decide +kernel
theorem dX7_goesTo_52 : decode cX7_goesTo 52 = .ok (.iload 6, 2) := by decide +kernel
theorem dX7_goesTo_54 : decode cX7_goesTo 54 = .ok (.iconst 1, 1) := by decide +kernel
theorem dX7_goesTo_55 : decode cX7_goesTo 55 = .ok (.iadd, 1) := by decide +kernel
theorem dX7_goesTo_56 : decode cX7_goesTo 56 = .ok (.goto 17, 3) := by decide +kernel
theorem dX7_goesTo_59 : decode cX7_goesTo 59 = .ok (.iload_n 3, 1) := by decide +kernel
theorem dX7_goesTo_60 : decode cX7_goesTo 60 = .ok (.iload 6, 2) := by decide +kernel
theorem dX7_goesTo_62 : decode cX7_goesTo 62 = .ok (.iconst 1, 1) := by decide +kernel
theorem dX7_goesTo_63 : decode cX7_goesTo 63 = .ok (.iadd, 1) := by decide +kernel
theorem dX7_goesTo_64 : decode cX7_goesTo 64 = .ok (.if_icmp .ne 8, 3) := by decide +kernel
theorem dX7_goesTo_67 : decode cX7_goesTo 67 = .ok (.iload 6, 2) := by decide +kernel
theorem dX7_goesTo_69 : decode cX7_goesTo 69 = .ok (.goto 4, 3) := by decide +kernel
theorem dX7_goesTo_72 : decode cX7_goesTo 72 = .ok (.iload_n 3, 1) := by decide +kernel
theorem dX7_goesTo_73 : decode cX7_goesTo 73 = .ok (.istore_n 3, 1) := by decide +kernel
theorem dX7_goesTo_74 : decode cX7_goesTo 74 = .ok (.iinc 4 1, 3) := by decide +kernel
theorem dX7_goesTo_77 : decode cX7_goesTo 77 = .ok (.goto (-72), 3) := by decide +kernel
theorem dX7_goesTo_80 : decode cX7_goesTo 80 = .ok (.iload_n 3, 1) := by decide +kernel
theorem dX7_goesTo_81 : decode cX7_goesTo 81 = .ok (.ireturn, 1) := by decide +kernel
theorem dX7_home_0 : decode cX7_home 0 = .ok (.iconst 0, 1) := by decide +kernel
theorem dX7_home_1 : decode cX7_home 1 = .ok (.istore_n 2, 1) := by decide +kernel
theorem dX7_home_2 : decode cX7_home 2 = .ok (.iconst 0, 1) := by decide +kernel
theorem dX7_home_3 : decode cX7_home 3 = .ok (.istore_n 3, 1) := by decide +kernel
theorem dX7_home_4 : decode cX7_home 4 = .ok (.iconst 1, 1) := by decide +kernel
theorem dX7_home_5 : decode cX7_home 5 = .ok (.istore 4, 2) := by decide +kernel
theorem dX7_home_7 : decode cX7_home 7 = .ok (.iload 4, 2) := by decide +kernel
theorem dX7_home_9 : decode cX7_home 9 = .ok (.aload_n 0, 1) := by decide +kernel
theorem dX7_home_10 : decode cX7_home 10 = .ok (.getfield 17, 3) := by decide +kernel
theorem dX7_home_13 : decode cX7_home 13 = .ok (.iload_n 1, 1) := by decide +kernel
theorem dX7_home_14 : decode cX7_home 14 = .ok (.iaload, 1) := by decide +kernel
theorem dX7_home_15 : decode cX7_home 15 = .ok (.if_icmp .gt 18, 3) := by decide +kernel
theorem dX7_home_18 : decode cX7_home 18 = .ok (.aload_n 0, 1) := by decide +kernel
theorem dX7_home_19 : decode cX7_home 19 = .ok (.getfield 47, 3) := by decide +kernel
theorem dX7_home_22 : decode cX7_home 22 = .ok (.iload 4, 2) := by decide +kernel
theorem dX7_home_24 : decode cX7_home 24 = .ok (.iload 4, 2) := by decide +kernel
theorem dX7_home_26 : decode cX7_home 26 = .ok (.iastore, 1) := by decide +kernel
theorem dX7_home_27 : decode cX7_home 27 = .ok (.iinc 4 1, 3) := by decide +kernel
theorem dX7_home_30 : decode cX7_home 30 = .ok (.goto (-23), 3) := by decide +kernel
theorem dX7_home_33 : decode cX7_home 33 = .ok (.iload_n 3, 1) := by decide +kernel
theorem dX7_home_34 : decode cX7_home 34 = .ok (.ifCond .ne 72, 3) := by decide +kernel
theorem dX7_home_37 : decode cX7_home 37 = .ok (.iinc 2 1, 3) := by decide +kernel
theorem dX7_home_40 : decode cX7_home 40 = .ok (.iconst 1, 1) := by decide +kernel
theorem dX7_home_41 : decode cX7_home 41 = .ok (.istore_n 3, 1) := by decide +kernel
theorem dX7_home_42 : decode cX7_home 42 = .ok (.iconst 1, 1) := by decide +kernel
theorem dX7_home_43 : decode cX7_home 43 = .ok (.istore 4, 2) := by decide +kernel
theorem dX7_home_45 : decode cX7_home 45 = .ok (.iload 4, 2) := by decide +kernel
theorem dX7_home_47 : decode cX7_home 47 = .ok (.aload_n 0, 1) := by decide +kernel
theorem dX7_home_48 : decode cX7_home 48 = .ok (.getfield 17, 3) := by decide +kernel
theorem dX7_home_51 : decode cX7_home 51 = .ok (.iload_n 1, 1) := by decide +kernel
theorem dX7_home_52 : decode cX7_home 52 = .ok (.iaload, 1) := by decide +kernel
theorem dX7_home_53 : decode cX7_home 53 = .ok (.if_icmp .gt 50, 3) := by decide +kernel
theorem dX7_home_56 : decode cX7_home 56 = .ok (.aload_n 0, 1) := by decide +kernel
theorem dX7_home_57 : decode cX7_home 57 = .ok (.getfield 47, 3) := by decide +kernel
theorem dX7_home_60 : decode cX7_home 60 = .ok (.iload 4, 2) := by decide +kernel
theorem dX7_home_62 : decode cX7_home 62 = .ok (.aload_n 0, 1) := by decide +kernel
theorem dX7_home_63 : decode cX7_home 63 = .ok (.iload_n 1, 1) := by decide +kernel
theorem dX7_home_64 : decode cX7_home 64 = .ok (.aload_n 0, 1) := by decide +kernel
theorem dX7_home_65 : decode cX7_home 65 = .ok (.getfield 47, 3) := by decide +kernel
theorem dX7_home_68 : decode cX7_home 68 = .ok (.iload 4, 2) := by decide +kernel
theorem dX7_home_70 : decode cX7_home 70 = .ok (.iaload, 1) := by decide +kernel
theorem dX7_home_71 : decode cX7_home 71 = .ok (.invokevirtual 211, 3) := by decide +kernel
theorem dX7_home_74 : decode cX7_home 74 = .ok (.iastore, 1) := by decide +kernel
theorem dX7_home_75 : decode cX7_home 75 = .ok (.iload_n 3, 1) := by decide +kernel
theorem dX7_home_76 : decode cX7_home 76 = .ok (.ifCond .eq 19, 3) := by decide +kernel
theorem dX7_home_79 : decode cX7_home 79 = .ok (.aload_n 0, 1) := by decide +kernel
theorem dX7_home_80 : decode cX7_home 80 = .ok (.getfield 47, 3) := by decide +kernel
theorem dX7_home_83 : decode cX7_home 83 = .ok (.iload 4, 2) := by decide +kernel
theorem dX7_home_85 : decode cX7_home 85 = .ok (.iaload, 1) := by decide +kernel
theorem dX7_home_86 : decode cX7_home 86 = .ok (.iload 4, 2) := by decide +kernel
theorem dX7_home_88 : decode cX7_home 88 = .ok (.if_icmp .ne 7, 3) := by decide +kernel
theorem dX7_home_91 : decode cX7_home 91 = .ok (.iconst 1, 1) := by decide +kernel
theorem dX7_home_92 : decode cX7_home 92 = .ok (.goto 4, 3) := by decide +kernel
theorem dX7_home_95 : decode cX7_home 95 = .ok (.iconst 0, 1) := by decide +kernel
theorem dX7_home_96 : decode cX7_home 96 = .ok (.istore_n 3, 1) := by decide +kernel
theorem dX7_home_97 : decode cX7_home 97 = .ok (.iinc 4 1, 3) := by decide +kernel
theorem dX7_home_100 : decode cX7_home 100 = .ok (.goto (-55), 3) := by decide +kernel
theorem dX7_home_103 : decode cX7_home 103 = .ok (.goto (-70), 3) := by decide +kernel
theorem dX7_home_106 : decode cX7_home 106 = .ok (.iload_n 2, 1) := by decide +kernel
theorem dX7_home_107 : decode cX7_home 107 = .ok (.ireturn, 1) := by decide +kernel
theorem dX7_rings_0 : decode cX7_rings 0 = .ok (.iconst 0, 1) := by decide +kernel
theorem dX7_rings_1 : decode cX7_rings 1 = .ok (.istore_n 2, 1) := by decide +kernel
theorem dX7_rings_2 : decode cX7_rings 2 = .ok (.iconst 1, 1) := by decide +kernel
theorem dX7_rings_3 : decode cX7_rings 3 = .ok (.istore_n 3, 1) := by decide +kernel
theorem dX7_rings_4 : decode cX7_rings 4 = .ok (.iload_n 3, 1) := by decide +kernel
theorem dX7_rings_5 : decode cX7_rings 5 = .ok (.aload_n 0, 1) := by decide +kernel
theorem dX7_rings_6 : decode cX7_rings 6 = .ok (.getfield 17, 3) := by decide +kernel
theorem dX7_rings_9 : decode cX7_rings 9 = .ok (.iload_n 1, 1) := by decide +kernel
theorem dX7_rings_10 : decode cX7_rings 10 = .ok (.iaload, 1) := by decide +kernel
theorem dX7_rings_11 : decode cX7_rings 11 = .ok (.if_icmp .gt 63, 3) := by decide +kernel
theorem dX7_rings_14 : decode cX7_rings 14 = .ok (.iload_n 3, 1) := by decide +kernel
theorem dX7_rings_15 : decode cX7_rings 15 = .ok (.istore 4, 2) := by decide +kernel
theorem dX7_rings_17 : decode cX7_rings 17 = .ok (.aload_n 0, 1) := by decide +kernel
theorem dX7_rings_18 : decode cX7_rings 18 = .ok (.iload_n 1, 1) := by decide +kernel
theorem dX7_rings_19 : decode cX7_rings 19 = .ok (.iload_n 3, 1) := by decide +kernel
theorem dX7_rings_20 : decode cX7_rings 20 = .ok (.invokevirtual 211, 3) := by decide +kernel
theorem dX7_rings_23 : decode cX7_rings 23 = .ok (.istore 5, 2) := by decide +kernel
theorem dX7_rings_25 : decode cX7_rings 25 = .ok (.iload 5, 2) := by decide +kernel
theorem dX7_rings_27 : decode cX7_rings 27 = .ok (.iload_n 3, 1) := by decide +kernel
theorem dX7_rings_28 : decode cX7_rings 28 = .ok (.if_icmp .eq 31, 3) := by decide +kernel
theorem dX7_rings_31 : decode cX7_rings 31 = .ok (.iload 5, 2) := by decide +kernel
theorem dX7_rings_33 : decode cX7_rings 33 = .ok (.iload 4, 2) := by decide +kernel
theorem dX7_rings_35 : decode cX7_rings 35 = .ok (.if_icmp .ge 8, 3) := by decide +kernel
theorem dX7_rings_38 : decode cX7_rings 38 = .ok (.iload 5, 2) := by decide +kernel
theorem dX7_rings_40 : decode cX7_rings 40 = .ok (.goto 5, 3) := by decide +kernel
theorem dX7_rings_43 : decode cX7_rings 43 = .ok (.iload 4, 2) := by decide +kernel
theorem dX7_rings_45 : decode cX7_rings 45 = .ok (.istore 4, 2) := by decide +kernel
theorem dX7_rings_47 : decode cX7_rings 47 = .ok (.aload_n 0, 1) := by decide +kernel
theorem dX7_rings_48 : decode cX7_rings 48 = .ok (.iload_n 1, 1) := by decide +kernel
theorem dX7_rings_49 : decode cX7_rings 49 = .ok (.iload 5, 2) := by decide +kernel
theorem dX7_rings_51 : decode cX7_rings 51 = .ok (.invokevirtual 211, 3) := by decide +kernel
theorem dX7_rings_54 : decode cX7_rings 54 = .ok (.istore 5, 2) := by decide +kernel
theorem dX7_rings_56 : decode cX7_rings 56 = .ok (.goto (-31), 3) := by decide +kernel
theorem dX7_rings_59 : decode cX7_rings 59 = .ok (.iload 4, 2) := by decide +kernel
theorem dX7_rings_61 : decode cX7_rings 61 = .ok (.iload_n 3, 1) := by decide +kernel
theorem dX7_rings_62 : decode cX7_rings 62 = .ok (.if_icmp .ne 6, 3) := by decide +kernel
theorem dX7_rings_65 : decode cX7_rings 65 = .ok (.iinc 2 1, 3) := by decide +kernel
theorem dX7_rings_68 : decode cX7_rings 68 = .ok (.iinc 3 1, 3) := by decide +kernel
theorem dX7_rings_71 : decode cX7_rings 71 = .ok (.goto (-67), 3) := by decide +kernel
theorem dX7_rings_74 : decode cX7_rings 74 = .ok (.iload_n 2, 1) := by decide +kernel
theorem dX7_rings_75 : decode cX7_rings 75 = .ok (.ireturn, 1) := by decide +kernel
theorem dX7_isInTurn_0 : decode cX7_isInTurn 0 = .ok (.iload_n 2, 1) := by decide +kernel
theorem dX7_isInTurn_1 : decode cX7_isInTurn 1 = .ok (.istore 4, 2) := by decide +kernel
theorem dX7_isInTurn_3 : decode cX7_isInTurn 3 = .ok (.iconst 0, 1) := by decide +kernel
theorem dX7_isInTurn_4 : decode cX7_isInTurn 4 = .ok (.istore 5, 2) := by decide +kernel
theorem dX7_isInTurn_6 : decode cX7_isInTurn 6 = .ok (.iconst 0, 1) := by decide +kernel
theorem dX7_isInTurn_7 : decode cX7_isInTurn 7 = .ok (.istore 6, 2) := by decide +kernel
theorem dX7_isInTurn_9 : decode cX7_isInTurn 9 = .ok (.iconst 0, 1) := by decide +kernel
theorem dX7_isInTurn_10 : decode cX7_isInTurn 10 = .ok (.istore 7, 2) := by decide +kernel
theorem dX7_isInTurn_12 : decode cX7_isInTurn 12 = .ok (.iload 7, 2) := by decide +kernel
theorem dX7_isInTurn_14 : decode cX7_isInTurn 14 = .ok (.iload_n 3, 1) := by decide +kernel
theorem dX7_isInTurn_15 : decode cX7_isInTurn 15 = .ok (.if_icmp .ge 150, 3) := by decide +kernel
theorem dX7_isInTurn_18 : decode cX7_isInTurn 18 = .ok (.iconst 0, 1) := by decide +kernel
theorem dX7_isInTurn_19 : decode cX7_isInTurn 19 = .ok (.istore 8, 2) := by decide +kernel
theorem dX7_isInTurn_21 : decode cX7_isInTurn 21 = .ok (.iload 8, 2) := by decide +kernel
theorem dX7_isInTurn_23 : decode cX7_isInTurn 23 = .ok (.aload_n 0, 1) := by decide +kernel
theorem dX7_isInTurn_24 : decode cX7_isInTurn 24 = .ok (.getfield 20, 3) := by decide +kernel
theorem dX7_isInTurn_27 : decode cX7_isInTurn 27 = .ok (.iload_n 1, 1) := by decide +kernel
theorem dX7_isInTurn_28 : decode cX7_isInTurn 28 = .ok (.iaload, 1) := by decide +kernel
theorem dX7_isInTurn_29 : decode cX7_isInTurn 29 = .ok (.if_icmp .ge 130, 3) := by decide +kernel
theorem dX7_isInTurn_32 : decode cX7_isInTurn 32 = .ok (.aload_n 0, 1) := by decide +kernel
theorem dX7_isInTurn_33 : decode cX7_isInTurn 33 = .ok (.getfield 23, 3) := by decide +kernel
theorem dX7_isInTurn_36 : decode cX7_isInTurn 36 = .ok (.sipush 300, 3) := by decide +kernel
theorem dX7_isInTurn_39 : decode cX7_isInTurn 39 = .ok (.iload_n 1, 1) := by decide +kernel
theorem dX7_isInTurn_40 : decode cX7_isInTurn 40 = .ok (.imul, 1) := by decide +kernel
theorem dX7_isInTurn_41 : decode cX7_isInTurn 41 = .ok (.iload 8, 2) := by decide +kernel
theorem dX7_isInTurn_43 : decode cX7_isInTurn 43 = .ok (.iadd, 1) := by decide +kernel
theorem dX7_isInTurn_44 : decode cX7_isInTurn 44 = .ok (.iaload, 1) := by decide +kernel
theorem dX7_isInTurn_45 : decode cX7_isInTurn 45 = .ok (.istore 9, 2) := by decide +kernel
theorem dX7_isInTurn_47 : decode cX7_isInTurn 47 = .ok (.iload 9, 2) := by decide +kernel
theorem dX7_isInTurn_49 : decode cX7_isInTurn 49 = .ok (.ifCond .le 8, 3) := by decide +kernel
theorem dX7_isInTurn_52 : decode cX7_isInTurn 52 = .ok (.iload 9, 2) := by decide +kernel
theorem dX7_isInTurn_54 : decode cX7_isInTurn 54 = .ok (.goto 6, 3) := by decide +kernel
theorem dX7_isInTurn_57 : decode cX7_isInTurn 57 = .ok (.iload 9, 2) := by decide +kernel
theorem dX7_isInTurn_59 : decode cX7_isInTurn 59 = .ok (.ineg, 1) := by decide +kernel
theorem dX7_isInTurn_60 : decode cX7_isInTurn 60 = .ok (.istore 10, 2) := by decide +kernel
theorem dX7_isInTurn_62 : decode cX7_isInTurn 62 = .ok (.iload 4, 2) := by decide +kernel
theorem dX7_isInTurn_64 : decode cX7_isInTurn 64 = .ok (.iload 10, 2) := by decide +kernel
theorem dX7_isInTurn_66 : decode cX7_isInTurn 66 = .ok (.if_icmp .eq 15, 3) := by decide +kernel
theorem dX7_isInTurn_69 : decode cX7_isInTurn 69 = .ok (.iload 4, 2) := by decide +kernel
theorem dX7_isInTurn_71 : decode cX7_isInTurn 71 = .ok (.iload 10, 2) := by decide +kernel
theorem dX7_isInTurn_73 : decode cX7_isInTurn 73 = .ok (.iconst 1, 1) := by decide +kernel
theorem dX7_isInTurn_74 : decode cX7_isInTurn 74 = .ok (.iadd, 1) := by decide +kernel
theorem dX7_isInTurn_75 : decode cX7_isInTurn 75 = .ok (.if_icmp .eq 6, 3) := by decide +kernel
theorem dX7_isInTurn_78 : decode cX7_isInTurn 78 = .ok (.goto 75, 3) := by decide +kernel
theorem dX7_isInTurn_81 : decode cX7_isInTurn 81 = .ok (.iload 4, 2) := by decide +kernel
theorem dX7_isInTurn_83 : decode cX7_isInTurn 83 = .ok (.iload 10, 2) := by decide +kernel
theorem dX7_isInTurn_85 : decode cX7_isInTurn 85 = .ok (.if_icmp .ne 7, 3) := by decide +kernel
theorem dX7_isInTurn_88 : decode cX7_isInTurn 88 = .ok (.iconst 1, 1) := by decide +kernel
theorem dX7_isInTurn_89 : decode cX7_isInTurn 89 = .ok (.goto 4, 3) := by decide +kernel
theorem dX7_isInTurn_92 : decode cX7_isInTurn 92 = .ok (.iconst 0, 1) := by decide +kernel
theorem dX7_isInTurn_93 : decode cX7_isInTurn 93 = .ok (.iload 9, 2) := by decide +kernel
theorem dX7_isInTurn_95 : decode cX7_isInTurn 95 = .ok (.ifCond .le 7, 3) := by decide +kernel
theorem dX7_isInTurn_98 : decode cX7_isInTurn 98 = .ok (.iconst 1, 1) := by decide +kernel
theorem dX7_isInTurn_99 : decode cX7_isInTurn 99 = .ok (.goto 4, 3) := by decide +kernel
theorem dX7_isInTurn_102 : decode cX7_isInTurn 102 = .ok (.iconst 0, 1) := by decide +kernel
theorem dX7_isInTurn_103 : decode cX7_isInTurn 103 = .ok (.if_icmp .ne 7, 3) := by decide +kernel
theorem dX7_isInTurn_106 : decode cX7_isInTurn 106 = .ok (.iconst 1, 1) := by decide +kernel
theorem dX7_isInTurn_107 : decode cX7_isInTurn 107 = .ok (.goto 4, 3) := by decide +kernel
theorem dX7_isInTurn_110 : decode cX7_isInTurn 110 = .ok (.iconst 2, 1) := by decide +kernel
theorem dX7_isInTurn_111 : decode cX7_isInTurn 111 = .ok (.istore 11, 2) := by decide +kernel
theorem dX7_isInTurn_113 : decode cX7_isInTurn 113 = .ok (.iload 11, 2) := by decide +kernel
theorem dX7_isInTurn_115 : decode cX7_isInTurn 115 = .ok (.iload 6, 2) := by decide +kernel
theorem dX7_isInTurn_117 : decode cX7_isInTurn 117 = .ok (.if_icmp .ne 5, 3) := by decide +kernel
theorem dX7_isInTurn_120 : decode cX7_isInTurn 120 = .ok (.iconst 0, 1) := by decide +kernel
theorem dX7_isInTurn_121 : decode cX7_isInTurn 121 = .ok (.ireturn, 1) := by decide +kernel
theorem dX7_isInTurn_122 : decode cX7_isInTurn 122 = .ok (.iload 5, 2) := by decide +kernel
theorem dX7_isInTurn_124 : decode cX7_isInTurn 124 = .ok (.ifCond .ne 7, 3) := by decide +kernel
theorem dX7_isInTurn_127 : decode cX7_isInTurn 127 = .ok (.iload 11, 2) := by decide +kernel
theorem dX7_isInTurn_129 : decode cX7_isInTurn 129 = .ok (.istore 5, 2) := by decide +kernel
theorem dX7_isInTurn_131 : decode cX7_isInTurn 131 = .ok (.iload 11, 2) := by decide +kernel
theorem dX7_isInTurn_133 : decode cX7_isInTurn 133 = .ok (.istore 6, 2) := by decide +kernel
theorem dX7_isInTurn_135 : decode cX7_isInTurn 135 = .ok (.iload 4, 2) := by decide +kernel
theorem dX7_isInTurn_137 : decode cX7_isInTurn 137 = .ok (.iload 10, 2) := by decide +kernel
theorem dX7_isInTurn_139 : decode cX7_isInTurn 139 = .ok (.if_icmp .ne 10, 3) := by decide +kernel
theorem dX7_isInTurn_142 : decode cX7_isInTurn 142 = .ok (.iload 10, 2) := by decide +kernel
theorem dX7_isInTurn_144 : decode cX7_isInTurn 144 = .ok (.iconst 1, 1) := by decide +kernel
theorem dX7_isInTurn_145 : decode cX7_isInTurn 145 = .ok (.iadd, 1) := by decide +kernel
theorem dX7_isInTurn_146 : decode cX7_isInTurn 146 = .ok (.goto 5, 3) := by decide +kernel
theorem dX7_isInTurn_149 : decode cX7_isInTurn 149 = .ok (.iload 10, 2) := by decide +kernel
theorem dX7_isInTurn_151 : decode cX7_isInTurn 151 = .ok (.istore 4, 2) := by decide +kernel
theorem dX7_isInTurn_153 : decode cX7_isInTurn 153 = .ok (.iinc 8 1, 3) := by decide +kernel
theorem dX7_isInTurn_156 : decode cX7_isInTurn 156 = .ok (.goto (-135), 3) := by decide +kernel
theorem dX7_isInTurn_159 : decode cX7_isInTurn 159 = .ok (.iinc 7 1, 3) := by decide +kernel
theorem dX7_isInTurn_162 : decode cX7_isInTurn 162 = .ok (.goto (-150), 3) := by decide +kernel
theorem dX7_isInTurn_165 : decode cX7_isInTurn 165 = .ok (.iload 5, 2) := by decide +kernel
theorem dX7_isInTurn_167 : decode cX7_isInTurn 167 = .ok (.ifCond .eq 10, 3) := by decide +kernel
theorem dX7_isInTurn_170 : decode cX7_isInTurn 170 = .ok (.iload 5, 2) := by decide +kernel
theorem dX7_isInTurn_172 : decode cX7_isInTurn 172 = .ok (.iload 6, 2) := by decide +kernel
theorem dX7_isInTurn_174 : decode cX7_isInTurn 174 = .ok (.if_icmp .eq 7, 3) := by decide +kernel
theorem dX7_isInTurn_177 : decode cX7_isInTurn 177 = .ok (.iconst 1, 1) := by decide +kernel
theorem dX7_isInTurn_178 : decode cX7_isInTurn 178 = .ok (.goto 4, 3) := by decide +kernel
theorem dX7_isInTurn_181 : decode cX7_isInTurn 181 = .ok (.iconst 0, 1) := by decide +kernel
theorem dX7_isInTurn_182 : decode cX7_isInTurn 182 = .ok (.ireturn, 1) := by decide +kernel
theorem dX7_holds_0 : decode cX7_holds 0 = .ok (.iconst 1, 1) := by decide +kernel
theorem dX7_holds_1 : decode cX7_holds 1 = .ok (.istore_n 2, 1) := by decide +kernel
theorem dX7_holds_2 : decode cX7_holds 2 = .ok (.iconst 1, 1) := by decide +kernel
theorem dX7_holds_3 : decode cX7_holds 3 = .ok (.istore_n 3, 1) := by decide +kernel
theorem dX7_holds_4 : decode cX7_holds 4 = .ok (.iload_n 3, 1) := by decide +kernel
theorem dX7_holds_5 : decode cX7_holds 5 = .ok (.aload_n 0, 1) := by decide +kernel
theorem dX7_holds_6 : decode cX7_holds 6 = .ok (.getfield 17, 3) := by decide +kernel
theorem dX7_holds_9 : decode cX7_holds 9 = .ok (.iload_n 1, 1) := by decide +kernel
theorem dX7_holds_10 : decode cX7_holds 10 = .ok (.iaload, 1) := by decide +kernel
theorem dX7_holds_11 : decode cX7_holds 11 = .ok (.if_icmp .ge 94, 3) := by decide +kernel
theorem dX7_holds_14 : decode cX7_holds 14 = .ok (.iconst 0, 1) := by decide +kernel
theorem dX7_holds_15 : decode cX7_holds 15 = .ok (.istore 4, 2) := by decide +kernel
theorem dX7_holds_17 : decode cX7_holds 17 = .ok (.iconst 0, 1) := by decide +kernel
theorem dX7_holds_18 : decode cX7_holds 18 = .ok (.istore 5, 2) := by decide +kernel
theorem dX7_holds_20 : decode cX7_holds 20 = .ok (.iload 5, 2) := by decide +kernel
theorem dX7_holds_22 : decode cX7_holds 22 = .ok (.aload_n 0, 1) := by decide +kernel
theorem dX7_holds_23 : decode cX7_holds 23 = .ok (.getfield 20, 3) := by decide +kernel
theorem dX7_holds_26 : decode cX7_holds 26 = .ok (.iload_n 1, 1) := by decide +kernel
theorem dX7_holds_27 : decode cX7_holds 27 = .ok (.iaload, 1) := by decide +kernel
theorem dX7_holds_28 : decode cX7_holds 28 = .ok (.if_icmp .ge 56, 3) := by decide +kernel
theorem dX7_holds_31 : decode cX7_holds 31 = .ok (.iload 4, 2) := by decide +kernel
theorem dX7_holds_33 : decode cX7_holds 33 = .ok (.ifCond .ne 38, 3) := by decide +kernel
theorem dX7_holds_36 : decode cX7_holds 36 = .ok (.aload_n 0, 1) := by decide +kernel
theorem dX7_holds_37 : decode cX7_holds 37 = .ok (.getfield 23, 3) := by decide +kernel
theorem dX7_holds_40 : decode cX7_holds 40 = .ok (.sipush 300, 3) := by decide +kernel
theorem dX7_holds_43 : decode cX7_holds 43 = .ok (.iload_n 1, 1) := by decide +kernel
theorem dX7_holds_44 : decode cX7_holds 44 = .ok (.imul, 1) := by decide +kernel
theorem dX7_holds_45 : decode cX7_holds 45 = .ok (.iload 5, 2) := by decide +kernel
theorem dX7_holds_47 : decode cX7_holds 47 = .ok (.iadd, 1) := by decide +kernel
theorem dX7_holds_48 : decode cX7_holds 48 = .ok (.iaload, 1) := by decide +kernel
theorem dX7_holds_49 : decode cX7_holds 49 = .ok (.iload_n 3, 1) := by decide +kernel
theorem dX7_holds_50 : decode cX7_holds 50 = .ok (.if_icmp .eq 21, 3) := by decide +kernel
theorem dX7_holds_53 : decode cX7_holds 53 = .ok (.aload_n 0, 1) := by decide +kernel
theorem dX7_holds_54 : decode cX7_holds 54 = .ok (.getfield 23, 3) := by decide +kernel
theorem dX7_holds_57 : decode cX7_holds 57 = .ok (.sipush 300, 3) := by decide +kernel
theorem dX7_holds_60 : decode cX7_holds 60 = .ok (.iload_n 1, 1) := by decide +kernel
theorem dX7_holds_61 : decode cX7_holds 61 = .ok (.imul, 1) := by decide +kernel
theorem dX7_holds_62 : decode cX7_holds 62 = .ok (.iload 5, 2) := by decide +kernel
theorem dX7_holds_64 : decode cX7_holds 64 = .ok (.iadd, 1) := by decide +kernel
theorem dX7_holds_65 : decode cX7_holds 65 = .ok (.iaload, 1) := by decide +kernel
theorem dX7_holds_66 : decode cX7_holds 66 = .ok (.iload_n 3, 1) := by decide +kernel
theorem dX7_holds_67 : decode cX7_holds 67 = .ok (.ineg, 1) := by decide +kernel
theorem dX7_holds_68 : decode cX7_holds 68 = .ok (.if_icmp .ne 7, 3) := by decide +kernel
theorem dX7_holds_71 : decode cX7_holds 71 = .ok (.iconst 1, 1) := by decide +kernel
theorem dX7_holds_72 : decode cX7_holds 72 = .ok (.goto 4, 3) := by decide +kernel
theorem dX7_holds_75 : decode cX7_holds 75 = .ok (.iconst 0, 1) := by decide +kernel
theorem dX7_holds_76 : decode cX7_holds 76 = .ok (.istore 4, 2) := by decide +kernel
theorem dX7_holds_78 : decode cX7_holds 78 = .ok (.iinc 5 1, 3) := by decide +kernel
theorem dX7_holds_81 : decode cX7_holds 81 = .ok (.goto (-61), 3) := by decide +kernel
theorem dX7_holds_84 : decode cX7_holds 84 = .ok (.iload_n 2, 1) := by decide +kernel
theorem dX7_holds_85 : decode cX7_holds 85 = .ok (.ifCond .eq 12, 3) := by decide +kernel
theorem dX7_holds_88 : decode cX7_holds 88 = .ok (.iload 4, 2) := by decide +kernel
theorem dX7_holds_90 : decode cX7_holds 90 = .ok (.ifCond .eq 7, 3) := by decide +kernel
theorem dX7_holds_93 : decode cX7_holds 93 = .ok (.iconst 1, 1) := by decide +kernel
theorem dX7_holds_94 : decode cX7_holds 94 = .ok (.goto 4, 3) := by decide +kernel
theorem dX7_holds_97 : decode cX7_holds 97 = .ok (.iconst 0, 1) := by decide +kernel
theorem dX7_holds_98 : decode cX7_holds 98 = .ok (.istore_n 2, 1) := by decide +kernel
theorem dX7_holds_99 : decode cX7_holds 99 = .ok (.iinc 3 1, 3) := by decide +kernel
theorem dX7_holds_102 : decode cX7_holds 102 = .ok (.goto (-98), 3) := by decide +kernel
theorem dX7_holds_105 : decode cX7_holds 105 = .ok (.iload_n 2, 1) := by decide +kernel
theorem dX7_holds_106 : decode cX7_holds 106 = .ok (.ifCond .eq 11, 3) := by decide +kernel
theorem dX7_holds_109 : decode cX7_holds 109 = .ok (.aload_n 0, 1) := by decide +kernel
theorem dX7_holds_110 : decode cX7_holds 110 = .ok (.iload_n 1, 1) := by decide +kernel
theorem dX7_holds_111 : decode cX7_holds 111 = .ok (.invokevirtual 214, 3) := by decide +kernel
theorem dX7_holds_114 : decode cX7_holds 114 = .ok (.goto 4, 3) := by decide +kernel
theorem dX7_holds_117 : decode cX7_holds 117 = .ok (.iconst 0, 1) := by decide +kernel
theorem dX7_holds_118 : decode cX7_holds 118 = .ok (.istore_n 3, 1) := by decide +kernel
theorem dX7_holds_119 : decode cX7_holds 119 = .ok (.iconst 1, 1) := by decide +kernel
theorem dX7_holds_120 : decode cX7_holds 120 = .ok (.istore 4, 2) := by decide +kernel
theorem dX7_holds_122 : decode cX7_holds 122 = .ok (.iload 4, 2) := by decide +kernel
theorem dX7_holds_124 : decode cX7_holds 124 = .ok (.aload_n 0, 1) := by decide +kernel
theorem dX7_holds_125 : decode cX7_holds 125 = .ok (.getfield 17, 3) := by decide +kernel
theorem dX7_holds_128 : decode cX7_holds 128 = .ok (.iload_n 1, 1) := by decide +kernel
theorem dX7_holds_129 : decode cX7_holds 129 = .ok (.iaload, 1) := by decide +kernel
theorem dX7_holds_130 : decode cX7_holds 130 = .ok (.if_icmp .gt 22, 3) := by decide +kernel
theorem dX7_holds_133 : decode cX7_holds 133 = .ok (.iload_n 2, 1) := by decide +kernel
theorem dX7_holds_134 : decode cX7_holds 134 = .ok (.ifCond .eq 18, 3) := by decide +kernel
theorem dX7_holds_137 : decode cX7_holds 137 = .ok (.aload_n 0, 1) := by decide +kernel
theorem dX7_holds_138 : decode cX7_holds 138 = .ok (.iload_n 1, 1) := by decide +kernel
theorem dX7_holds_139 : decode cX7_holds 139 = .ok (.iload 4, 2) := by decide +kernel
theorem dX7_holds_141 : decode cX7_holds 141 = .ok (.iload_n 3, 1) := by decide +kernel
theorem dX7_holds_142 : decode cX7_holds 142 = .ok (.invokevirtual 218, 3) := by decide +kernel
theorem dX7_holds_145 : decode cX7_holds 145 = .ok (.istore_n 2, 1) := by decide +kernel
theorem dX7_holds_146 : decode cX7_holds 146 = .ok (.iinc 4 1, 3) := by decide +kernel
theorem dX7_holds_149 : decode cX7_holds 149 = .ok (.goto (-27), 3) := by decide +kernel
theorem dX7_holds_152 : decode cX7_holds 152 = .ok (.iload_n 2, 1) := by decide +kernel
theorem dX7_holds_153 : decode cX7_holds 153 = .ok (.ireturn, 1) := by decide +kernel
theorem dX7_levels_0 : decode cX7_levels 0 = .ok (.iconst 0, 1) := by decide +kernel
theorem dX7_levels_1 : decode cX7_levels 1 = .ok (.istore_n 2, 1) := by decide +kernel
theorem dX7_levels_2 : decode cX7_levels 2 = .ok (.iconst 0, 1) := by decide +kernel
theorem dX7_levels_3 : decode cX7_levels 3 = .ok (.istore_n 3, 1) := by decide +kernel
theorem dX7_levels_4 : decode cX7_levels 4 = .ok (.iload_n 3, 1) := by decide +kernel
theorem dX7_levels_5 : decode cX7_levels 5 = .ok (.aload_n 0, 1) := by decide +kernel
theorem dX7_levels_6 : decode cX7_levels 6 = .ok (.getfield 20, 3) := by decide +kernel
theorem dX7_levels_9 : decode cX7_levels 9 = .ok (.iload_n 1, 1) := by decide +kernel
theorem dX7_levels_10 : decode cX7_levels 10 = .ok (.iaload, 1) := by decide +kernel
theorem dX7_levels_11 : decode cX7_levels 11 = .ok (.if_icmp .ge 160, 3) := by decide +kernel
theorem dX7_levels_14 : decode cX7_levels 14 = .ok (.aload_n 0, 1) := by decide +kernel
theorem dX7_levels_15 : decode cX7_levels 15 = .ok (.getfield 23, 3) := by decide +kernel
theorem dX7_levels_18 : decode cX7_levels 18 = .ok (.sipush 300, 3) := by decide +kernel
theorem dX7_levels_21 : decode cX7_levels 21 = .ok (.iload_n 1, 1) := by decide +kernel
theorem dX7_levels_22 : decode cX7_levels 22 = .ok (.imul, 1) := by decide +kernel
theorem dX7_levels_23 : decode cX7_levels 23 = .ok (.iload_n 3, 1) := by decide +kernel
theorem dX7_levels_24 : decode cX7_levels 24 = .ok (.iadd, 1) := by decide +kernel
theorem dX7_levels_25 : decode cX7_levels 25 = .ok (.iaload, 1) := by decide +kernel
theorem dX7_levels_26 : decode cX7_levels 26 = .ok (.istore 4, 2) := by decide +kernel
theorem dX7_levels_28 : decode cX7_levels 28 = .ok (.iload 4, 2) := by decide +kernel
theorem dX7_levels_30 : decode cX7_levels 30 = .ok (.ifCond .ge 9, 3) := by decide +kernel
theorem dX7_levels_33 : decode cX7_levels 33 = .ok (.iload 4, 2) := by decide +kernel
theorem dX7_levels_35 : decode cX7_levels 35 = .ok (.ineg, 1) := by decide +kernel
theorem dX7_levels_36 : decode cX7_levels 36 = .ok (.goto 5, 3) := by decide +kernel
theorem dX7_levels_39 : decode cX7_levels 39 = .ok (.iload 4, 2) := by decide +kernel
theorem dX7_levels_41 : decode cX7_levels 41 = .ok (.istore 4, 2) := by decide +kernel
theorem dX7_levels_43 : decode cX7_levels 43 = .ok (.aload_n 0, 1) := by decide +kernel
theorem dX7_levels_44 : decode cX7_levels 44 = .ok (.getfield 50, 3) := by decide +kernel
theorem dX7_levels_47 : decode cX7_levels 47 = .ok (.iload_n 3, 1) := by decide +kernel
theorem dX7_levels_48 : decode cX7_levels 48 = .ok (.iconst 1, 1) := by decide +kernel
theorem dX7_levels_49 : decode cX7_levels 49 = .ok (.iastore, 1) := by decide +kernel
theorem dX7_levels_50 : decode cX7_levels 50 = .ok (.iconst 0, 1) := by decide +kernel
theorem dX7_levels_51 : decode cX7_levels 51 = .ok (.istore 5, 2) := by decide +kernel
theorem dX7_levels_53 : decode cX7_levels 53 = .ok (.iload 5, 2) := by decide +kernel
theorem dX7_levels_55 : decode cX7_levels 55 = .ok (.iload_n 3, 1) := by decide +kernel
theorem dX7_levels_56 : decode cX7_levels 56 = .ok (.if_icmp .ge 88, 3) := by decide +kernel
theorem dX7_levels_59 : decode cX7_levels 59 = .ok (.aload_n 0, 1) := by decide +kernel
theorem dX7_levels_60 : decode cX7_levels 60 = .ok (.getfield 23, 3) := by decide +kernel
theorem dX7_levels_63 : decode cX7_levels 63 = .ok (.sipush 300, 3) := by decide +kernel
theorem dX7_levels_66 : decode cX7_levels 66 = .ok (.iload_n 1, 1) := by decide +kernel
theorem dX7_levels_67 : decode cX7_levels 67 = .ok (.imul, 1) := by decide +kernel
theorem dX7_levels_68 : decode cX7_levels 68 = .ok (.iload 5, 2) := by decide +kernel
theorem dX7_levels_70 : decode cX7_levels 70 = .ok (.iadd, 1) := by decide +kernel
theorem dX7_levels_71 : decode cX7_levels 71 = .ok (.iaload, 1) := by decide +kernel
theorem dX7_levels_72 : decode cX7_levels 72 = .ok (.istore 6, 2) := by decide +kernel
theorem dX7_levels_74 : decode cX7_levels 74 = .ok (.iload 6, 2) := by decide +kernel
theorem dX7_levels_76 : decode cX7_levels 76 = .ok (.ifCond .ge 9, 3) := by decide +kernel
theorem dX7_levels_79 : decode cX7_levels 79 = .ok (.iload 6, 2) := by decide +kernel
theorem dX7_levels_81 : decode cX7_levels 81 = .ok (.ineg, 1) := by decide +kernel
theorem dX7_levels_82 : decode cX7_levels 82 = .ok (.goto 5, 3) := by decide +kernel
theorem dX7_levels_85 : decode cX7_levels 85 = .ok (.iload 6, 2) := by decide +kernel
theorem dX7_levels_87 : decode cX7_levels 87 = .ok (.istore 6, 2) := by decide +kernel
theorem dX7_levels_89 : decode cX7_levels 89 = .ok (.iload 6, 2) := by decide +kernel
theorem dX7_levels_91 : decode cX7_levels 91 = .ok (.iload 4, 2) := by decide +kernel
theorem dX7_levels_93 : decode cX7_levels 93 = .ok (.isub, 1) := by decide +kernel
theorem dX7_levels_94 : decode cX7_levels 94 = .ok (.iconst 2, 1) := by decide +kernel
theorem dX7_levels_95 : decode cX7_levels 95 = .ok (.if_icmp .ge 43, 3) := by decide +kernel
theorem dX7_levels_98 : decode cX7_levels 98 = .ok (.iload 4, 2) := by decide +kernel
theorem dX7_levels_100 : decode cX7_levels 100 = .ok (.iload 6, 2) := by decide +kernel
theorem dX7_levels_102 : decode cX7_levels 102 = .ok (.isub, 1) := by decide +kernel
theorem dX7_levels_103 : decode cX7_levels 103 = .ok (.iconst 2, 1) := by decide +kernel
theorem dX7_levels_104 : decode cX7_levels 104 = .ok (.if_icmp .ge 34, 3) := by decide +kernel
theorem dX7_levels_107 : decode cX7_levels 107 = .ok (.aload_n 0, 1) := by decide +kernel
theorem dX7_levels_108 : decode cX7_levels 108 = .ok (.getfield 50, 3) := by decide +kernel
theorem dX7_levels_111 : decode cX7_levels 111 = .ok (.iload 5, 2) := by decide +kernel
theorem dX7_levels_113 : decode cX7_levels 113 = .ok (.iaload, 1) := by decide +kernel
theorem dX7_levels_114 : decode cX7_levels 114 = .ok (.aload_n 0, 1) := by decide +kernel
theorem dX7_levels_115 : decode cX7_levels 115 = .ok (.getfield 50, 3) := by decide +kernel
theorem dX7_levels_118 : decode cX7_levels 118 = .ok (.iload_n 3, 1) := by decide +kernel
theorem dX7_levels_119 : decode cX7_levels 119 = .ok (.iaload, 1) := by decide +kernel
theorem dX7_levels_120 : decode cX7_levels 120 = .ok (.if_icmp .lt 18, 3) := by decide +kernel
theorem dX7_levels_123 : decode cX7_levels 123 = .ok (.aload_n 0, 1) := by decide +kernel
theorem dX7_levels_124 : decode cX7_levels 124 = .ok (.getfield 50, 3) := by decide +kernel
theorem dX7_levels_127 : decode cX7_levels 127 = .ok (.iload_n 3, 1) := by decide +kernel
theorem dX7_levels_128 : decode cX7_levels 128 = .ok (.aload_n 0, 1) := by decide +kernel
theorem dX7_levels_129 : decode cX7_levels 129 = .ok (.getfield 50, 3) := by decide +kernel
theorem dX7_levels_132 : decode cX7_levels 132 = .ok (.iload 5, 2) := by decide +kernel
theorem dX7_levels_134 : decode cX7_levels 134 = .ok (.iaload, 1) := by decide +kernel
theorem dX7_levels_135 : decode cX7_levels 135 = .ok (.iconst 1, 1) := by decide +kernel
theorem dX7_levels_136 : decode cX7_levels 136 = .ok (.iadd, 1) := by decide +kernel
theorem dX7_levels_137 : decode cX7_levels 137 = .ok (.iastore, 1) := by decide +kernel
theorem dX7_levels_138 : decode cX7_levels 138 = .ok (.iinc 5 1, 3) := by decide +kernel
theorem dX7_levels_141 : decode cX7_levels 141 = .ok (.goto (-88), 3) := by decide +kernel
theorem dX7_levels_144 : decode cX7_levels 144 = .ok (.aload_n 0, 1) := by decide +kernel
theorem dX7_levels_145 : decode cX7_levels 145 = .ok (.getfield 50, 3) := by decide +kernel
theorem dX7_levels_148 : decode cX7_levels 148 = .ok (.iload_n 3, 1) := by decide +kernel
theorem dX7_levels_149 : decode cX7_levels 149 = .ok (.iaload, 1) := by decide +kernel
theorem dX7_levels_150 : decode cX7_levels 150 = .ok (.iload_n 2, 1) := by decide +kernel
theorem dX7_levels_151 : decode cX7_levels 151 = .ok (.if_icmp .le 12, 3) := by decide +kernel
theorem dX7_levels_154 : decode cX7_levels 154 = .ok (.aload_n 0, 1) := by decide +kernel
theorem dX7_levels_155 : decode cX7_levels 155 = .ok (.getfield 50, 3) := by decide +kernel
theorem dX7_levels_158 : decode cX7_levels 158 = .ok (.iload_n 3, 1) := by decide +kernel
theorem dX7_levels_159 : decode cX7_levels 159 = .ok (.iaload, 1) := by decide +kernel
theorem dX7_levels_160 : decode cX7_levels 160 = .ok (.goto 4, 3) := by decide +kernel
theorem dX7_levels_163 : decode cX7_levels 163 = .ok (.iload_n 2, 1) := by decide +kernel
theorem dX7_levels_164 : decode cX7_levels 164 = .ok (.istore_n 2, 1) := by decide +kernel
theorem dX7_levels_165 : decode cX7_levels 165 = .ok (.iinc 3 1, 3) := by decide +kernel
theorem dX7_levels_168 : decode cX7_levels 168 = .ok (.goto (-164), 3) := by decide +kernel
theorem dX7_levels_171 : decode cX7_levels 171 = .ok (.iload_n 2, 1) := by decide +kernel
theorem dX7_levels_172 : decode cX7_levels 172 = .ok (.ireturn, 1) := by decide +kernel
theorem dX7_useOf_0 : decode cX7_useOf 0 = .ok (.iload_n 2, 1) := by decide +kernel
theorem dX7_useOf_1 : decode cX7_useOf 1 = .ok (.istore_n 3, 1) := by decide +kernel
theorem dX7_useOf_2 : decode cX7_useOf 2 = .ok (.iconst 0, 1) := by decide +kernel
theorem dX7_useOf_3 : decode cX7_useOf 3 = .ok (.istore 4, 2) := by decide +kernel
theorem dX7_useOf_5 : decode cX7_useOf 5 = .ok (.iconst 0, 1) := by decide +kernel
theorem dX7_useOf_6 : decode cX7_useOf 6 = .ok (.istore 5, 2) := by decide +kernel
theorem dX7_useOf_8 : decode cX7_useOf 8 = .ok (.iload 5, 2) := by decide +kernel
theorem dX7_useOf_10 : decode cX7_useOf 10 = .ok (.aload_n 0, 1) := by decide +kernel
theorem dX7_useOf_11 : decode cX7_useOf 11 = .ok (.getfield 20, 3) := by decide +kernel
theorem dX7_useOf_14 : decode cX7_useOf 14 = .ok (.iload_n 1, 1) := by decide +kernel
theorem dX7_useOf_15 : decode cX7_useOf 15 = .ok (.iaload, 1) := by decide +kernel
theorem dX7_useOf_16 : decode cX7_useOf 16 = .ok (.if_icmp .ge 99, 3) := by decide +kernel
theorem dX7_useOf_19 : decode cX7_useOf 19 = .ok (.aload_n 0, 1) := by decide +kernel
theorem dX7_useOf_20 : decode cX7_useOf 20 = .ok (.getfield 23, 3) := by decide +kernel
theorem dX7_useOf_23 : decode cX7_useOf 23 = .ok (.sipush 300, 3) := by decide +kernel
theorem dX7_useOf_26 : decode cX7_useOf 26 = .ok (.iload_n 1, 1) := by decide +kernel
theorem dX7_useOf_27 : decode cX7_useOf 27 = .ok (.imul, 1) := by decide +kernel
theorem dX7_useOf_28 : decode cX7_useOf 28 = .ok (.iload 5, 2) := by decide +kernel
theorem dX7_useOf_30 : decode cX7_useOf 30 = .ok (.iadd, 1) := by decide +kernel
theorem dX7_useOf_31 : decode cX7_useOf 31 = .ok (.iaload, 1) := by decide +kernel
theorem dX7_useOf_32 : decode cX7_useOf 32 = .ok (.istore 6, 2) := by decide +kernel
theorem dX7_useOf_34 : decode cX7_useOf 34 = .ok (.iload 6, 2) := by decide +kernel
theorem dX7_useOf_36 : decode cX7_useOf 36 = .ok (.ifCond .le 8, 3) := by decide +kernel
theorem dX7_useOf_39 : decode cX7_useOf 39 = .ok (.iload 6, 2) := by decide +kernel
theorem dX7_useOf_41 : decode cX7_useOf 41 = .ok (.goto 6, 3) := by decide +kernel
theorem dX7_useOf_44 : decode cX7_useOf 44 = .ok (.iload 6, 2) := by decide +kernel
theorem dX7_useOf_46 : decode cX7_useOf 46 = .ok (.ineg, 1) := by decide +kernel
theorem dX7_useOf_47 : decode cX7_useOf 47 = .ok (.istore 7, 2) := by decide +kernel
theorem dX7_useOf_49 : decode cX7_useOf 49 = .ok (.iload_n 3, 1) := by decide +kernel
theorem dX7_useOf_50 : decode cX7_useOf 50 = .ok (.iload 7, 2) := by decide +kernel
theorem dX7_useOf_52 : decode cX7_useOf 52 = .ok (.if_icmp .eq 14, 3) := by decide +kernel
theorem dX7_useOf_55 : decode cX7_useOf 55 = .ok (.iload_n 3, 1) := by decide +kernel
theorem dX7_useOf_56 : decode cX7_useOf 56 = .ok (.iload 7, 2) := by decide +kernel
theorem dX7_useOf_58 : decode cX7_useOf 58 = .ok (.iconst 1, 1) := by decide +kernel
theorem dX7_useOf_59 : decode cX7_useOf 59 = .ok (.iadd, 1) := by decide +kernel
theorem dX7_useOf_60 : decode cX7_useOf 60 = .ok (.if_icmp .eq 6, 3) := by decide +kernel
theorem dX7_useOf_63 : decode cX7_useOf 63 = .ok (.goto 46, 3) := by decide +kernel
theorem dX7_useOf_66 : decode cX7_useOf 66 = .ok (.iload_n 3, 1) := by decide +kernel
theorem dX7_useOf_67 : decode cX7_useOf 67 = .ok (.iload 7, 2) := by decide +kernel
theorem dX7_useOf_69 : decode cX7_useOf 69 = .ok (.if_icmp .ne 7, 3) := by decide +kernel
theorem dX7_useOf_72 : decode cX7_useOf 72 = .ok (.iconst 1, 1) := by decide +kernel
theorem dX7_useOf_73 : decode cX7_useOf 73 = .ok (.goto 4, 3) := by decide +kernel
theorem dX7_useOf_76 : decode cX7_useOf 76 = .ok (.iconst 0, 1) := by decide +kernel
theorem dX7_useOf_77 : decode cX7_useOf 77 = .ok (.iload 6, 2) := by decide +kernel
theorem dX7_useOf_79 : decode cX7_useOf 79 = .ok (.ifCond .le 7, 3) := by decide +kernel
theorem dX7_useOf_82 : decode cX7_useOf 82 = .ok (.iconst 1, 1) := by decide +kernel
theorem dX7_useOf_83 : decode cX7_useOf 83 = .ok (.goto 4, 3) := by decide +kernel
theorem dX7_useOf_86 : decode cX7_useOf 86 = .ok (.iconst 0, 1) := by decide +kernel
theorem dX7_useOf_87 : decode cX7_useOf 87 = .ok (.if_icmp .ne 6, 3) := by decide +kernel
theorem dX7_useOf_90 : decode cX7_useOf 90 = .ok (.iinc 4 1, 3) := by decide +kernel
theorem dX7_useOf_93 : decode cX7_useOf 93 = .ok (.iload_n 3, 1) := by decide +kernel
theorem dX7_useOf_94 : decode cX7_useOf 94 = .ok (.iload 7, 2) := by decide +kernel
theorem dX7_useOf_96 : decode cX7_useOf 96 = .ok (.if_icmp .ne 10, 3) := by decide +kernel
theorem dX7_useOf_99 : decode cX7_useOf 99 = .ok (.iload 7, 2) := by decide +kernel
theorem dX7_useOf_101 : decode cX7_useOf 101 = .ok (.iconst 1, 1) := by decide +kernel
theorem dX7_useOf_102 : decode cX7_useOf 102 = .ok (.iadd, 1) := by decide +kernel
theorem dX7_useOf_103 : decode cX7_useOf 103 = .ok (.goto 5, 3) := by decide +kernel
theorem dX7_useOf_106 : decode cX7_useOf 106 = .ok (.iload 7, 2) := by decide +kernel
theorem dX7_useOf_108 : decode cX7_useOf 108 = .ok (.istore_n 3, 1) := by decide +kernel
theorem dX7_useOf_109 : decode cX7_useOf 109 = .ok (.iinc 5 1, 3) := by decide +kernel
theorem dX7_useOf_112 : decode cX7_useOf 112 = .ok (.goto (-104), 3) := by decide +kernel
theorem dX7_useOf_115 : decode cX7_useOf 115 = .ok (.iconst 2, 1) := by decide +kernel
theorem dX7_useOf_116 : decode cX7_useOf 116 = .ok (.aload_n 0, 1) := by decide +kernel
theorem dX7_useOf_117 : decode cX7_useOf 117 = .ok (.iload_n 1, 1) := by decide +kernel
theorem dX7_useOf_118 : decode cX7_useOf 118 = .ok (.invokevirtual 222, 3) := by decide +kernel
theorem dX7_useOf_121 : decode cX7_useOf 121 = .ok (.imul, 1) := by decide +kernel
theorem dX7_useOf_122 : decode cX7_useOf 122 = .ok (.iload 4, 2) := by decide +kernel
theorem dX7_useOf_124 : decode cX7_useOf 124 = .ok (.iadd, 1) := by decide +kernel
theorem dX7_useOf_125 : decode cX7_useOf 125 = .ok (.ireturn, 1) := by decide +kernel
theorem dX7_about_0 : decode cX7_about 0 = .ok (.aload_n 0, 1) := by decide +kernel
theorem dX7_about_1 : decode cX7_about 1 = .ok (.iload_n 1, 1) := by decide +kernel
end
section
theorem dX7_about_2 : decode cX7_about 2 = .ok (.invokevirtual 164, 3) := by decide +kernel
theorem dX7_about_5 : decode cX7_about 5 = .ok (.ifCond .eq 26, 3) := by decide +kernel
theorem dX7_about_8 : decode cX7_about 8 = .ok (.aload_n 0, 1) := by decide +kernel
theorem dX7_about_9 : decode cX7_about 9 = .ok (.iload_n 2, 1) := by decide +kernel
theorem dX7_about_10 : decode cX7_about 10 = .ok (.ifCond .lt 13, 3) := by decide +kernel
theorem dX7_about_13 : decode cX7_about 13 = .ok (.iload_n 2, 1) := by decide +kernel
theorem dX7_about_14 : decode cX7_about 14 = .ok (.bipush 6, 2) := by decide +kernel
theorem dX7_about_16 : decode cX7_about 16 = .ok (.if_icmp .gt 7, 3) := by decide +kernel
theorem dX7_about_19 : decode cX7_about 19 = .ok (.iconst 1, 1) := by decide +kernel
theorem dX7_about_20 : decode cX7_about 20 = .ok (.goto 4, 3) := by decide +kernel
theorem dX7_about_23 : decode cX7_about 23 = .ok (.iconst 0, 1) := by decide +kernel
theorem dX7_about_24 : decode cX7_about 24 = .ok (.iconst 1, 1) := by decide +kernel
theorem dX7_about_25 : decode cX7_about 25 = .ok (.invokevirtual 157, 3) := by decide +kernel
theorem dX7_about_28 : decode cX7_about 28 = .ok (.ifCond .ne 5, 3) := by decide +kernel
theorem dX7_about_31 : decode cX7_about 31 = .ok (.iconst 0, 1) := by decide +kernel
theorem dX7_about_32 : decode cX7_about 32 = .ok (.ireturn, 1) := by decide +kernel
theorem dX7_about_33 : decode cX7_about 33 = .ok (.iload_n 2, 1) := by decide +kernel
theorem dX7_about_34 : decode cX7_about 34 = .ok (.tableswitch 73 0 4 #[34, 41, 47, 53, 67], 34) := by decide +kernel
theorem dX7_about_68 : decode cX7_about 68 = .ok (.aload_n 0, 1) := by decide +kernel
theorem dX7_about_69 : decode cX7_about 69 = .ok (.getfield 17, 3) := by decide +kernel
theorem dX7_about_72 : decode cX7_about 72 = .ok (.iload_n 1, 1) := by decide +kernel
theorem dX7_about_73 : decode cX7_about 73 = .ok (.iaload, 1) := by decide +kernel
theorem dX7_about_74 : decode cX7_about 74 = .ok (.ireturn, 1) := by decide +kernel
theorem dX7_about_75 : decode cX7_about 75 = .ok (.aload_n 0, 1) := by decide +kernel
theorem dX7_about_76 : decode cX7_about 76 = .ok (.iload_n 1, 1) := by decide +kernel
theorem dX7_about_77 : decode cX7_about 77 = .ok (.invokevirtual 214, 3) := by decide +kernel
theorem dX7_about_80 : decode cX7_about 80 = .ok (.ireturn, 1) := by decide +kernel
theorem dX7_about_81 : decode cX7_about 81 = .ok (.aload_n 0, 1) := by decide +kernel
theorem dX7_about_82 : decode cX7_about 82 = .ok (.iload_n 1, 1) := by decide +kernel
theorem dX7_about_83 : decode cX7_about 83 = .ok (.invokevirtual 225, 3) := by decide +kernel
theorem dX7_about_86 : decode cX7_about 86 = .ok (.ireturn, 1) := by decide +kernel
theorem dX7_about_87 : decode cX7_about 87 = .ok (.aload_n 0, 1) := by decide +kernel
theorem dX7_about_88 : decode cX7_about 88 = .ok (.iload_n 1, 1) := by decide +kernel
theorem dX7_about_89 : decode cX7_about 89 = .ok (.invokevirtual 228, 3) := by decide +kernel
theorem dX7_about_92 : decode cX7_about 92 = .ok (.ifCond .eq 7, 3) := by decide +kernel
theorem dX7_about_95 : decode cX7_about 95 = .ok (.iconst 1, 1) := by decide +kernel
theorem dX7_about_96 : decode cX7_about 96 = .ok (.goto 4, 3) := by decide +kernel
theorem dX7_about_99 : decode cX7_about 99 = .ok (.iconst 0, 1) := by decide +kernel
theorem dX7_about_100 : decode cX7_about 100 = .ok (.ireturn, 1) := by decide +kernel
theorem dX7_about_101 : decode cX7_about 101 = .ok (.aload_n 0, 1) := by decide +kernel
theorem dX7_about_102 : decode cX7_about 102 = .ok (.iload_n 1, 1) := by decide +kernel
theorem dX7_about_103 : decode cX7_about 103 = .ok (.invokevirtual 222, 3) := by decide +kernel
theorem dX7_about_106 : decode cX7_about 106 = .ok (.ireturn, 1) := by decide +kernel
theorem dX7_about_107 : decode cX7_about 107 = .ok (.aload_n 0, 1) := by decide +kernel
theorem dX7_about_108 : decode cX7_about 108 = .ok (.iload_n 1, 1) := by decide +kernel
theorem dX7_about_109 : decode cX7_about 109 = .ok (.iconst 1, 1) := by decide +kernel
theorem dX7_about_110 : decode cX7_about 110 = .ok (.invokevirtual 199, 3) := by decide +kernel
theorem dX7_about_113 : decode cX7_about 113 = .ok (.iload_n 2, 1) := by decide +kernel
theorem dX7_about_114 : decode cX7_about 114 = .ok (.iconst 5, 1) := by decide +kernel
theorem dX7_about_115 : decode cX7_about 115 = .ok (.if_icmp .ne 10, 3) := by decide +kernel
theorem dX7_about_118 : decode cX7_about 118 = .ok (.aload_n 0, 1) := by decide +kernel
theorem dX7_about_119 : decode cX7_about 119 = .ok (.getfield 184, 3) := by decide +kernel
theorem dX7_about_122 : decode cX7_about 122 = .ok (.goto 7, 3) := by decide +kernel
theorem dX7_about_125 : decode cX7_about 125 = .ok (.aload_n 0, 1) := by decide +kernel
theorem dX7_about_126 : decode cX7_about 126 = .ok (.getfield 178, 3) := by decide +kernel
theorem dX7_about_129 : decode cX7_about 129 = .ok (.ireturn, 1) := by decide +kernel
theorem dX7_isPlace_0 : decode cX7_isPlace 0 = .ok (.aload_n 0, 1) := by decide +kernel
theorem dX7_isPlace_1 : decode cX7_isPlace 1 = .ok (.iload_n 2, 1) := by decide +kernel
theorem dX7_isPlace_2 : decode cX7_isPlace 2 = .ok (.iconst 1, 1) := by decide +kernel
theorem dX7_isPlace_3 : decode cX7_isPlace 3 = .ok (.if_icmp .lt 17, 3) := by decide +kernel
theorem dX7_isPlace_6 : decode cX7_isPlace 6 = .ok (.iload_n 2, 1) := by decide +kernel
theorem dX7_isPlace_7 : decode cX7_isPlace 7 = .ok (.aload_n 0, 1) := by decide +kernel
theorem dX7_isPlace_8 : decode cX7_isPlace 8 = .ok (.getfield 17, 3) := by decide +kernel
theorem dX7_isPlace_11 : decode cX7_isPlace 11 = .ok (.iload_n 1, 1) := by decide +kernel
theorem dX7_isPlace_12 : decode cX7_isPlace 12 = .ok (.iaload, 1) := by decide +kernel
theorem dX7_isPlace_13 : decode cX7_isPlace 13 = .ok (.if_icmp .gt 7, 3) := by decide +kernel
theorem dX7_isPlace_16 : decode cX7_isPlace 16 = .ok (.iconst 1, 1) := by decide +kernel
theorem dX7_isPlace_17 : decode cX7_isPlace 17 = .ok (.goto 4, 3) := by decide +kernel
theorem dX7_isPlace_20 : decode cX7_isPlace 20 = .ok (.iconst 0, 1) := by decide +kernel
theorem dX7_isPlace_21 : decode cX7_isPlace 21 = .ok (.iconst 1, 1) := by decide +kernel
theorem dX7_isPlace_22 : decode cX7_isPlace 22 = .ok (.invokevirtual 157, 3) := by decide +kernel
theorem dX7_isPlace_25 : decode cX7_isPlace 25 = .ok (.ireturn, 1) := by decide +kernel
theorem dX7_goes_0 : decode cX7_goes 0 = .ok (.aload_n 0, 1) := by decide +kernel
theorem dX7_goes_1 : decode cX7_goes 1 = .ok (.iload_n 1, 1) := by decide +kernel
theorem dX7_goes_2 : decode cX7_goes 2 = .ok (.invokevirtual 164, 3) := by decide +kernel
theorem dX7_goes_5 : decode cX7_goes 5 = .ok (.ifCond .eq 21, 3) := by decide +kernel
theorem dX7_goes_8 : decode cX7_goes 8 = .ok (.aload_n 0, 1) := by decide +kernel
theorem dX7_goes_9 : decode cX7_goes 9 = .ok (.iload_n 1, 1) := by decide +kernel
theorem dX7_goes_10 : decode cX7_goes 10 = .ok (.iload_n 2, 1) := by decide +kernel
theorem dX7_goes_11 : decode cX7_goes 11 = .ok (.invokevirtual 231, 3) := by decide +kernel
theorem dX7_goes_14 : decode cX7_goes 14 = .ok (.ifCond .eq 12, 3) := by decide +kernel
theorem dX7_goes_17 : decode cX7_goes 17 = .ok (.aload_n 0, 1) := by decide +kernel
theorem dX7_goes_18 : decode cX7_goes 18 = .ok (.iload_n 1, 1) := by decide +kernel
theorem dX7_goes_19 : decode cX7_goes 19 = .ok (.iload_n 2, 1) := by decide +kernel
theorem dX7_goes_20 : decode cX7_goes 20 = .ok (.invokevirtual 211, 3) := by decide +kernel
theorem dX7_goes_23 : decode cX7_goes 23 = .ok (.goto 4, 3) := by decide +kernel
theorem dX7_goes_26 : decode cX7_goes 26 = .ok (.iconst 0, 1) := by decide +kernel
theorem dX7_goes_27 : decode cX7_goes 27 = .ok (.ireturn, 1) := by decide +kernel
theorem dX7_twine_0 : decode cX7_twine 0 = .ok (.aload_n 0, 1) := by decide +kernel
theorem dX7_twine_1 : decode cX7_twine 1 = .ok (.iload_n 1, 1) := by decide +kernel
theorem dX7_twine_2 : decode cX7_twine 2 = .ok (.invokevirtual 164, 3) := by decide +kernel
theorem dX7_twine_5 : decode cX7_twine 5 = .ok (.ifCond .eq 39, 3) := by decide +kernel
theorem dX7_twine_8 : decode cX7_twine 8 = .ok (.aload_n 0, 1) := by decide +kernel
theorem dX7_twine_9 : decode cX7_twine 9 = .ok (.iload_n 1, 1) := by decide +kernel
theorem dX7_twine_10 : decode cX7_twine 10 = .ok (.iload_n 2, 1) := by decide +kernel
theorem dX7_twine_11 : decode cX7_twine 11 = .ok (.invokevirtual 231, 3) := by decide +kernel
theorem dX7_twine_14 : decode cX7_twine 14 = .ok (.ifCond .eq 30, 3) := by decide +kernel
theorem dX7_twine_17 : decode cX7_twine 17 = .ok (.aload_n 0, 1) := by decide +kernel
theorem dX7_twine_18 : decode cX7_twine 18 = .ok (.iload_n 1, 1) := by decide +kernel
theorem dX7_twine_19 : decode cX7_twine 19 = .ok (.iload_n 3, 1) := by decide +kernel
theorem dX7_twine_20 : decode cX7_twine 20 = .ok (.invokevirtual 231, 3) := by decide +kernel
theorem dX7_twine_23 : decode cX7_twine 23 = .ok (.ifCond .eq 21, 3) := by decide +kernel
theorem dX7_twine_26 : decode cX7_twine 26 = .ok (.aload_n 0, 1) := by decide +kernel
theorem dX7_twine_27 : decode cX7_twine 27 = .ok (.iload_n 2, 1) := by decide +kernel
theorem dX7_twine_28 : decode cX7_twine 28 = .ok (.iload_n 3, 1) := by decide +kernel
theorem dX7_twine_29 : decode cX7_twine 29 = .ok (.if_icmp .eq 7, 3) := by decide +kernel
theorem dX7_twine_32 : decode cX7_twine 32 = .ok (.iconst 1, 1) := by decide +kernel
theorem dX7_twine_33 : decode cX7_twine 33 = .ok (.goto 4, 3) := by decide +kernel
theorem dX7_twine_36 : decode cX7_twine 36 = .ok (.iconst 0, 1) := by decide +kernel
theorem dX7_twine_37 : decode cX7_twine 37 = .ok (.iconst 1, 1) := by decide +kernel
theorem dX7_twine_38 : decode cX7_twine 38 = .ok (.invokevirtual 157, 3) := by decide +kernel
theorem dX7_twine_41 : decode cX7_twine 41 = .ok (.ifCond .ne 5, 3) := by decide +kernel
theorem dX7_twine_44 : decode cX7_twine 44 = .ok (.iconst 0, 1) := by decide +kernel
theorem dX7_twine_45 : decode cX7_twine 45 = .ok (.ireturn, 1) := by decide +kernel
theorem dX7_twine_46 : decode cX7_twine 46 = .ok (.aload_n 0, 1) := by decide +kernel
theorem dX7_twine_47 : decode cX7_twine 47 = .ok (.iload_n 1, 1) := by decide +kernel
theorem dX7_twine_48 : decode cX7_twine 48 = .ok (.invokevirtual 214, 3) := by decide +kernel
theorem dX7_twine_51 : decode cX7_twine 51 = .ok (.istore 4, 2) := by decide +kernel
theorem dX7_twine_53 : decode cX7_twine 53 = .ok (.iload_n 2, 1) := by decide +kernel
theorem dX7_twine_54 : decode cX7_twine 54 = .ok (.istore 5, 2) := by decide +kernel
theorem dX7_twine_56 : decode cX7_twine 56 = .ok (.iload_n 3, 1) := by decide +kernel
theorem dX7_twine_57 : decode cX7_twine 57 = .ok (.istore 6, 2) := by decide +kernel
theorem dX7_twine_59 : decode cX7_twine 59 = .ok (.iconst 0, 1) := by decide +kernel
theorem dX7_twine_60 : decode cX7_twine 60 = .ok (.istore 7, 2) := by decide +kernel
theorem dX7_twine_62 : decode cX7_twine 62 = .ok (.iconst 0, 1) := by decide +kernel
theorem dX7_twine_63 : decode cX7_twine 63 = .ok (.istore 8, 2) := by decide +kernel
theorem dX7_twine_65 : decode cX7_twine 65 = .ok (.iload 8, 2) := by decide +kernel
theorem dX7_twine_67 : decode cX7_twine 67 = .ok (.iload 4, 2) := by decide +kernel
theorem dX7_twine_69 : decode cX7_twine 69 = .ok (.if_icmp .ge 176, 3) := by decide +kernel
theorem dX7_twine_72 : decode cX7_twine 72 = .ok (.iconst 0, 1) := by decide +kernel
theorem dX7_twine_73 : decode cX7_twine 73 = .ok (.istore 9, 2) := by decide +kernel
theorem dX7_twine_75 : decode cX7_twine 75 = .ok (.iload 9, 2) := by decide +kernel
theorem dX7_twine_77 : decode cX7_twine 77 = .ok (.aload_n 0, 1) := by decide +kernel
theorem dX7_twine_78 : decode cX7_twine 78 = .ok (.getfield 20, 3) := by decide +kernel
theorem dX7_twine_81 : decode cX7_twine 81 = .ok (.iload_n 1, 1) := by decide +kernel
theorem dX7_twine_82 : decode cX7_twine 82 = .ok (.iaload, 1) := by decide +kernel
theorem dX7_twine_83 : decode cX7_twine 83 = .ok (.if_icmp .ge 156, 3) := by decide +kernel
theorem dX7_twine_86 : decode cX7_twine 86 = .ok (.aload_n 0, 1) := by decide +kernel
theorem dX7_twine_87 : decode cX7_twine 87 = .ok (.getfield 23, 3) := by decide +kernel
theorem dX7_twine_90 : decode cX7_twine 90 = .ok (.sipush 300, 3) := by decide +kernel
theorem dX7_twine_93 : decode cX7_twine 93 = .ok (.iload_n 1, 1) := by decide +kernel
theorem dX7_twine_94 : decode cX7_twine 94 = .ok (.imul, 1) := by decide +kernel
theorem dX7_twine_95 : decode cX7_twine 95 = .ok (.iload 9, 2) := by decide +kernel
theorem dX7_twine_97 : decode cX7_twine 97 = .ok (.iadd, 1) := by decide +kernel
theorem dX7_twine_98 : decode cX7_twine 98 = .ok (.iaload, 1) := by decide +kernel
theorem dX7_twine_99 : decode cX7_twine 99 = .ok (.istore 10, 2) := by decide +kernel
theorem dX7_twine_101 : decode cX7_twine 101 = .ok (.iload 10, 2) := by decide +kernel
theorem dX7_twine_103 : decode cX7_twine 103 = .ok (.ifCond .le 8, 3) := by decide +kernel
theorem dX7_twine_106 : decode cX7_twine 106 = .ok (.iload 10, 2) := by decide +kernel
theorem dX7_twine_108 : decode cX7_twine 108 = .ok (.goto 6, 3) := by decide +kernel
theorem dX7_twine_111 : decode cX7_twine 111 = .ok (.iload 10, 2) := by decide +kernel
theorem dX7_twine_113 : decode cX7_twine 113 = .ok (.ineg, 1) := by decide +kernel
theorem dX7_twine_114 : decode cX7_twine 114 = .ok (.istore 11, 2) := by decide +kernel
theorem dX7_twine_116 : decode cX7_twine 116 = .ok (.iload 5, 2) := by decide +kernel
theorem dX7_twine_118 : decode cX7_twine 118 = .ok (.iload 11, 2) := by decide +kernel
theorem dX7_twine_120 : decode cX7_twine 120 = .ok (.if_icmp .eq 12, 3) := by decide +kernel
theorem dX7_twine_123 : decode cX7_twine 123 = .ok (.iload 5, 2) := by decide +kernel
theorem dX7_twine_125 : decode cX7_twine 125 = .ok (.iload 11, 2) := by decide +kernel
theorem dX7_twine_127 : decode cX7_twine 127 = .ok (.iconst 1, 1) := by decide +kernel
theorem dX7_twine_128 : decode cX7_twine 128 = .ok (.iadd, 1) := by decide +kernel
theorem dX7_twine_129 : decode cX7_twine 129 = .ok (.if_icmp .ne 7, 3) := by decide +kernel
theorem dX7_twine_132 : decode cX7_twine 132 = .ok (.iconst 1, 1) := by decide +kernel
theorem dX7_twine_133 : decode cX7_twine 133 = .ok (.goto 4, 3) := by decide +kernel
theorem dX7_twine_136 : decode cX7_twine 136 = .ok (.iconst 0, 1) := by decide +kernel
theorem dX7_twine_137 : decode cX7_twine 137 = .ok (.istore 12, 2) := by decide +kernel
theorem dX7_twine_139 : decode cX7_twine 139 = .ok (.iload 6, 2) := by decide +kernel
theorem dX7_twine_141 : decode cX7_twine 141 = .ok (.iload 11, 2) := by decide +kernel
theorem dX7_twine_143 : decode cX7_twine 143 = .ok (.if_icmp .eq 12, 3) := by decide +kernel
theorem dX7_twine_146 : decode cX7_twine 146 = .ok (.iload 6, 2) := by decide +kernel
theorem dX7_twine_148 : decode cX7_twine 148 = .ok (.iload 11, 2) := by decide +kernel
theorem dX7_twine_150 : decode cX7_twine 150 = .ok (.iconst 1, 1) := by decide +kernel
theorem dX7_twine_151 : decode cX7_twine 151 = .ok (.iadd, 1) := by decide +kernel
theorem dX7_twine_152 : decode cX7_twine 152 = .ok (.if_icmp .ne 7, 3) := by decide +kernel
theorem dX7_twine_155 : decode cX7_twine 155 = .ok (.iconst 1, 1) := by decide +kernel
theorem dX7_twine_156 : decode cX7_twine 156 = .ok (.goto 4, 3) := by decide +kernel
theorem dX7_twine_159 : decode cX7_twine 159 = .ok (.iconst 0, 1) := by decide +kernel
theorem dX7_twine_160 : decode cX7_twine 160 = .ok (.istore 13, 2) := by decide +kernel
theorem dX7_twine_162 : decode cX7_twine 162 = .ok (.iload 12, 2) := by decide +kernel
theorem dX7_twine_164 : decode cX7_twine 164 = .ok (.ifCond .eq 23, 3) := by decide +kernel
theorem dX7_twine_167 : decode cX7_twine 167 = .ok (.iload 13, 2) := by decide +kernel
theorem dX7_twine_169 : decode cX7_twine 169 = .ok (.ifCond .eq 18, 3) := by decide +kernel
theorem dX7_twine_172 : decode cX7_twine 172 = .ok (.iload 7, 2) := by decide +kernel
theorem dX7_twine_174 : decode cX7_twine 174 = .ok (.iload 10, 2) := by decide +kernel
theorem dX7_twine_176 : decode cX7_twine 176 = .ok (.ifCond .le 7, 3) := by decide +kernel
theorem dX7_twine_179 : decode cX7_twine 179 = .ok (.iconst 1, 1) := by decide +kernel
theorem dX7_twine_180 : decode cX7_twine 180 = .ok (.goto 4, 3) := by decide +kernel
theorem dX7_twine_183 : decode cX7_twine 183 = .ok (.iconst (-1), 1) := by decide +kernel
theorem dX7_twine_184 : decode cX7_twine 184 = .ok (.iadd, 1) := by decide +kernel
theorem dX7_twine_185 : decode cX7_twine 185 = .ok (.istore 7, 2) := by decide +kernel
theorem dX7_twine_187 : decode cX7_twine 187 = .ok (.iload 12, 2) := by decide +kernel
theorem dX7_twine_189 : decode cX7_twine 189 = .ok (.ifCond .eq 21, 3) := by decide +kernel
theorem dX7_twine_192 : decode cX7_twine 192 = .ok (.iload 5, 2) := by decide +kernel
theorem dX7_twine_194 : decode cX7_twine 194 = .ok (.iload 11, 2) := by decide +kernel
theorem dX7_twine_196 : decode cX7_twine 196 = .ok (.if_icmp .ne 10, 3) := by decide +kernel
theorem dX7_twine_199 : decode cX7_twine 199 = .ok (.iload 11, 2) := by decide +kernel
theorem dX7_twine_201 : decode cX7_twine 201 = .ok (.iconst 1, 1) := by decide +kernel
theorem dX7_twine_202 : decode cX7_twine 202 = .ok (.iadd, 1) := by decide +kernel
theorem dX7_twine_203 : decode cX7_twine 203 = .ok (.goto 5, 3) := by decide +kernel
theorem dX7_twine_206 : decode cX7_twine 206 = .ok (.iload 11, 2) := by decide +kernel
theorem dX7_twine_208 : decode cX7_twine 208 = .ok (.istore 5, 2) := by decide +kernel
theorem dX7_twine_210 : decode cX7_twine 210 = .ok (.iload 13, 2) := by decide +kernel
theorem dX7_twine_212 : decode cX7_twine 212 = .ok (.ifCond .eq 21, 3) := by decide +kernel
theorem dX7_twine_215 : decode cX7_twine 215 = .ok (.iload 6, 2) := by decide +kernel
theorem dX7_twine_217 : decode cX7_twine 217 = .ok (.iload 11, 2) := by decide +kernel
theorem dX7_twine_219 : decode cX7_twine 219 = .ok (.if_icmp .ne 10, 3) := by decide +kernel
theorem dX7_twine_222 : decode cX7_twine 222 = .ok (.iload 11, 2) := by decide +kernel
theorem dX7_twine_224 : decode cX7_twine 224 = .ok (.iconst 1, 1) := by decide +kernel
theorem dX7_twine_225 : decode cX7_twine 225 = .ok (.iadd, 1) := by decide +kernel
theorem dX7_twine_226 : decode cX7_twine 226 = .ok (.goto 5, 3) := by decide +kernel
theorem dX7_twine_229 : decode cX7_twine 229 = .ok (.iload 11, 2) := by decide +kernel
theorem dX7_twine_231 : decode cX7_twine 231 = .ok (.istore 6, 2) := by decide +kernel
theorem dX7_twine_233 : decode cX7_twine 233 = .ok (.iinc 9 1, 3) := by decide +kernel
theorem dX7_twine_236 : decode cX7_twine 236 = .ok (.goto (-161), 3) := by decide +kernel
theorem dX7_twine_239 : decode cX7_twine 239 = .ok (.iinc 8 1, 3) := by decide +kernel
theorem dX7_twine_242 : decode cX7_twine 242 = .ok (.goto (-177), 3) := by decide +kernel
theorem dX7_twine_245 : decode cX7_twine 245 = .ok (.iload 7, 2) := by decide +kernel
theorem dX7_twine_247 : decode cX7_twine 247 = .ok (.ireturn, 1) := by decide +kernel
theorem dX7_use_0 : decode cX7_use 0 = .ok (.aload_n 0, 1) := by decide +kernel
theorem dX7_use_1 : decode cX7_use 1 = .ok (.iload_n 1, 1) := by decide +kernel
theorem dX7_use_2 : decode cX7_use 2 = .ok (.invokevirtual 164, 3) := by decide +kernel
theorem dX7_use_5 : decode cX7_use 5 = .ok (.ifCond .eq 21, 3) := by decide +kernel
theorem dX7_use_8 : decode cX7_use 8 = .ok (.aload_n 0, 1) := by decide +kernel
theorem dX7_use_9 : decode cX7_use 9 = .ok (.iload_n 1, 1) := by decide +kernel
theorem dX7_use_10 : decode cX7_use 10 = .ok (.iload_n 2, 1) := by decide +kernel
theorem dX7_use_11 : decode cX7_use 11 = .ok (.invokevirtual 231, 3) := by decide +kernel
theorem dX7_use_14 : decode cX7_use 14 = .ok (.ifCond .eq 12, 3) := by decide +kernel
theorem dX7_use_17 : decode cX7_use 17 = .ok (.aload_n 0, 1) := by decide +kernel
theorem dX7_use_18 : decode cX7_use 18 = .ok (.iload_n 1, 1) := by decide +kernel
theorem dX7_use_19 : decode cX7_use 19 = .ok (.iload_n 2, 1) := by decide +kernel
theorem dX7_use_20 : decode cX7_use 20 = .ok (.invokevirtual 234, 3) := by decide +kernel
theorem dX7_use_23 : decode cX7_use 23 = .ok (.goto 4, 3) := by decide +kernel
theorem dX7_use_26 : decode cX7_use 26 = .ok (.iconst 0, 1) := by decide +kernel
theorem dX7_use_27 : decode cX7_use 27 = .ok (.ireturn, 1) := by decide +kernel
theorem dX7_bundle_0 : decode cX7_bundle 0 = .ok (.aload_n 0, 1) := by decide +kernel
theorem dX7_bundle_1 : decode cX7_bundle 1 = .ok (.iconst 0, 1) := by decide +kernel
theorem dX7_bundle_2 : decode cX7_bundle 2 = .ok (.putfield 95, 3) := by decide +kernel
theorem dX7_bundle_5 : decode cX7_bundle 5 = .ok (.aload_n 0, 1) := by decide +kernel
theorem dX7_bundle_6 : decode cX7_bundle 6 = .ok (.getfield 237, 3) := by decide +kernel
theorem dX7_bundle_9 : decode cX7_bundle 9 = .ok (.bipush 40, 2) := by decide +kernel
theorem dX7_bundle_11 : decode cX7_bundle 11 = .ok (.if_icmp .eq 36, 3) := by decide +kernel
theorem dX7_bundle_14 : decode cX7_bundle 14 = .ok (.iload_n 1, 1) := by decide +kernel
theorem dX7_bundle_15 : decode cX7_bundle 15 = .ok (.ifCond .lt 32, 3) := by decide +kernel
theorem dX7_bundle_18 : decode cX7_bundle 18 = .ok (.iload_n 1, 1) := by decide +kernel
theorem dX7_bundle_19 : decode cX7_bundle 19 = .ok (.bipush 31, 2) := by decide +kernel
theorem dX7_bundle_21 : decode cX7_bundle 21 = .ok (.if_icmp .gt 26, 3) := by decide +kernel
theorem dX7_bundle_24 : decode cX7_bundle 24 = .ok (.iload_n 2, 1) := by decide +kernel
theorem dX7_bundle_25 : decode cX7_bundle 25 = .ok (.iconst 1, 1) := by decide +kernel
theorem dX7_bundle_26 : decode cX7_bundle 26 = .ok (.if_icmp .lt 21, 3) := by decide +kernel
theorem dX7_bundle_29 : decode cX7_bundle 29 = .ok (.iload_n 2, 1) := by decide +kernel
theorem dX7_bundle_30 : decode cX7_bundle 30 = .ok (.bipush 9, 2) := by decide +kernel
theorem dX7_bundle_32 : decode cX7_bundle 32 = .ok (.if_icmp .gt 15, 3) := by decide +kernel
theorem dX7_bundle_35 : decode cX7_bundle 35 = .ok (.iload_n 3, 1) := by decide +kernel
theorem dX7_bundle_36 : decode cX7_bundle 36 = .ok (.iconst 1, 1) := by decide +kernel
theorem dX7_bundle_37 : decode cX7_bundle 37 = .ok (.if_icmp .lt 10, 3) := by decide +kernel
theorem dX7_bundle_40 : decode cX7_bundle 40 = .ok (.iload_n 3, 1) := by decide +kernel
theorem dX7_bundle_41 : decode cX7_bundle 41 = .ok (.sipush 5000, 3) := by decide +kernel
theorem dX7_bundle_44 : decode cX7_bundle 44 = .ok (.if_icmp .le 5, 3) := by decide +kernel
theorem dX7_bundle_47 : decode cX7_bundle 47 = .ok (.iconst (-1), 1) := by decide +kernel
theorem dX7_bundle_48 : decode cX7_bundle 48 = .ok (.ireturn, 1) := by decide +kernel
theorem dX7_bundle_49 : decode cX7_bundle 49 = .ok (.aload_n 0, 1) := by decide +kernel
theorem dX7_bundle_50 : decode cX7_bundle 50 = .ok (.getfield 53, 3) := by decide +kernel
theorem dX7_bundle_53 : decode cX7_bundle 53 = .ok (.aload_n 0, 1) := by decide +kernel
theorem dX7_bundle_54 : decode cX7_bundle 54 = .ok (.getfield 237, 3) := by decide +kernel
theorem dX7_bundle_57 : decode cX7_bundle 57 = .ok (.iload_n 1, 1) := by decide +kernel
theorem dX7_bundle_58 : decode cX7_bundle 58 = .ok (.iastore, 1) := by decide +kernel
theorem dX7_bundle_59 : decode cX7_bundle 59 = .ok (.aload_n 0, 1) := by decide +kernel
theorem dX7_bundle_60 : decode cX7_bundle 60 = .ok (.getfield 56, 3) := by decide +kernel
theorem dX7_bundle_63 : decode cX7_bundle 63 = .ok (.aload_n 0, 1) := by decide +kernel
theorem dX7_bundle_64 : decode cX7_bundle 64 = .ok (.getfield 237, 3) := by decide +kernel
theorem dX7_bundle_67 : decode cX7_bundle 67 = .ok (.iload_n 2, 1) := by decide +kernel
theorem dX7_bundle_68 : decode cX7_bundle 68 = .ok (.iastore, 1) := by decide +kernel
theorem dX7_bundle_69 : decode cX7_bundle 69 = .ok (.aload_n 0, 1) := by decide +kernel
theorem dX7_bundle_70 : decode cX7_bundle 70 = .ok (.getfield 59, 3) := by decide +kernel
theorem dX7_bundle_73 : decode cX7_bundle 73 = .ok (.aload_n 0, 1) := by decide +kernel
theorem dX7_bundle_74 : decode cX7_bundle 74 = .ok (.getfield 237, 3) := by decide +kernel
theorem dX7_bundle_77 : decode cX7_bundle 77 = .ok (.iload_n 3, 1) := by decide +kernel
theorem dX7_bundle_78 : decode cX7_bundle 78 = .ok (.iastore, 1) := by decide +kernel
theorem dX7_bundle_79 : decode cX7_bundle 79 = .ok (.aload_n 0, 1) := by decide +kernel
theorem dX7_bundle_80 : decode cX7_bundle 80 = .ok (.dup, 1) := by decide +kernel
theorem dX7_bundle_81 : decode cX7_bundle 81 = .ok (.getfield 237, 3) := by decide +kernel
theorem dX7_bundle_84 : decode cX7_bundle 84 = .ok (.iconst 1, 1) := by decide +kernel
theorem dX7_bundle_85 : decode cX7_bundle 85 = .ok (.iadd, 1) := by decide +kernel
theorem dX7_bundle_86 : decode cX7_bundle 86 = .ok (.putfield 237, 3) := by decide +kernel
theorem dX7_bundle_89 : decode cX7_bundle 89 = .ok (.aload_n 0, 1) := by decide +kernel
theorem dX7_bundle_90 : decode cX7_bundle 90 = .ok (.getfield 237, 3) := by decide +kernel
theorem dX7_bundle_93 : decode cX7_bundle 93 = .ok (.iconst 1, 1) := by decide +kernel
theorem dX7_bundle_94 : decode cX7_bundle 94 = .ok (.isub, 1) := by decide +kernel
theorem dX7_bundle_95 : decode cX7_bundle 95 = .ok (.ireturn, 1) := by decide +kernel
theorem dX7_left_0 : decode cX7_left 0 = .ok (.aload_n 0, 1) := by decide +kernel
theorem dX7_left_1 : decode cX7_left 1 = .ok (.iconst 0, 1) := by decide +kernel
theorem dX7_left_2 : decode cX7_left 2 = .ok (.putfield 95, 3) := by decide +kernel
theorem dX7_left_5 : decode cX7_left 5 = .ok (.aload_n 0, 1) := by decide +kernel
theorem dX7_left_6 : decode cX7_left 6 = .ok (.iload_n 1, 1) := by decide +kernel
theorem dX7_left_7 : decode cX7_left 7 = .ok (.ifCond .lt 15, 3) := by decide +kernel
theorem dX7_left_10 : decode cX7_left 10 = .ok (.iload_n 1, 1) := by decide +kernel
theorem dX7_left_11 : decode cX7_left 11 = .ok (.aload_n 0, 1) := by decide +kernel
theorem dX7_left_12 : decode cX7_left 12 = .ok (.getfield 237, 3) := by decide +kernel
theorem dX7_left_15 : decode cX7_left 15 = .ok (.if_icmp .ge 7, 3) := by decide +kernel
theorem dX7_left_18 : decode cX7_left 18 = .ok (.iconst 1, 1) := by decide +kernel
theorem dX7_left_19 : decode cX7_left 19 = .ok (.goto 4, 3) := by decide +kernel
theorem dX7_left_22 : decode cX7_left 22 = .ok (.iconst 0, 1) := by decide +kernel
theorem dX7_left_23 : decode cX7_left 23 = .ok (.iconst 1, 1) := by decide +kernel
theorem dX7_left_24 : decode cX7_left 24 = .ok (.invokevirtual 157, 3) := by decide +kernel
theorem dX7_left_27 : decode cX7_left 27 = .ok (.ifCond .eq 12, 3) := by decide +kernel
theorem dX7_left_30 : decode cX7_left 30 = .ok (.aload_n 0, 1) := by decide +kernel
theorem dX7_left_31 : decode cX7_left 31 = .ok (.getfield 59, 3) := by decide +kernel
theorem dX7_left_34 : decode cX7_left 34 = .ok (.iload_n 1, 1) := by decide +kernel
theorem dX7_left_35 : decode cX7_left 35 = .ok (.iaload, 1) := by decide +kernel
theorem dX7_left_36 : decode cX7_left 36 = .ok (.goto 4, 3) := by decide +kernel
theorem dX7_left_39 : decode cX7_left 39 = .ok (.iconst 0, 1) := by decide +kernel
theorem dX7_left_40 : decode cX7_left 40 = .ok (.ireturn, 1) := by decide +kernel
theorem dX7_score_0 : decode cX7_score 0 = .ok (.aload_n 0, 1) := by decide +kernel
theorem dX7_score_1 : decode cX7_score 1 = .ok (.iconst 0, 1) := by decide +kernel
theorem dX7_score_2 : decode cX7_score 2 = .ok (.putfield 95, 3) := by decide +kernel
theorem dX7_score_5 : decode cX7_score 5 = .ok (.aload_n 0, 1) := by decide +kernel
theorem dX7_score_6 : decode cX7_score 6 = .ok (.getfield 240, 3) := by decide +kernel
theorem dX7_score_9 : decode cX7_score 9 = .ok (.bipush 60, 2) := by decide +kernel
theorem dX7_score_11 : decode cX7_score 11 = .ok (.if_icmp .eq 53, 3) := by decide +kernel
theorem dX7_score_14 : decode cX7_score 14 = .ok (.iload_n 1, 1) := by decide +kernel
theorem dX7_score_15 : decode cX7_score 15 = .ok (.ifCond .lt 49, 3) := by decide +kernel
theorem dX7_score_18 : decode cX7_score 18 = .ok (.iload_n 1, 1) := by decide +kernel
theorem dX7_score_19 : decode cX7_score 19 = .ok (.bipush 7, 2) := by decide +kernel
theorem dX7_score_21 : decode cX7_score 21 = .ok (.if_icmp .gt 43, 3) := by decide +kernel
theorem dX7_score_24 : decode cX7_score 24 = .ok (.aload_n 0, 1) := by decide +kernel
theorem dX7_score_25 : decode cX7_score 25 = .ok (.getfield 17, 3) := by decide +kernel
theorem dX7_score_28 : decode cX7_score 28 = .ok (.iload_n 1, 1) := by decide +kernel
theorem dX7_score_29 : decode cX7_score 29 = .ok (.iaload, 1) := by decide +kernel
theorem dX7_score_30 : decode cX7_score 30 = .ok (.ifCond .eq 34, 3) := by decide +kernel
theorem dX7_score_33 : decode cX7_score 33 = .ok (.iload_n 2, 1) := by decide +kernel
theorem dX7_score_34 : decode cX7_score 34 = .ok (.iconst 1, 1) := by decide +kernel
theorem dX7_score_35 : decode cX7_score 35 = .ok (.if_icmp .lt 29, 3) := by decide +kernel
theorem dX7_score_38 : decode cX7_score 38 = .ok (.iload_n 2, 1) := by decide +kernel
theorem dX7_score_39 : decode cX7_score 39 = .ok (.sipush 200, 3) := by decide +kernel
theorem dX7_score_42 : decode cX7_score 42 = .ok (.if_icmp .gt 22, 3) := by decide +kernel
theorem dX7_score_45 : decode cX7_score 45 = .ok (.iload_n 3, 1) := by decide +kernel
theorem dX7_score_46 : decode cX7_score 46 = .ok (.iconst 1, 1) := by decide +kernel
theorem dX7_score_47 : decode cX7_score 47 = .ok (.if_icmp .lt 17, 3) := by decide +kernel
theorem dX7_score_50 : decode cX7_score 50 = .ok (.iload_n 3, 1) := by decide +kernel
theorem dX7_score_51 : decode cX7_score 51 = .ok (.bipush 9, 2) := by decide +kernel
theorem dX7_score_53 : decode cX7_score 53 = .ok (.if_icmp .gt 11, 3) := by decide +kernel
theorem dX7_score_56 : decode cX7_score 56 = .ok (.aload_n 0, 1) := by decide +kernel
theorem dX7_score_57 : decode cX7_score 57 = .ok (.iload_n 1, 1) := by decide +kernel
theorem dX7_score_58 : decode cX7_score 58 = .ok (.invokevirtual 228, 3) := by decide +kernel
theorem dX7_score_61 : decode cX7_score 61 = .ok (.ifCond .ne 5, 3) := by decide +kernel
theorem dX7_score_64 : decode cX7_score 64 = .ok (.iconst (-1), 1) := by decide +kernel
theorem dX7_score_65 : decode cX7_score 65 = .ok (.ireturn, 1) := by decide +kernel
theorem dX7_score_66 : decode cX7_score 66 = .ok (.iconst 1, 1) := by decide +kernel
theorem dX7_score_67 : decode cX7_score 67 = .ok (.istore 4, 2) := by decide +kernel
theorem dX7_score_69 : decode cX7_score 69 = .ok (.iload 4, 2) := by decide +kernel
theorem dX7_score_71 : decode cX7_score 71 = .ok (.aload_n 0, 1) := by decide +kernel
theorem dX7_score_72 : decode cX7_score 72 = .ok (.getfield 17, 3) := by decide +kernel
theorem dX7_score_75 : decode cX7_score 75 = .ok (.iload_n 1, 1) := by decide +kernel
theorem dX7_score_76 : decode cX7_score 76 = .ok (.iaload, 1) := by decide +kernel
theorem dX7_score_77 : decode cX7_score 77 = .ok (.if_icmp .gt 37, 3) := by decide +kernel
theorem dX7_score_80 : decode cX7_score 80 = .ok (.aload_n 0, 1) := by decide +kernel
theorem dX7_score_81 : decode cX7_score 81 = .ok (.getfield 89, 3) := by decide +kernel
theorem dX7_score_84 : decode cX7_score 84 = .ok (.iload 4, 2) := by decide +kernel
theorem dX7_score_86 : decode cX7_score 86 = .ok (.aload_n 0, 1) := by decide +kernel
theorem dX7_score_87 : decode cX7_score 87 = .ok (.iload_n 1, 1) := by decide +kernel
theorem dX7_score_88 : decode cX7_score 88 = .ok (.iload 4, 2) := by decide +kernel
theorem dX7_score_90 : decode cX7_score 90 = .ok (.invokevirtual 234, 3) := by decide +kernel
theorem dX7_score_93 : decode cX7_score 93 = .ok (.iastore, 1) := by decide +kernel
theorem dX7_score_94 : decode cX7_score 94 = .ok (.aload_n 0, 1) := by decide +kernel
theorem dX7_score_95 : decode cX7_score 95 = .ok (.getfield 92, 3) := by decide +kernel
theorem dX7_score_98 : decode cX7_score 98 = .ok (.iload 4, 2) := by decide +kernel
theorem dX7_score_100 : decode cX7_score 100 = .ok (.aload_n 0, 1) := by decide +kernel
theorem dX7_score_101 : decode cX7_score 101 = .ok (.iload_n 1, 1) := by decide +kernel
theorem dX7_score_102 : decode cX7_score 102 = .ok (.iload 4, 2) := by decide +kernel
theorem dX7_score_104 : decode cX7_score 104 = .ok (.invokevirtual 211, 3) := by decide +kernel
theorem dX7_score_107 : decode cX7_score 107 = .ok (.iastore, 1) := by decide +kernel
theorem dX7_score_108 : decode cX7_score 108 = .ok (.iinc 4 1, 3) := by decide +kernel
theorem dX7_score_111 : decode cX7_score 111 = .ok (.goto (-42), 3) := by decide +kernel
theorem dX7_score_114 : decode cX7_score 114 = .ok (.iconst 0, 1) := by decide +kernel
theorem dX7_score_115 : decode cX7_score 115 = .ok (.istore 4, 2) := by decide +kernel
theorem dX7_score_117 : decode cX7_score 117 = .ok (.iconst 1, 1) := by decide +kernel
theorem dX7_score_118 : decode cX7_score 118 = .ok (.istore 5, 2) := by decide +kernel
theorem dX7_score_120 : decode cX7_score 120 = .ok (.iload 5, 2) := by decide +kernel
theorem dX7_score_122 : decode cX7_score 122 = .ok (.aload_n 0, 1) := by decide +kernel
theorem dX7_score_123 : decode cX7_score 123 = .ok (.getfield 17, 3) := by decide +kernel
theorem dX7_score_126 : decode cX7_score 126 = .ok (.iload_n 1, 1) := by decide +kernel
theorem dX7_score_127 : decode cX7_score 127 = .ok (.iaload, 1) := by decide +kernel
theorem dX7_score_128 : decode cX7_score 128 = .ok (.if_icmp .gt 65, 3) := by decide +kernel
theorem dX7_score_131 : decode cX7_score 131 = .ok (.iload 5, 2) := by decide +kernel
theorem dX7_score_133 : decode cX7_score 133 = .ok (.istore 6, 2) := by decide +kernel
theorem dX7_score_135 : decode cX7_score 135 = .ok (.iconst 0, 1) := by decide +kernel
theorem dX7_score_136 : decode cX7_score 136 = .ok (.istore 7, 2) := by decide +kernel
theorem dX7_score_138 : decode cX7_score 138 = .ok (.iconst 0, 1) := by decide +kernel
theorem dX7_score_139 : decode cX7_score 139 = .ok (.istore 8, 2) := by decide +kernel
theorem dX7_score_141 : decode cX7_score 141 = .ok (.iload 8, 2) := by decide +kernel
theorem dX7_score_143 : decode cX7_score 143 = .ok (.iload_n 2, 1) := by decide +kernel
theorem dX7_score_144 : decode cX7_score 144 = .ok (.if_icmp .ge 30, 3) := by decide +kernel
theorem dX7_score_147 : decode cX7_score 147 = .ok (.iload 7, 2) := by decide +kernel
theorem dX7_score_149 : decode cX7_score 149 = .ok (.aload_n 0, 1) := by decide +kernel
theorem dX7_score_150 : decode cX7_score 150 = .ok (.getfield 89, 3) := by decide +kernel
theorem dX7_score_153 : decode cX7_score 153 = .ok (.iload 6, 2) := by decide +kernel
theorem dX7_score_155 : decode cX7_score 155 = .ok (.iaload, 1) := by decide +kernel
theorem dX7_score_156 : decode cX7_score 156 = .ok (.iadd, 1) := by decide +kernel
theorem dX7_score_157 : decode cX7_score 157 = .ok (.istore 7, 2) := by decide +kernel
theorem dX7_score_159 : decode cX7_score 159 = .ok (.aload_n 0, 1) := by decide +kernel
theorem dX7_score_160 : decode cX7_score 160 = .ok (.getfield 92, 3) := by decide +kernel
theorem dX7_score_163 : decode cX7_score 163 = .ok (.iload 6, 2) := by decide +kernel
theorem dX7_score_165 : decode cX7_score 165 = .ok (.iaload, 1) := by decide +kernel
theorem dX7_score_166 : decode cX7_score 166 = .ok (.istore 6, 2) := by decide +kernel
theorem dX7_score_168 : decode cX7_score 168 = .ok (.iinc 8 1, 3) := by decide +kernel
theorem dX7_score_171 : decode cX7_score 171 = .ok (.goto (-30), 3) := by decide +kernel
theorem dX7_score_174 : decode cX7_score 174 = .ok (.iload 4, 2) := by decide +kernel
theorem dX7_score_176 : decode cX7_score 176 = .ok (.iload 7, 2) := by decide +kernel
theorem dX7_score_178 : decode cX7_score 178 = .ok (.bipush 99, 2) := by decide +kernel
theorem dX7_score_180 : decode cX7_score 180 = .ok (.iadd, 1) := by decide +kernel
theorem dX7_score_181 : decode cX7_score 181 = .ok (.bipush 100, 2) := by decide +kernel
theorem dX7_score_183 : decode cX7_score 183 = .ok (.idiv, 1) := by decide +kernel
theorem dX7_score_184 : decode cX7_score 184 = .ok (.iadd, 1) := by decide +kernel
theorem dX7_score_185 : decode cX7_score 185 = .ok (.istore 4, 2) := by decide +kernel
theorem dX7_score_187 : decode cX7_score 187 = .ok (.iinc 5 1, 3) := by decide +kernel
theorem dX7_score_190 : decode cX7_score 190 = .ok (.goto (-70), 3) := by decide +kernel
theorem dX7_score_193 : decode cX7_score 193 = .ok (.iconst 0, 1) := by decide +kernel
theorem dX7_score_194 : decode cX7_score 194 = .ok (.istore 5, 2) := by decide +kernel
theorem dX7_score_196 : decode cX7_score 196 = .ok (.iconst 0, 1) := by decide +kernel
theorem dX7_score_197 : decode cX7_score 197 = .ok (.istore 6, 2) := by decide +kernel
theorem dX7_score_199 : decode cX7_score 199 = .ok (.iload 6, 2) := by decide +kernel
theorem dX7_score_201 : decode cX7_score 201 = .ok (.aload_n 0, 1) := by decide +kernel
theorem dX7_score_202 : decode cX7_score 202 = .ok (.getfield 237, 3) := by decide +kernel
theorem dX7_score_205 : decode cX7_score 205 = .ok (.if_icmp .ge 32, 3) := by decide +kernel
theorem dX7_score_208 : decode cX7_score 208 = .ok (.aload_n 0, 1) := by decide +kernel
theorem dX7_score_209 : decode cX7_score 209 = .ok (.getfield 56, 3) := by decide +kernel
theorem dX7_score_212 : decode cX7_score 212 = .ok (.iload 6, 2) := by decide +kernel
theorem dX7_score_214 : decode cX7_score 214 = .ok (.iaload, 1) := by decide +kernel
theorem dX7_score_215 : decode cX7_score 215 = .ok (.iload_n 3, 1) := by decide +kernel
theorem dX7_score_216 : decode cX7_score 216 = .ok (.if_icmp .ne 15, 3) := by decide +kernel
theorem dX7_score_219 : decode cX7_score 219 = .ok (.iload 5, 2) := by decide +kernel
theorem dX7_score_221 : decode cX7_score 221 = .ok (.aload_n 0, 1) := by decide +kernel
theorem dX7_score_222 : decode cX7_score 222 = .ok (.getfield 59, 3) := by decide +kernel
theorem dX7_score_225 : decode cX7_score 225 = .ok (.iload 6, 2) := by decide +kernel
theorem dX7_score_227 : decode cX7_score 227 = .ok (.iaload, 1) := by decide +kernel
theorem dX7_score_228 : decode cX7_score 228 = .ok (.iadd, 1) := by decide +kernel
theorem dX7_score_229 : decode cX7_score 229 = .ok (.istore 5, 2) := by decide +kernel
theorem dX7_score_231 : decode cX7_score 231 = .ok (.iinc 6 1, 3) := by decide +kernel
theorem dX7_score_234 : decode cX7_score 234 = .ok (.goto (-35), 3) := by decide +kernel
theorem dX7_score_237 : decode cX7_score 237 = .ok (.iload 5, 2) := by decide +kernel
theorem dX7_score_239 : decode cX7_score 239 = .ok (.iload 4, 2) := by decide +kernel
theorem dX7_score_241 : decode cX7_score 241 = .ok (.if_icmp .ge 5, 3) := by decide +kernel
theorem dX7_score_244 : decode cX7_score 244 = .ok (.iconst (-1), 1) := by decide +kernel
theorem dX7_score_245 : decode cX7_score 245 = .ok (.ireturn, 1) := by decide +kernel
theorem dX7_score_246 : decode cX7_score 246 = .ok (.iconst 0, 1) := by decide +kernel
theorem dX7_score_247 : decode cX7_score 247 = .ok (.istore 6, 2) := by decide +kernel
theorem dX7_score_249 : decode cX7_score 249 = .ok (.iload 4, 2) := by decide +kernel
theorem dX7_score_251 : decode cX7_score 251 = .ok (.istore 7, 2) := by decide +kernel
theorem dX7_score_253 : decode cX7_score 253 = .ok (.iconst 0, 1) := by decide +kernel
theorem dX7_score_254 : decode cX7_score 254 = .ok (.istore 8, 2) := by decide +kernel
theorem dX7_score_256 : decode cX7_score 256 = .ok (.iload 8, 2) := by decide +kernel
theorem dX7_score_258 : decode cX7_score 258 = .ok (.aload_n 0, 1) := by decide +kernel
theorem dX7_score_259 : decode cX7_score 259 = .ok (.getfield 237, 3) := by decide +kernel
theorem dX7_score_262 : decode cX7_score 262 = .ok (.if_icmp .ge 97, 3) := by decide +kernel
theorem dX7_score_265 : decode cX7_score 265 = .ok (.iload 7, 2) := by decide +kernel
theorem dX7_score_267 : decode cX7_score 267 = .ok (.ifCond .le 92, 3) := by decide +kernel
theorem dX7_score_270 : decode cX7_score 270 = .ok (.aload_n 0, 1) := by decide +kernel
theorem dX7_score_271 : decode cX7_score 271 = .ok (.getfield 56, 3) := by decide +kernel
theorem dX7_score_274 : decode cX7_score 274 = .ok (.iload 8, 2) := by decide +kernel
theorem dX7_score_276 : decode cX7_score 276 = .ok (.iaload, 1) := by decide +kernel
theorem dX7_score_277 : decode cX7_score 277 = .ok (.iload_n 3, 1) := by decide +kernel
theorem dX7_score_278 : decode cX7_score 278 = .ok (.if_icmp .ne 75, 3) := by decide +kernel
theorem dX7_score_281 : decode cX7_score 281 = .ok (.aload_n 0, 1) := by decide +kernel
theorem dX7_score_282 : decode cX7_score 282 = .ok (.getfield 59, 3) := by decide +kernel
theorem dX7_score_285 : decode cX7_score 285 = .ok (.iload 8, 2) := by decide +kernel
theorem dX7_score_287 : decode cX7_score 287 = .ok (.iaload, 1) := by decide +kernel
theorem dX7_score_288 : decode cX7_score 288 = .ok (.ifCond .ne 6, 3) := by decide +kernel
theorem dX7_score_291 : decode cX7_score 291 = .ok (.goto 62, 3) := by decide +kernel
theorem dX7_score_294 : decode cX7_score 294 = .ok (.aload_n 0, 1) := by decide +kernel
theorem dX7_score_295 : decode cX7_score 295 = .ok (.getfield 59, 3) := by decide +kernel
theorem dX7_score_298 : decode cX7_score 298 = .ok (.iload 8, 2) := by decide +kernel
theorem dX7_score_300 : decode cX7_score 300 = .ok (.iaload, 1) := by decide +kernel
theorem dX7_score_301 : decode cX7_score 301 = .ok (.iload 7, 2) := by decide +kernel
theorem dX7_score_303 : decode cX7_score 303 = .ok (.if_icmp .ge 13, 3) := by decide +kernel
theorem dX7_score_306 : decode cX7_score 306 = .ok (.aload_n 0, 1) := by decide +kernel
theorem dX7_score_307 : decode cX7_score 307 = .ok (.getfield 59, 3) := by decide +kernel
theorem dX7_score_310 : decode cX7_score 310 = .ok (.iload 8, 2) := by decide +kernel
theorem dX7_score_312 : decode cX7_score 312 = .ok (.iaload, 1) := by decide +kernel
theorem dX7_score_313 : decode cX7_score 313 = .ok (.goto 5, 3) := by decide +kernel
theorem dX7_score_316 : decode cX7_score 316 = .ok (.iload 7, 2) := by decide +kernel
theorem dX7_score_318 : decode cX7_score 318 = .ok (.istore 9, 2) := by decide +kernel
theorem dX7_score_320 : decode cX7_score 320 = .ok (.aload_n 0, 1) := by decide +kernel
theorem dX7_score_321 : decode cX7_score 321 = .ok (.getfield 59, 3) := by decide +kernel
theorem dX7_score_324 : decode cX7_score 324 = .ok (.iload 8, 2) := by decide +kernel
theorem dX7_score_326 : decode cX7_score 326 = .ok (.dup2, 1) := by decide +kernel
theorem dX7_score_327 : decode cX7_score 327 = .ok (.iaload, 1) := by decide +kernel
theorem dX7_score_328 : decode cX7_score 328 = .ok (.iload 9, 2) := by decide +kernel
theorem dX7_score_330 : decode cX7_score 330 = .ok (.isub, 1) := by decide +kernel
theorem dX7_score_331 : decode cX7_score 331 = .ok (.iastore, 1) := by decide +kernel
theorem dX7_score_332 : decode cX7_score 332 = .ok (.iload 7, 2) := by decide +kernel
theorem dX7_score_334 : decode cX7_score 334 = .ok (.iload 9, 2) := by decide +kernel
theorem dX7_score_336 : decode cX7_score 336 = .ok (.isub, 1) := by decide +kernel
theorem dX7_score_337 : decode cX7_score 337 = .ok (.istore 7, 2) := by decide +kernel
theorem dX7_score_339 : decode cX7_score 339 = .ok (.iload 6, 2) := by decide +kernel
theorem dX7_score_341 : decode cX7_score 341 = .ok (.iconst 1, 1) := by decide +kernel
theorem dX7_score_342 : decode cX7_score 342 = .ok (.aload_n 0, 1) := by decide +kernel
theorem dX7_score_343 : decode cX7_score 343 = .ok (.getfield 53, 3) := by decide +kernel
theorem dX7_score_346 : decode cX7_score 346 = .ok (.iload 8, 2) := by decide +kernel
theorem dX7_score_348 : decode cX7_score 348 = .ok (.iaload, 1) := by decide +kernel
theorem dX7_score_349 : decode cX7_score 349 = .ok (.ishl, 1) := by decide +kernel
theorem dX7_score_350 : decode cX7_score 350 = .ok (.ior, 1) := by decide +kernel
theorem dX7_score_351 : decode cX7_score 351 = .ok (.istore 6, 2) := by decide +kernel
theorem dX7_score_353 : decode cX7_score 353 = .ok (.iinc 8 1, 3) := by decide +kernel
theorem dX7_score_356 : decode cX7_score 356 = .ok (.goto (-100), 3) := by decide +kernel
theorem dX7_score_359 : decode cX7_score 359 = .ok (.aload_n 0, 1) := by decide +kernel
theorem dX7_score_360 : decode cX7_score 360 = .ok (.getfield 62, 3) := by decide +kernel
theorem dX7_score_363 : decode cX7_score 363 = .ok (.aload_n 0, 1) := by decide +kernel
theorem dX7_score_364 : decode cX7_score 364 = .ok (.getfield 240, 3) := by decide +kernel
theorem dX7_score_367 : decode cX7_score 367 = .ok (.iconst 2, 1) := by decide +kernel
theorem dX7_score_368 : decode cX7_score 368 = .ok (.aload_n 0, 1) := by decide +kernel
theorem dX7_score_369 : decode cX7_score 369 = .ok (.iload_n 1, 1) := by decide +kernel
theorem dX7_score_370 : decode cX7_score 370 = .ok (.invokevirtual 222, 3) := by decide +kernel
theorem dX7_score_373 : decode cX7_score 373 = .ok (.imul, 1) := by decide +kernel
theorem dX7_score_374 : decode cX7_score 374 = .ok (.iload_n 2, 1) := by decide +kernel
theorem dX7_score_375 : decode cX7_score 375 = .ok (.imul, 1) := by decide +kernel
theorem dX7_score_376 : decode cX7_score 376 = .ok (.iastore, 1) := by decide +kernel
theorem dX7_score_377 : decode cX7_score 377 = .ok (.aload_n 0, 1) := by decide +kernel
theorem dX7_score_378 : decode cX7_score 378 = .ok (.getfield 65, 3) := by decide +kernel
theorem dX7_score_381 : decode cX7_score 381 = .ok (.aload_n 0, 1) := by decide +kernel
theorem dX7_score_382 : decode cX7_score 382 = .ok (.getfield 240, 3) := by decide +kernel
theorem dX7_score_385 : decode cX7_score 385 = .ok (.aload_n 0, 1) := by decide +kernel
theorem dX7_score_386 : decode cX7_score 386 = .ok (.getfield 62, 3) := by decide +kernel
theorem dX7_score_389 : decode cX7_score 389 = .ok (.aload_n 0, 1) := by decide +kernel
theorem dX7_score_390 : decode cX7_score 390 = .ok (.getfield 240, 3) := by decide +kernel
theorem dX7_score_393 : decode cX7_score 393 = .ok (.iaload, 1) := by decide +kernel
theorem dX7_score_394 : decode cX7_score 394 = .ok (.iastore, 1) := by decide +kernel
theorem dX7_score_395 : decode cX7_score 395 = .ok (.aload_n 0, 1) := by decide +kernel
theorem dX7_score_396 : decode cX7_score 396 = .ok (.getfield 68, 3) := by decide +kernel
theorem dX7_score_399 : decode cX7_score 399 = .ok (.aload_n 0, 1) := by decide +kernel
theorem dX7_score_400 : decode cX7_score 400 = .ok (.getfield 240, 3) := by decide +kernel
theorem dX7_score_403 : decode cX7_score 403 = .ok (.iload_n 3, 1) := by decide +kernel
theorem dX7_score_404 : decode cX7_score 404 = .ok (.iastore, 1) := by decide +kernel
theorem dX7_score_405 : decode cX7_score 405 = .ok (.aload_n 0, 1) := by decide +kernel
theorem dX7_score_406 : decode cX7_score 406 = .ok (.getfield 71, 3) := by decide +kernel
theorem dX7_score_409 : decode cX7_score 409 = .ok (.aload_n 0, 1) := by decide +kernel
theorem dX7_score_410 : decode cX7_score 410 = .ok (.getfield 240, 3) := by decide +kernel
theorem dX7_score_413 : decode cX7_score 413 = .ok (.iload 6, 2) := by decide +kernel
theorem dX7_score_415 : decode cX7_score 415 = .ok (.iastore, 1) := by decide +kernel
theorem dX7_score_416 : decode cX7_score 416 = .ok (.aload_n 0, 1) := by decide +kernel
theorem dX7_score_417 : decode cX7_score 417 = .ok (.getfield 74, 3) := by decide +kernel
theorem dX7_score_420 : decode cX7_score 420 = .ok (.aload_n 0, 1) := by decide +kernel
theorem dX7_score_421 : decode cX7_score 421 = .ok (.getfield 240, 3) := by decide +kernel
theorem dX7_score_424 : decode cX7_score 424 = .ok (.iload 4, 2) := by decide +kernel
theorem dX7_score_426 : decode cX7_score 426 = .ok (.iastore, 1) := by decide +kernel
theorem dX7_score_427 : decode cX7_score 427 = .ok (.aload_n 0, 1) := by decide +kernel
theorem dX7_score_428 : decode cX7_score 428 = .ok (.dup, 1) := by decide +kernel
theorem dX7_score_429 : decode cX7_score 429 = .ok (.getfield 240, 3) := by decide +kernel
theorem dX7_score_432 : decode cX7_score 432 = .ok (.iconst 1, 1) := by decide +kernel
theorem dX7_score_433 : decode cX7_score 433 = .ok (.iadd, 1) := by decide +kernel
theorem dX7_score_434 : decode cX7_score 434 = .ok (.putfield 240, 3) := by decide +kernel
theorem dX7_score_437 : decode cX7_score 437 = .ok (.aload_n 0, 1) := by decide +kernel
theorem dX7_score_438 : decode cX7_score 438 = .ok (.getfield 240, 3) := by decide +kernel
theorem dX7_score_441 : decode cX7_score 441 = .ok (.iconst 1, 1) := by decide +kernel
theorem dX7_score_442 : decode cX7_score 442 = .ok (.isub, 1) := by decide +kernel
theorem dX7_score_443 : decode cX7_score 443 = .ok (.ireturn, 1) := by decide +kernel
theorem dX7_scored_0 : decode cX7_scored 0 = .ok (.aload_n 0, 1) := by decide +kernel
theorem dX7_scored_1 : decode cX7_scored 1 = .ok (.iconst 0, 1) := by decide +kernel
theorem dX7_scored_2 : decode cX7_scored 2 = .ok (.putfield 95, 3) := by decide +kernel
theorem dX7_scored_5 : decode cX7_scored 5 = .ok (.aload_n 0, 1) := by decide +kernel
theorem dX7_scored_6 : decode cX7_scored 6 = .ok (.iload_n 1, 1) := by decide +kernel
theorem dX7_scored_7 : decode cX7_scored 7 = .ok (.ifCond .lt 24, 3) := by decide +kernel
theorem dX7_scored_10 : decode cX7_scored 10 = .ok (.iload_n 1, 1) := by decide +kernel
theorem dX7_scored_11 : decode cX7_scored 11 = .ok (.aload_n 0, 1) := by decide +kernel
theorem dX7_scored_12 : decode cX7_scored 12 = .ok (.getfield 240, 3) := by decide +kernel
theorem dX7_scored_15 : decode cX7_scored 15 = .ok (.if_icmp .ge 16, 3) := by decide +kernel
theorem dX7_scored_18 : decode cX7_scored 18 = .ok (.iload_n 2, 1) := by decide +kernel
theorem dX7_scored_19 : decode cX7_scored 19 = .ok (.ifCond .lt 12, 3) := by decide +kernel
theorem dX7_scored_22 : decode cX7_scored 22 = .ok (.iload_n 2, 1) := by decide +kernel
theorem dX7_scored_23 : decode cX7_scored 23 = .ok (.iconst 4, 1) := by decide +kernel
theorem dX7_scored_24 : decode cX7_scored 24 = .ok (.if_icmp .gt 7, 3) := by decide +kernel
theorem dX7_scored_27 : decode cX7_scored 27 = .ok (.iconst 1, 1) := by decide +kernel
theorem dX7_scored_28 : decode cX7_scored 28 = .ok (.goto 4, 3) := by decide +kernel
theorem dX7_scored_31 : decode cX7_scored 31 = .ok (.iconst 0, 1) := by decide +kernel
theorem dX7_scored_32 : decode cX7_scored 32 = .ok (.iconst 1, 1) := by decide +kernel
theorem dX7_scored_33 : decode cX7_scored 33 = .ok (.invokevirtual 157, 3) := by decide +kernel
theorem dX7_scored_36 : decode cX7_scored 36 = .ok (.ifCond .ne 5, 3) := by decide +kernel
theorem dX7_scored_39 : decode cX7_scored 39 = .ok (.iconst 0, 1) := by decide +kernel
theorem dX7_scored_40 : decode cX7_scored 40 = .ok (.ireturn, 1) := by decide +kernel
theorem dX7_scored_41 : decode cX7_scored 41 = .ok (.iload_n 2, 1) := by decide +kernel
theorem dX7_scored_42 : decode cX7_scored 42 = .ok (.ifCond .ne 12, 3) := by decide +kernel
theorem dX7_scored_45 : decode cX7_scored 45 = .ok (.aload_n 0, 1) := by decide +kernel
theorem dX7_scored_46 : decode cX7_scored 46 = .ok (.getfield 62, 3) := by decide +kernel
theorem dX7_scored_49 : decode cX7_scored 49 = .ok (.iload_n 1, 1) := by decide +kernel
theorem dX7_scored_50 : decode cX7_scored 50 = .ok (.iaload, 1) := by decide +kernel
theorem dX7_scored_51 : decode cX7_scored 51 = .ok (.goto 51, 3) := by decide +kernel
theorem dX7_scored_54 : decode cX7_scored 54 = .ok (.iload_n 2, 1) := by decide +kernel
theorem dX7_scored_55 : decode cX7_scored 55 = .ok (.iconst 1, 1) := by decide +kernel
theorem dX7_scored_56 : decode cX7_scored 56 = .ok (.if_icmp .ne 12, 3) := by decide +kernel
theorem dX7_scored_59 : decode cX7_scored 59 = .ok (.aload_n 0, 1) := by decide +kernel
theorem dX7_scored_60 : decode cX7_scored 60 = .ok (.getfield 65, 3) := by decide +kernel
theorem dX7_scored_63 : decode cX7_scored 63 = .ok (.iload_n 1, 1) := by decide +kernel
theorem dX7_scored_64 : decode cX7_scored 64 = .ok (.iaload, 1) := by decide +kernel
theorem dX7_scored_65 : decode cX7_scored 65 = .ok (.goto 37, 3) := by decide +kernel
theorem dX7_scored_68 : decode cX7_scored 68 = .ok (.iload_n 2, 1) := by decide +kernel
theorem dX7_scored_69 : decode cX7_scored 69 = .ok (.iconst 2, 1) := by decide +kernel
theorem dX7_scored_70 : decode cX7_scored 70 = .ok (.if_icmp .ne 12, 3) := by decide +kernel
theorem dX7_scored_73 : decode cX7_scored 73 = .ok (.aload_n 0, 1) := by decide +kernel
theorem dX7_scored_74 : decode cX7_scored 74 = .ok (.getfield 68, 3) := by decide +kernel
theorem dX7_scored_77 : decode cX7_scored 77 = .ok (.iload_n 1, 1) := by decide +kernel
theorem dX7_scored_78 : decode cX7_scored 78 = .ok (.iaload, 1) := by decide +kernel
theorem dX7_scored_79 : decode cX7_scored 79 = .ok (.goto 23, 3) := by decide +kernel
theorem dX7_scored_82 : decode cX7_scored 82 = .ok (.iload_n 2, 1) := by decide +kernel
theorem dX7_scored_83 : decode cX7_scored 83 = .ok (.iconst 3, 1) := by decide +kernel
theorem dX7_scored_84 : decode cX7_scored 84 = .ok (.if_icmp .ne 12, 3) := by decide +kernel
theorem dX7_scored_87 : decode cX7_scored 87 = .ok (.aload_n 0, 1) := by decide +kernel
theorem dX7_scored_88 : decode cX7_scored 88 = .ok (.getfield 71, 3) := by decide +kernel
theorem dX7_scored_91 : decode cX7_scored 91 = .ok (.iload_n 1, 1) := by decide +kernel
theorem dX7_scored_92 : decode cX7_scored 92 = .ok (.iaload, 1) := by decide +kernel
theorem dX7_scored_93 : decode cX7_scored 93 = .ok (.goto 9, 3) := by decide +kernel
theorem dX7_scored_96 : decode cX7_scored 96 = .ok (.aload_n 0, 1) := by decide +kernel
theorem dX7_scored_97 : decode cX7_scored 97 = .ok (.getfield 74, 3) := by decide +kernel
theorem dX7_scored_100 : decode cX7_scored 100 = .ok (.iload_n 1, 1) := by decide +kernel
theorem dX7_scored_101 : decode cX7_scored 101 = .ok (.iaload, 1) := by decide +kernel
theorem dX7_scored_102 : decode cX7_scored 102 = .ok (.ireturn, 1) := by decide +kernel
theorem dX7_hat_0 : decode cX7_hat 0 = .ok (.aload_n 0, 1) := by decide +kernel
theorem dX7_hat_1 : decode cX7_hat 1 = .ok (.iconst 0, 1) := by decide +kernel
theorem dX7_hat_2 : decode cX7_hat 2 = .ok (.putfield 95, 3) := by decide +kernel
theorem dX7_hat_5 : decode cX7_hat 5 = .ok (.aload_n 0, 1) := by decide +kernel
theorem dX7_hat_6 : decode cX7_hat 6 = .ok (.getfield 243, 3) := by decide +kernel
theorem dX7_hat_9 : decode cX7_hat 9 = .ok (.bipush 60, 2) := by decide +kernel
theorem dX7_hat_11 : decode cX7_hat 11 = .ok (.if_icmp .eq 32, 3) := by decide +kernel
theorem dX7_hat_14 : decode cX7_hat 14 = .ok (.iload_n 1, 1) := by decide +kernel
theorem dX7_hat_15 : decode cX7_hat 15 = .ok (.iconst 1, 1) := by decide +kernel
theorem dX7_hat_16 : decode cX7_hat 16 = .ok (.if_icmp .lt 27, 3) := by decide +kernel
theorem dX7_hat_19 : decode cX7_hat 19 = .ok (.iload_n 1, 1) := by decide +kernel
theorem dX7_hat_20 : decode cX7_hat 20 = .ok (.bipush 9, 2) := by decide +kernel
theorem dX7_hat_22 : decode cX7_hat 22 = .ok (.if_icmp .gt 21, 3) := by decide +kernel
theorem dX7_hat_25 : decode cX7_hat 25 = .ok (.iload_n 2, 1) := by decide +kernel
theorem dX7_hat_26 : decode cX7_hat 26 = .ok (.iconst 1, 1) := by decide +kernel
theorem dX7_hat_27 : decode cX7_hat 27 = .ok (.if_icmp .lt 16, 3) := by decide +kernel
theorem dX7_hat_30 : decode cX7_hat 30 = .ok (.iload_n 2, 1) := by decide +kernel
theorem dX7_hat_31 : decode cX7_hat 31 = .ok (.sipush 400, 3) := by decide +kernel
theorem dX7_hat_34 : decode cX7_hat 34 = .ok (.if_icmp .gt 9, 3) := by decide +kernel
theorem dX7_hat_37 : decode cX7_hat 37 = .ok (.iload_n 2, 1) := by decide +kernel
theorem dX7_hat_38 : decode cX7_hat 38 = .ok (.iload_n 1, 1) := by decide +kernel
theorem dX7_hat_39 : decode cX7_hat 39 = .ok (.irem, 1) := by decide +kernel
theorem dX7_hat_40 : decode cX7_hat 40 = .ok (.ifCond .eq 5, 3) := by decide +kernel
theorem dX7_hat_43 : decode cX7_hat 43 = .ok (.iconst (-1), 1) := by decide +kernel
theorem dX7_hat_44 : decode cX7_hat 44 = .ok (.ireturn, 1) := by decide +kernel
theorem dX7_hat_45 : decode cX7_hat 45 = .ok (.iconst 0, 1) := by decide +kernel
theorem dX7_hat_46 : decode cX7_hat 46 = .ok (.istore_n 3, 1) := by decide +kernel
theorem dX7_hat_47 : decode cX7_hat 47 = .ok (.iconst 1, 1) := by decide +kernel
theorem dX7_hat_48 : decode cX7_hat 48 = .ok (.istore 4, 2) := by decide +kernel
theorem dX7_hat_50 : decode cX7_hat 50 = .ok (.iload 4, 2) := by decide +kernel
theorem dX7_hat_52 : decode cX7_hat 52 = .ok (.iload_n 2, 1) := by decide +kernel
theorem dX7_hat_53 : decode cX7_hat 53 = .ok (.iload_n 1, 1) := by decide +kernel
theorem dX7_hat_54 : decode cX7_hat 54 = .ok (.idiv, 1) := by decide +kernel
theorem dX7_hat_55 : decode cX7_hat 55 = .ok (.if_icmp .gt 30, 3) := by decide +kernel
theorem dX7_hat_58 : decode cX7_hat 58 = .ok (.iload_n 3, 1) := by decide +kernel
theorem dX7_hat_59 : decode cX7_hat 59 = .ok (.sipush 710, 3) := by decide +kernel
theorem dX7_hat_62 : decode cX7_hat 62 = .ok (.iconst 2, 1) := by decide +kernel
theorem dX7_hat_63 : decode cX7_hat 63 = .ok (.iload 4, 2) := by decide +kernel
theorem dX7_hat_65 : decode cX7_hat 65 = .ok (.imul, 1) := by decide +kernel
theorem dX7_hat_66 : decode cX7_hat 66 = .ok (.iconst 1, 1) := by decide +kernel
theorem dX7_hat_67 : decode cX7_hat 67 = .ok (.isub, 1) := by decide +kernel
theorem dX7_hat_68 : decode cX7_hat 68 = .ok (.imul, 1) := by decide +kernel
theorem dX7_hat_69 : decode cX7_hat 69 = .ok (.iload_n 1, 1) := by decide +kernel
theorem dX7_hat_70 : decode cX7_hat 70 = .ok (.imul, 1) := by decide +kernel
theorem dX7_hat_71 : decode cX7_hat 71 = .ok (.sipush 226, 3) := by decide +kernel
theorem dX7_hat_74 : decode cX7_hat 74 = .ok (.idiv, 1) := by decide +kernel
theorem dX7_hat_75 : decode cX7_hat 75 = .ok (.iconst 1, 1) := by decide +kernel
theorem dX7_hat_76 : decode cX7_hat 76 = .ok (.iadd, 1) := by decide +kernel
theorem dX7_hat_77 : decode cX7_hat 77 = .ok (.iadd, 1) := by decide +kernel
theorem dX7_hat_78 : decode cX7_hat 78 = .ok (.istore_n 3, 1) := by decide +kernel
theorem dX7_hat_79 : decode cX7_hat 79 = .ok (.iinc 4 1, 3) := by decide +kernel
theorem dX7_hat_82 : decode cX7_hat 82 = .ok (.goto (-32), 3) := by decide +kernel
theorem dX7_hat_85 : decode cX7_hat 85 = .ok (.iconst 0, 1) := by decide +kernel
theorem dX7_hat_86 : decode cX7_hat 86 = .ok (.istore 4, 2) := by decide +kernel
theorem dX7_hat_88 : decode cX7_hat 88 = .ok (.iconst 0, 1) := by decide +kernel
theorem dX7_hat_89 : decode cX7_hat 89 = .ok (.istore 5, 2) := by decide +kernel
theorem dX7_hat_91 : decode cX7_hat 91 = .ok (.iload 5, 2) := by decide +kernel
theorem dX7_hat_93 : decode cX7_hat 93 = .ok (.aload_n 0, 1) := by decide +kernel
theorem dX7_hat_94 : decode cX7_hat 94 = .ok (.getfield 240, 3) := by decide +kernel
theorem dX7_hat_97 : decode cX7_hat 97 = .ok (.if_icmp .ge 32, 3) := by decide +kernel
theorem dX7_hat_100 : decode cX7_hat 100 = .ok (.aload_n 0, 1) := by decide +kernel
theorem dX7_hat_101 : decode cX7_hat 101 = .ok (.getfield 68, 3) := by decide +kernel
theorem dX7_hat_104 : decode cX7_hat 104 = .ok (.iload 5, 2) := by decide +kernel
theorem dX7_hat_106 : decode cX7_hat 106 = .ok (.iaload, 1) := by decide +kernel
theorem dX7_hat_107 : decode cX7_hat 107 = .ok (.iload_n 1, 1) := by decide +kernel
theorem dX7_hat_108 : decode cX7_hat 108 = .ok (.if_icmp .ne 15, 3) := by decide +kernel
theorem dX7_hat_111 : decode cX7_hat 111 = .ok (.iload 4, 2) := by decide +kernel
theorem dX7_hat_113 : decode cX7_hat 113 = .ok (.aload_n 0, 1) := by decide +kernel
theorem dX7_hat_114 : decode cX7_hat 114 = .ok (.getfield 65, 3) := by decide +kernel
theorem dX7_hat_117 : decode cX7_hat 117 = .ok (.iload 5, 2) := by decide +kernel
theorem dX7_hat_119 : decode cX7_hat 119 = .ok (.iaload, 1) := by decide +kernel
theorem dX7_hat_120 : decode cX7_hat 120 = .ok (.iadd, 1) := by decide +kernel
theorem dX7_hat_121 : decode cX7_hat 121 = .ok (.istore 4, 2) := by decide +kernel
theorem dX7_hat_123 : decode cX7_hat 123 = .ok (.iinc 5 1, 3) := by decide +kernel
theorem dX7_hat_126 : decode cX7_hat 126 = .ok (.goto (-35), 3) := by decide +kernel
theorem dX7_hat_129 : decode cX7_hat 129 = .ok (.iload 4, 2) := by decide +kernel
theorem dX7_hat_131 : decode cX7_hat 131 = .ok (.iload_n 3, 1) := by decide +kernel
theorem dX7_hat_132 : decode cX7_hat 132 = .ok (.if_icmp .ge 5, 3) := by decide +kernel
theorem dX7_hat_135 : decode cX7_hat 135 = .ok (.iconst (-1), 1) := by decide +kernel
theorem dX7_hat_136 : decode cX7_hat 136 = .ok (.ireturn, 1) := by decide +kernel
theorem dX7_hat_137 : decode cX7_hat 137 = .ok (.iconst 0, 1) := by decide +kernel
theorem dX7_hat_138 : decode cX7_hat 138 = .ok (.istore 5, 2) := by decide +kernel
theorem dX7_hat_140 : decode cX7_hat 140 = .ok (.iconst 0, 1) := by decide +kernel
theorem dX7_hat_141 : decode cX7_hat 141 = .ok (.istore 6, 2) := by decide +kernel
theorem dX7_hat_143 : decode cX7_hat 143 = .ok (.iload_n 3, 1) := by decide +kernel
theorem dX7_hat_144 : decode cX7_hat 144 = .ok (.istore 7, 2) := by decide +kernel
theorem dX7_hat_146 : decode cX7_hat 146 = .ok (.iconst 0, 1) := by decide +kernel
end
section
theorem dX7_hat_147 : decode cX7_hat 147 = .ok (.istore 8, 2) := by decide +kernel
theorem dX7_hat_149 : decode cX7_hat 149 = .ok (.iload 8, 2) := by decide +kernel
theorem dX7_hat_151 : decode cX7_hat 151 = .ok (.aload_n 0, 1) := by decide +kernel
theorem dX7_hat_152 : decode cX7_hat 152 = .ok (.getfield 240, 3) := by decide +kernel
theorem dX7_hat_155 : decode cX7_hat 155 = .ok (.if_icmp .ge 111, 3) := by decide +kernel
theorem dX7_hat_158 : decode cX7_hat 158 = .ok (.iload 7, 2) := by decide +kernel
theorem dX7_hat_160 : decode cX7_hat 160 = .ok (.ifCond .le 106, 3) := by decide +kernel
theorem dX7_hat_163 : decode cX7_hat 163 = .ok (.aload_n 0, 1) := by decide +kernel
theorem dX7_hat_164 : decode cX7_hat 164 = .ok (.getfield 68, 3) := by decide +kernel
theorem dX7_hat_167 : decode cX7_hat 167 = .ok (.iload 8, 2) := by decide +kernel
theorem dX7_hat_169 : decode cX7_hat 169 = .ok (.iaload, 1) := by decide +kernel
theorem dX7_hat_170 : decode cX7_hat 170 = .ok (.iload_n 1, 1) := by decide +kernel
theorem dX7_hat_171 : decode cX7_hat 171 = .ok (.if_icmp .ne 89, 3) := by decide +kernel
theorem dX7_hat_174 : decode cX7_hat 174 = .ok (.aload_n 0, 1) := by decide +kernel
theorem dX7_hat_175 : decode cX7_hat 175 = .ok (.getfield 65, 3) := by decide +kernel
theorem dX7_hat_178 : decode cX7_hat 178 = .ok (.iload 8, 2) := by decide +kernel
theorem dX7_hat_180 : decode cX7_hat 180 = .ok (.iaload, 1) := by decide +kernel
theorem dX7_hat_181 : decode cX7_hat 181 = .ok (.ifCond .ne 6, 3) := by decide +kernel
theorem dX7_hat_184 : decode cX7_hat 184 = .ok (.goto 76, 3) := by decide +kernel
theorem dX7_hat_187 : decode cX7_hat 187 = .ok (.aload_n 0, 1) := by decide +kernel
theorem dX7_hat_188 : decode cX7_hat 188 = .ok (.getfield 65, 3) := by decide +kernel
theorem dX7_hat_191 : decode cX7_hat 191 = .ok (.iload 8, 2) := by decide +kernel
theorem dX7_hat_193 : decode cX7_hat 193 = .ok (.iaload, 1) := by decide +kernel
theorem dX7_hat_194 : decode cX7_hat 194 = .ok (.iload 7, 2) := by decide +kernel
theorem dX7_hat_196 : decode cX7_hat 196 = .ok (.if_icmp .ge 13, 3) := by decide +kernel
theorem dX7_hat_199 : decode cX7_hat 199 = .ok (.aload_n 0, 1) := by decide +kernel
theorem dX7_hat_200 : decode cX7_hat 200 = .ok (.getfield 65, 3) := by decide +kernel
theorem dX7_hat_203 : decode cX7_hat 203 = .ok (.iload 8, 2) := by decide +kernel
theorem dX7_hat_205 : decode cX7_hat 205 = .ok (.iaload, 1) := by decide +kernel
theorem dX7_hat_206 : decode cX7_hat 206 = .ok (.goto 5, 3) := by decide +kernel
theorem dX7_hat_209 : decode cX7_hat 209 = .ok (.iload 7, 2) := by decide +kernel
theorem dX7_hat_211 : decode cX7_hat 211 = .ok (.istore 9, 2) := by decide +kernel
theorem dX7_hat_213 : decode cX7_hat 213 = .ok (.aload_n 0, 1) := by decide +kernel
theorem dX7_hat_214 : decode cX7_hat 214 = .ok (.getfield 65, 3) := by decide +kernel
theorem dX7_hat_217 : decode cX7_hat 217 = .ok (.iload 8, 2) := by decide +kernel
theorem dX7_hat_219 : decode cX7_hat 219 = .ok (.dup2, 1) := by decide +kernel
theorem dX7_hat_220 : decode cX7_hat 220 = .ok (.iaload, 1) := by decide +kernel
theorem dX7_hat_221 : decode cX7_hat 221 = .ok (.iload 9, 2) := by decide +kernel
theorem dX7_hat_223 : decode cX7_hat 223 = .ok (.isub, 1) := by decide +kernel
theorem dX7_hat_224 : decode cX7_hat 224 = .ok (.iastore, 1) := by decide +kernel
theorem dX7_hat_225 : decode cX7_hat 225 = .ok (.iload 7, 2) := by decide +kernel
theorem dX7_hat_227 : decode cX7_hat 227 = .ok (.iload 9, 2) := by decide +kernel
theorem dX7_hat_229 : decode cX7_hat 229 = .ok (.isub, 1) := by decide +kernel
theorem dX7_hat_230 : decode cX7_hat 230 = .ok (.istore 7, 2) := by decide +kernel
theorem dX7_hat_232 : decode cX7_hat 232 = .ok (.iload 5, 2) := by decide +kernel
theorem dX7_hat_234 : decode cX7_hat 234 = .ok (.aload_n 0, 1) := by decide +kernel
theorem dX7_hat_235 : decode cX7_hat 235 = .ok (.getfield 71, 3) := by decide +kernel
theorem dX7_hat_238 : decode cX7_hat 238 = .ok (.iload 8, 2) := by decide +kernel
theorem dX7_hat_240 : decode cX7_hat 240 = .ok (.iaload, 1) := by decide +kernel
theorem dX7_hat_241 : decode cX7_hat 241 = .ok (.ior, 1) := by decide +kernel
theorem dX7_hat_242 : decode cX7_hat 242 = .ok (.istore 5, 2) := by decide +kernel
theorem dX7_hat_244 : decode cX7_hat 244 = .ok (.iload 8, 2) := by decide +kernel
theorem dX7_hat_246 : decode cX7_hat 246 = .ok (.bipush 31, 2) := by decide +kernel
theorem dX7_hat_248 : decode cX7_hat 248 = .ok (.if_icmp .ge 12, 3) := by decide +kernel
theorem dX7_hat_251 : decode cX7_hat 251 = .ok (.iload 6, 2) := by decide +kernel
theorem dX7_hat_253 : decode cX7_hat 253 = .ok (.iconst 1, 1) := by decide +kernel
theorem dX7_hat_254 : decode cX7_hat 254 = .ok (.iload 8, 2) := by decide +kernel
theorem dX7_hat_256 : decode cX7_hat 256 = .ok (.ishl, 1) := by decide +kernel
theorem dX7_hat_257 : decode cX7_hat 257 = .ok (.ior, 1) := by decide +kernel
theorem dX7_hat_258 : decode cX7_hat 258 = .ok (.istore 6, 2) := by decide +kernel
theorem dX7_hat_260 : decode cX7_hat 260 = .ok (.iinc 8 1, 3) := by decide +kernel
theorem dX7_hat_263 : decode cX7_hat 263 = .ok (.goto (-114), 3) := by decide +kernel
theorem dX7_hat_266 : decode cX7_hat 266 = .ok (.aload_n 0, 1) := by decide +kernel
theorem dX7_hat_267 : decode cX7_hat 267 = .ok (.getfield 77, 3) := by decide +kernel
theorem dX7_hat_270 : decode cX7_hat 270 = .ok (.aload_n 0, 1) := by decide +kernel
theorem dX7_hat_271 : decode cX7_hat 271 = .ok (.getfield 243, 3) := by decide +kernel
theorem dX7_hat_274 : decode cX7_hat 274 = .ok (.iload_n 3, 1) := by decide +kernel
theorem dX7_hat_275 : decode cX7_hat 275 = .ok (.iastore, 1) := by decide +kernel
theorem dX7_hat_276 : decode cX7_hat 276 = .ok (.aload_n 0, 1) := by decide +kernel
theorem dX7_hat_277 : decode cX7_hat 277 = .ok (.getfield 80, 3) := by decide +kernel
theorem dX7_hat_280 : decode cX7_hat 280 = .ok (.aload_n 0, 1) := by decide +kernel
theorem dX7_hat_281 : decode cX7_hat 281 = .ok (.getfield 243, 3) := by decide +kernel
theorem dX7_hat_284 : decode cX7_hat 284 = .ok (.iload_n 2, 1) := by decide +kernel
theorem dX7_hat_285 : decode cX7_hat 285 = .ok (.iload_n 1, 1) := by decide +kernel
theorem dX7_hat_286 : decode cX7_hat 286 = .ok (.idiv, 1) := by decide +kernel
theorem dX7_hat_287 : decode cX7_hat 287 = .ok (.iastore, 1) := by decide +kernel
theorem dX7_hat_288 : decode cX7_hat 288 = .ok (.aload_n 0, 1) := by decide +kernel
theorem dX7_hat_289 : decode cX7_hat 289 = .ok (.getfield 83, 3) := by decide +kernel
theorem dX7_hat_292 : decode cX7_hat 292 = .ok (.aload_n 0, 1) := by decide +kernel
theorem dX7_hat_293 : decode cX7_hat 293 = .ok (.getfield 243, 3) := by decide +kernel
theorem dX7_hat_296 : decode cX7_hat 296 = .ok (.iload 5, 2) := by decide +kernel
theorem dX7_hat_298 : decode cX7_hat 298 = .ok (.iastore, 1) := by decide +kernel
theorem dX7_hat_299 : decode cX7_hat 299 = .ok (.aload_n 0, 1) := by decide +kernel
theorem dX7_hat_300 : decode cX7_hat 300 = .ok (.getfield 86, 3) := by decide +kernel
theorem dX7_hat_303 : decode cX7_hat 303 = .ok (.aload_n 0, 1) := by decide +kernel
theorem dX7_hat_304 : decode cX7_hat 304 = .ok (.getfield 243, 3) := by decide +kernel
theorem dX7_hat_307 : decode cX7_hat 307 = .ok (.iload 6, 2) := by decide +kernel
theorem dX7_hat_309 : decode cX7_hat 309 = .ok (.iastore, 1) := by decide +kernel
theorem dX7_hat_310 : decode cX7_hat 310 = .ok (.aload_n 0, 1) := by decide +kernel
theorem dX7_hat_311 : decode cX7_hat 311 = .ok (.dup, 1) := by decide +kernel
theorem dX7_hat_312 : decode cX7_hat 312 = .ok (.getfield 243, 3) := by decide +kernel
theorem dX7_hat_315 : decode cX7_hat 315 = .ok (.iconst 1, 1) := by decide +kernel
theorem dX7_hat_316 : decode cX7_hat 316 = .ok (.iadd, 1) := by decide +kernel
theorem dX7_hat_317 : decode cX7_hat 317 = .ok (.putfield 243, 3) := by decide +kernel
theorem dX7_hat_320 : decode cX7_hat 320 = .ok (.aload_n 0, 1) := by decide +kernel
theorem dX7_hat_321 : decode cX7_hat 321 = .ok (.getfield 243, 3) := by decide +kernel
theorem dX7_hat_324 : decode cX7_hat 324 = .ok (.iconst 1, 1) := by decide +kernel
theorem dX7_hat_325 : decode cX7_hat 325 = .ok (.isub, 1) := by decide +kernel
theorem dX7_hat_326 : decode cX7_hat 326 = .ok (.ireturn, 1) := by decide +kernel
theorem dX7_sewn_0 : decode cX7_sewn 0 = .ok (.aload_n 0, 1) := by decide +kernel
theorem dX7_sewn_1 : decode cX7_sewn 1 = .ok (.iconst 0, 1) := by decide +kernel
theorem dX7_sewn_2 : decode cX7_sewn 2 = .ok (.putfield 95, 3) := by decide +kernel
theorem dX7_sewn_5 : decode cX7_sewn 5 = .ok (.aload_n 0, 1) := by decide +kernel
theorem dX7_sewn_6 : decode cX7_sewn 6 = .ok (.iload_n 1, 1) := by decide +kernel
theorem dX7_sewn_7 : decode cX7_sewn 7 = .ok (.ifCond .lt 24, 3) := by decide +kernel
theorem dX7_sewn_10 : decode cX7_sewn 10 = .ok (.iload_n 1, 1) := by decide +kernel
theorem dX7_sewn_11 : decode cX7_sewn 11 = .ok (.aload_n 0, 1) := by decide +kernel
theorem dX7_sewn_12 : decode cX7_sewn 12 = .ok (.getfield 243, 3) := by decide +kernel
theorem dX7_sewn_15 : decode cX7_sewn 15 = .ok (.if_icmp .ge 16, 3) := by decide +kernel
theorem dX7_sewn_18 : decode cX7_sewn 18 = .ok (.iload_n 2, 1) := by decide +kernel
theorem dX7_sewn_19 : decode cX7_sewn 19 = .ok (.ifCond .lt 12, 3) := by decide +kernel
theorem dX7_sewn_22 : decode cX7_sewn 22 = .ok (.iload_n 2, 1) := by decide +kernel
theorem dX7_sewn_23 : decode cX7_sewn 23 = .ok (.iconst 3, 1) := by decide +kernel
theorem dX7_sewn_24 : decode cX7_sewn 24 = .ok (.if_icmp .gt 7, 3) := by decide +kernel
theorem dX7_sewn_27 : decode cX7_sewn 27 = .ok (.iconst 1, 1) := by decide +kernel
theorem dX7_sewn_28 : decode cX7_sewn 28 = .ok (.goto 4, 3) := by decide +kernel
theorem dX7_sewn_31 : decode cX7_sewn 31 = .ok (.iconst 0, 1) := by decide +kernel
theorem dX7_sewn_32 : decode cX7_sewn 32 = .ok (.iconst 1, 1) := by decide +kernel
theorem dX7_sewn_33 : decode cX7_sewn 33 = .ok (.invokevirtual 157, 3) := by decide +kernel
theorem dX7_sewn_36 : decode cX7_sewn 36 = .ok (.ifCond .ne 5, 3) := by decide +kernel
theorem dX7_sewn_39 : decode cX7_sewn 39 = .ok (.iconst 0, 1) := by decide +kernel
theorem dX7_sewn_40 : decode cX7_sewn 40 = .ok (.ireturn, 1) := by decide +kernel
theorem dX7_sewn_41 : decode cX7_sewn 41 = .ok (.iload_n 2, 1) := by decide +kernel
theorem dX7_sewn_42 : decode cX7_sewn 42 = .ok (.ifCond .ne 12, 3) := by decide +kernel
theorem dX7_sewn_45 : decode cX7_sewn 45 = .ok (.aload_n 0, 1) := by decide +kernel
theorem dX7_sewn_46 : decode cX7_sewn 46 = .ok (.getfield 77, 3) := by decide +kernel
theorem dX7_sewn_49 : decode cX7_sewn 49 = .ok (.iload_n 1, 1) := by decide +kernel
theorem dX7_sewn_50 : decode cX7_sewn 50 = .ok (.iaload, 1) := by decide +kernel
theorem dX7_sewn_51 : decode cX7_sewn 51 = .ok (.goto 37, 3) := by decide +kernel
theorem dX7_sewn_54 : decode cX7_sewn 54 = .ok (.iload_n 2, 1) := by decide +kernel
theorem dX7_sewn_55 : decode cX7_sewn 55 = .ok (.iconst 1, 1) := by decide +kernel
theorem dX7_sewn_56 : decode cX7_sewn 56 = .ok (.if_icmp .ne 12, 3) := by decide +kernel
theorem dX7_sewn_59 : decode cX7_sewn 59 = .ok (.aload_n 0, 1) := by decide +kernel
theorem dX7_sewn_60 : decode cX7_sewn 60 = .ok (.getfield 80, 3) := by decide +kernel
theorem dX7_sewn_63 : decode cX7_sewn 63 = .ok (.iload_n 1, 1) := by decide +kernel
theorem dX7_sewn_64 : decode cX7_sewn 64 = .ok (.iaload, 1) := by decide +kernel
theorem dX7_sewn_65 : decode cX7_sewn 65 = .ok (.goto 23, 3) := by decide +kernel
theorem dX7_sewn_68 : decode cX7_sewn 68 = .ok (.iload_n 2, 1) := by decide +kernel
theorem dX7_sewn_69 : decode cX7_sewn 69 = .ok (.iconst 2, 1) := by decide +kernel
theorem dX7_sewn_70 : decode cX7_sewn 70 = .ok (.if_icmp .ne 12, 3) := by decide +kernel
theorem dX7_sewn_73 : decode cX7_sewn 73 = .ok (.aload_n 0, 1) := by decide +kernel
theorem dX7_sewn_74 : decode cX7_sewn 74 = .ok (.getfield 83, 3) := by decide +kernel
theorem dX7_sewn_77 : decode cX7_sewn 77 = .ok (.iload_n 1, 1) := by decide +kernel
theorem dX7_sewn_78 : decode cX7_sewn 78 = .ok (.iaload, 1) := by decide +kernel
theorem dX7_sewn_79 : decode cX7_sewn 79 = .ok (.goto 9, 3) := by decide +kernel
theorem dX7_sewn_82 : decode cX7_sewn 82 = .ok (.aload_n 0, 1) := by decide +kernel
theorem dX7_sewn_83 : decode cX7_sewn 83 = .ok (.getfield 86, 3) := by decide +kernel
theorem dX7_sewn_86 : decode cX7_sewn 86 = .ok (.iload_n 1, 1) := by decide +kernel
theorem dX7_sewn_87 : decode cX7_sewn 87 = .ok (.iaload, 1) := by decide +kernel
theorem dX7_sewn_88 : decode cX7_sewn 88 = .ok (.ireturn, 1) := by decide +kernel
theorem dX7_count_0 : decode cX7_count 0 = .ok (.aload_n 0, 1) := by decide +kernel
theorem dX7_count_1 : decode cX7_count 1 = .ok (.iconst 0, 1) := by decide +kernel
theorem dX7_count_2 : decode cX7_count 2 = .ok (.putfield 95, 3) := by decide +kernel
theorem dX7_count_5 : decode cX7_count 5 = .ok (.aload_n 0, 1) := by decide +kernel
theorem dX7_count_6 : decode cX7_count 6 = .ok (.iload_n 1, 1) := by decide +kernel
theorem dX7_count_7 : decode cX7_count 7 = .ok (.ifCond .lt 12, 3) := by decide +kernel
theorem dX7_count_10 : decode cX7_count 10 = .ok (.iload_n 1, 1) := by decide +kernel
theorem dX7_count_11 : decode cX7_count 11 = .ok (.iconst 4, 1) := by decide +kernel
theorem dX7_count_12 : decode cX7_count 12 = .ok (.if_icmp .gt 7, 3) := by decide +kernel
theorem dX7_count_15 : decode cX7_count 15 = .ok (.iconst 1, 1) := by decide +kernel
theorem dX7_count_16 : decode cX7_count 16 = .ok (.goto 4, 3) := by decide +kernel
theorem dX7_count_19 : decode cX7_count 19 = .ok (.iconst 0, 1) := by decide +kernel
theorem dX7_count_20 : decode cX7_count 20 = .ok (.iconst 1, 1) := by decide +kernel
theorem dX7_count_21 : decode cX7_count 21 = .ok (.invokevirtual 157, 3) := by decide +kernel
theorem dX7_count_24 : decode cX7_count 24 = .ok (.ifCond .ne 5, 3) := by decide +kernel
theorem dX7_count_27 : decode cX7_count 27 = .ok (.iconst 0, 1) := by decide +kernel
theorem dX7_count_28 : decode cX7_count 28 = .ok (.ireturn, 1) := by decide +kernel
theorem dX7_count_29 : decode cX7_count 29 = .ok (.iload_n 1, 1) := by decide +kernel
theorem dX7_count_30 : decode cX7_count 30 = .ok (.tableswitch 50 0 3 #[30, 35, 40, 45], 30) := by decide +kernel
theorem dX7_count_60 : decode cX7_count 60 = .ok (.aload_n 0, 1) := by decide +kernel
theorem dX7_count_61 : decode cX7_count 61 = .ok (.getfield 237, 3) := by decide +kernel
theorem dX7_count_64 : decode cX7_count 64 = .ok (.ireturn, 1) := by decide +kernel
theorem dX7_count_65 : decode cX7_count 65 = .ok (.aload_n 0, 1) := by decide +kernel
theorem dX7_count_66 : decode cX7_count 66 = .ok (.getfield 240, 3) := by decide +kernel
theorem dX7_count_69 : decode cX7_count 69 = .ok (.ireturn, 1) := by decide +kernel
theorem dX7_count_70 : decode cX7_count 70 = .ok (.aload_n 0, 1) := by decide +kernel
theorem dX7_count_71 : decode cX7_count 71 = .ok (.getfield 243, 3) := by decide +kernel
theorem dX7_count_74 : decode cX7_count 74 = .ok (.ireturn, 1) := by decide +kernel
theorem dX7_count_75 : decode cX7_count 75 = .ok (.aload_n 0, 1) := by decide +kernel
theorem dX7_count_76 : decode cX7_count 76 = .ok (.getfield 98, 3) := by decide +kernel
theorem dX7_count_79 : decode cX7_count 79 = .ok (.ireturn, 1) := by decide +kernel
theorem dX7_count_80 : decode cX7_count 80 = .ok (.iconst 0, 1) := by decide +kernel
theorem dX7_count_81 : decode cX7_count 81 = .ok (.istore_n 2, 1) := by decide +kernel
theorem dX7_count_82 : decode cX7_count 82 = .ok (.iconst 0, 1) := by decide +kernel
theorem dX7_count_83 : decode cX7_count 83 = .ok (.istore_n 3, 1) := by decide +kernel
theorem dX7_count_84 : decode cX7_count 84 = .ok (.iload_n 3, 1) := by decide +kernel
theorem dX7_count_85 : decode cX7_count 85 = .ok (.aload_n 0, 1) := by decide +kernel
theorem dX7_count_86 : decode cX7_count 86 = .ok (.getfield 237, 3) := by decide +kernel
theorem dX7_count_89 : decode cX7_count 89 = .ok (.if_icmp .ge 18, 3) := by decide +kernel
theorem dX7_count_92 : decode cX7_count 92 = .ok (.iload_n 2, 1) := by decide +kernel
theorem dX7_count_93 : decode cX7_count 93 = .ok (.aload_n 0, 1) := by decide +kernel
theorem dX7_count_94 : decode cX7_count 94 = .ok (.getfield 59, 3) := by decide +kernel
theorem dX7_count_97 : decode cX7_count 97 = .ok (.iload_n 3, 1) := by decide +kernel
theorem dX7_count_98 : decode cX7_count 98 = .ok (.iaload, 1) := by decide +kernel
theorem dX7_count_99 : decode cX7_count 99 = .ok (.iadd, 1) := by decide +kernel
theorem dX7_count_100 : decode cX7_count 100 = .ok (.istore_n 2, 1) := by decide +kernel
theorem dX7_count_101 : decode cX7_count 101 = .ok (.iinc 3 1, 3) := by decide +kernel
theorem dX7_count_104 : decode cX7_count 104 = .ok (.goto (-20), 3) := by decide +kernel
theorem dX7_count_107 : decode cX7_count 107 = .ok (.iload_n 2, 1) := by decide +kernel
theorem dX7_count_108 : decode cX7_count 108 = .ok (.ireturn, 1) := by decide +kernel
end
section
/-! my kit: one list of words for all methods; a judgement V over locals, stack and cells -/
def ALLW : List Cond := lw_tbl.filter goodWord
theorem aw_in {w : Cond} (h : w ∈ lw_tbl) (g : goodWord w = true) : w ∈ ALLW := List.mem_filter.mpr ⟨h, g⟩
theorem aw_at {w : Cond} (i : Nat) (h : lw_tbl[i]? = some w) (g : goodWord w = true) : w ∈ ALLW := aw_in (List.mem_of_getElem? h) g
theorem aw_good {b : List Cond} (hb : ∀ w ∈ ALLW, w ∈ b) : GoodIn b ALLW := fun w hw => ⟨hb w hw, good_of_word (List.mem_filter.mp hw).2⟩
def tysA (cy : Nat → ClassId) : List (ClassId × FieldType) := [(cy 0, .int), (cy 1, .byte), (cy 2, .long), (cy 3, .object "PlaitBench$Bundle"), (cy 4, .object "PlaitBench$Hat"), (cy 5, .object "PlaitBench$Pattern"), (cy 6, .object "PlaitBench$Score"), (cy 7, .array .int)]
/-- what stays through a method: the machine, the launch, the room, the start, the frame, the classes, which cells may change, how many locals, the end -/
abbrev Fx : Type := Program × Launch × Env × Room × State × MethodId × Array Value × List Frame × Method × Code × va_G × (Nat → ClassId) × (Nat → Prop) × Nat × (State → Prop)
abbrev Gx : Type := Launch × va_G × (Nat → ClassId)
/-- the method's own context: its code cc in the class own, d frames deep, mc cells of ms slots to be made -/
def Cx (X : Fx) (G : Gx) (nL : Nat) (cc : ByteArray) (own : String) (d mc ms : Nat) : Prop := match X with
  | (p, l, _, R, s, m, args, _, meth, c, D, cy, A, nX, _) => p.tables.exec = Jvm.exec ∧ c.code = cc ∧ nX = nL ∧ c.maxLocals = nX ∧ s.vm.findClass own = some m.cls ∧ (∀ w ∈ ALLW, w.before args s = true) ∧ va_K D vwCl (tysA cy) s ∧ (∀ q : Nat, s.heap.size ≤ q → A q) ∧ meth.locks = false ∧ d ≤ R.frames ∧ 35 * d ≤ R.locals ∧ mc ≤ R.cells ∧ ms ≤ R.slots ∧ G.1 = l ∧ G.2.1 = D ∧ G.2.2 = cy
def lh (ls : Array Slot) (nL : Nat) (L : List (Option Value)) : Prop := ls.size = nL ∧ lv_wf ls ∧ ∀ (i : Nat) (v : Value), L[i]? = some (some v) → ls[i]? = some (.val v) ∧ v.category = 1
/-- from here the machine comes to the end that X names -/
def V (X : Fx) (k n pc : Nat) (L : List (Option Value)) (st : List Value) (ws : va_W) : Prop := match X with
  | (p, l, e, R, s, m, args, below, meth, c, D, _, A, nL, Q) => ∀ (H : Heap) (locs : List Loc) (ls : Array Slot), va_P D vwCl ws H → va_D A ws → va_S A s.heap H locs → lh ls nL L → W p l e R s m args below meth c H locs k n Q (F0 m pc ls st)
theorem lh_at {ls : Array Slot} {nL : Nat} {L : List (Option Value)} (h : lh ls nL L) {i : Nat} {v : Value} (hi : L[i]? = some (some v)) : ls[i]? = some (.val v) := (h.2.2 i v hi).1
def lpairs (L : List (Option Value)) : List (Nat × Value) := (List.range L.length).filterMap (fun i => match L[i]? with | some (some v) => some (i, v) | _ => none)
theorem lpairs_in {L : List (Option Value)} {i : Nat} {v : Value} (h : L[i]? = some (some v)) : (i, v) ∈ lpairs L := by
  unfold lpairs
  refine List.mem_filterMap.mpr ⟨i, List.mem_range.mpr (List.getElem?_eq_some_iff.mp h).1, ?_⟩
  rw [h]
theorem lpairs_of {L : List (Option Value)} {q : Nat × Value} (h : q ∈ lpairs L) : L[q.1]? = some (some q.2) := by
  unfold lpairs at h
  obtain ⟨i, -, hi⟩ := List.mem_filterMap.mp h
  cases hL : L[i]? with
  | none => rw [hL] at hi; cases hi
  | some o =>
    cases o with
    | none => rw [hL] at hi; cases hi
    | some v => rw [hL] at hi; cases hi; exact hL
theorem lh_has {ls : Array Slot} {nL : Nat} {L : List (Option Value)} (h : lh ls nL L) : lv_has ls nL (lpairs L) := ⟨h.1, h.2.1, fun _ hq => (h.2.2 _ _ (lpairs_of hq)).1⟩
theorem lh_set {ls ls' : Array Slot} {nL : Nat} {L : List (Option Value)} {i : Nat} {x : Value} (h : lh ls nL L) (hc : x.category = 1) (h' : lv_has ls' nL ((i, x) :: (lpairs L).filter (fun q => !(q.1 == i) && !(q.1 + 1 == i && q.2.category == 2)))) : lh ls' nL (L.set i (some x)) := by
  refine ⟨h'.1, h'.2.1, fun j v hj => ?_⟩
  by_cases e : i = j
  · subst e
    rw [List.getElem?_set_self'] at hj
    cases hq : L[i]? with
    | none => rw [hq] at hj; cases hj
    | some o =>
      rw [hq] at hj
      have hv : x = v := by simpa using hj
      subst hv
      exact ⟨h'.2.2 (i, x) List.mem_cons_self, hc⟩
  · rw [List.getElem?_set_ne e] at hj
    have h2 := (h.2.2 j v hj).2
    refine ⟨h'.2.2 (j, v) (List.mem_cons_of_mem _ (List.mem_filter.mpr ⟨lpairs_in hj, ?_⟩)), h2⟩
    simp [h2, Ne.symm e]
section VR
variable {X : Fx} {G : Gx} {nL : Nat} {cc : ByteArray} {own : String} {d mc ms k n pc : Nat} {L : List (Option Value)} {st : List Value} {ws : va_W}
theorem V.eqL {L' : List (Option Value)} (h : L = L') (kk : V X k n pc L' st ws) : V X k n pc L st ws := h ▸ kk
theorem V.eqW {ws' : va_W} (h : ws = ws') (kk : V X k n pc L st ws') : V X k n pc L st ws := h ▸ kk
theorem V.eqS {st' : List Value} (h : st = st') (kk : V X k n pc L st' ws) : V X k n pc L st ws := h ▸ kk
theorem V.topi {x : Int32} (kk : ∀ y : Int32, y = x → V X k n pc L (.int y :: st) ws) : V X k n pc L (.int x :: st) ws := kk x rfl
theorem V.forget {L' : List (Option Value)} (h : ∀ (i : Nat) (v : Value), L'[i]? = some (some v) → L[i]? = some (some v)) (kk : V X k n pc L' st ws) : V X k n pc L st ws := by
  obtain ⟨p, l, e, R, s, m, args, below, meth, c, D, cy, A, nX, Q⟩ := X
  exact fun H locs ls hP hD hS hl => kk H locs ls hP hD hS ⟨hl.1, hl.2.1, fun i v hi => hl.2.2 i v (h i v hi)⟩
theorem V.widen {k' n' : Nat} (h1 : k ≤ k') (h2 : n ≤ n') (kk : V X k' n' pc L st ws) : V X k n pc L st ws := by
  obtain ⟨p, l, e, R, s, m, args, below, meth, c, D, cy, A, nX, Q⟩ := X
  exact fun H locs ls hP hD hS hl => W.widen h1 h2 (kk H locs ls hP hD hS hl)
/-- the same cells in another order, or fewer -/
theorem V.sub {ws' : va_W} (is : List Nat) (hn : va_nd is = true) (hs : is.map (fun i => ws[i]?) = ws'.map some) (kk : V X k n pc L st ws') : V X k n pc L st ws := by
  obtain ⟨p, l, e, R, s, m, args, below, meth, c, D, cy, A, nX, Q⟩ := X
  refine fun H locs ls hP hD hS hl => kk H locs ls (fun j q hq => ?_) (hD.sub is hn hs) hS hl
  have h1 : (is.map (fun i => ws[i]?))[j]? = some (some q) := by rw [hs, List.getElem?_map, hq]; rfl
  rw [List.getElem?_map] at h1
  cases hi : is[j]? with
  | none => rw [hi] at h1; cases h1
  | some i => rw [hi] at h1; exact hP i q (Option.some.inj h1)
theorem r_iconst (C : Cx X G nL cc own d mc ms) {z : Int} {v : Int32} (hdg : decode cc pc = .ok (.iconst z, 1)) (hv : Int32.ofInt z = v) (kk : V X k n (pc + 1) L (.int v :: st) ws) : V X k n pc L (st) ws := by
  obtain ⟨p, l, e, R, s, m, args, below, meth, c, D, cy, A, nX, Q⟩ := X
  exact fun H locs ls hP hD hS hl => lv_iconst C.1 C.2.1 hdg hv (kk H locs ls hP hD hS hl)
theorem r_bipush (C : Cx X G nL cc own d mc ms) {z : Int} {v : Int32} (hdg : decode cc pc = .ok (.bipush z, 2)) (hv : (Int8.ofInt z).toInt32 = v) (kk : V X k n (pc + 2) L (.int v :: st) ws) : V X k n pc L (st) ws := by
  obtain ⟨p, l, e, R, s, m, args, below, meth, c, D, cy, A, nX, Q⟩ := X
  exact fun H locs ls hP hD hS hl => lv_bipush C.1 C.2.1 hdg hv (kk H locs ls hP hD hS hl)
theorem r_sipush (C : Cx X G nL cc own d mc ms) {z : Int} {v : Int32} (hdg : decode cc pc = .ok (.sipush z, 3)) (hv : (Int16.ofInt z).toInt32 = v) (kk : V X k n (pc + 3) L (.int v :: st) ws) : V X k n pc L (st) ws := by
  obtain ⟨p, l, e, R, s, m, args, below, meth, c, D, cy, A, nX, Q⟩ := X
  exact fun H locs ls hP hD hS hl => lv_sipush C.1 C.2.1 hdg hv (kk H locs ls hP hD hS hl)
theorem r_iload_n (C : Cx X G nL cc own d mc ms) {j : Fin 4} {i : Nat} {x : Int32} (hdg : decode cc pc = .ok (.iload_n j, 1)) (hi : (j : Nat) = i) (hx : L[i]? = some (some (.int x))) (kk : V X k n (pc + 1) L (.int x :: st) ws) : V X k n pc L (st) ws := by
  obtain ⟨p, l, e, R, s, m, args, below, meth, c, D, cy, A, nX, Q⟩ := X
  exact fun H locs ls hP hD hS hl => lv_iload_n C.1 C.2.1 hdg hi (lh_at hl hx) (kk H locs ls hP hD hS hl)
theorem r_iload (C : Cx X G nL cc own d mc ms) {i : Nat} {x : Int32} (hdg : decode cc pc = .ok (.iload i, 2)) (hx : L[i]? = some (some (.int x))) (kk : V X k n (pc + 2) L (.int x :: st) ws) : V X k n pc L (st) ws := by
  obtain ⟨p, l, e, R, s, m, args, below, meth, c, D, cy, A, nX, Q⟩ := X
  exact fun H locs ls hP hD hS hl => lv_iload C.1 C.2.1 hdg (lh_at hl hx) (kk H locs ls hP hD hS hl)
theorem r_istore_n (C : Cx X G nL cc own d mc ms) {j : Fin 4} {i : Nat} {x : Int32} (hdg : decode cc pc = .ok (.istore_n j, 1)) (hi : (j : Nat) = i) (hn : i < nL) (kk : V X k n (pc + 1) (L.set i (some (.int x))) st ws) : V X k n pc L (.int x :: st) ws := by
  obtain ⟨p, l, e, R, s, m, args, below, meth, c, D, cy, A, nX, Q⟩ := X
  exact fun H locs ls hP hD hS hl => lv_istore_n C.1 C.2.1 hdg hi (lh_has hl) (C.2.2.1 ▸ hn) rfl (fun ls1 hl1 => kk H locs ls1 hP hD hS (lh_set hl rfl hl1))
theorem r_istore (C : Cx X G nL cc own d mc ms) {i : Nat} {x : Int32} (hdg : decode cc pc = .ok (.istore i, 2)) (hn : i < nL) (kk : V X k n (pc + 2) (L.set i (some (.int x))) st ws) : V X k n pc L (.int x :: st) ws := by
  obtain ⟨p, l, e, R, s, m, args, below, meth, c, D, cy, A, nX, Q⟩ := X
  exact fun H locs ls hP hD hS hl => lv_istore C.1 C.2.1 hdg (lh_has hl) (C.2.2.1 ▸ hn) rfl (fun ls1 hl1 => kk H locs ls1 hP hD hS (lh_set hl rfl hl1))
theorem r_aload_n (C : Cx X G nL cc own d mc ms) {j : Fin 4} {i : Nat} {x : Nat} (hdg : decode cc pc = .ok (.aload_n j, 1)) (hi : (j : Nat) = i) (hx : L[i]? = some (some (.ref x))) (kk : V X k n (pc + 1) L (.ref x :: st) ws) : V X k n pc L (st) ws := by
  obtain ⟨p, l, e, R, s, m, args, below, meth, c, D, cy, A, nX, Q⟩ := X
  exact fun H locs ls hP hD hS hl => lv_aload_n C.1 C.2.1 hdg hi (lh_at hl hx) (kk H locs ls hP hD hS hl)
theorem r_aload (C : Cx X G nL cc own d mc ms) {i : Nat} {x : Nat} (hdg : decode cc pc = .ok (.aload i, 2)) (hx : L[i]? = some (some (.ref x))) (kk : V X k n (pc + 2) L (.ref x :: st) ws) : V X k n pc L (st) ws := by
  obtain ⟨p, l, e, R, s, m, args, below, meth, c, D, cy, A, nX, Q⟩ := X
  exact fun H locs ls hP hD hS hl => lv_aload C.1 C.2.1 hdg (lh_at hl hx) (kk H locs ls hP hD hS hl)
theorem r_astore_n (C : Cx X G nL cc own d mc ms) {j : Fin 4} {i : Nat} {x : Nat} (hdg : decode cc pc = .ok (.astore_n j, 1)) (hi : (j : Nat) = i) (hn : i < nL) (kk : V X k n (pc + 1) (L.set i (some (.ref x))) st ws) : V X k n pc L (.ref x :: st) ws := by
  obtain ⟨p, l, e, R, s, m, args, below, meth, c, D, cy, A, nX, Q⟩ := X
  exact fun H locs ls hP hD hS hl => lv_astore_n C.1 C.2.1 hdg hi (lh_has hl) (C.2.2.1 ▸ hn) rfl (fun ls1 hl1 => kk H locs ls1 hP hD hS (lh_set hl rfl hl1))
theorem r_astore (C : Cx X G nL cc own d mc ms) {i : Nat} {x : Nat} (hdg : decode cc pc = .ok (.astore i, 2)) (hn : i < nL) (kk : V X k n (pc + 2) (L.set i (some (.ref x))) st ws) : V X k n pc L (.ref x :: st) ws := by
  obtain ⟨p, l, e, R, s, m, args, below, meth, c, D, cy, A, nX, Q⟩ := X
  exact fun H locs ls hP hD hS hl => lv_astore C.1 C.2.1 hdg (lh_has hl) (C.2.2.1 ▸ hn) rfl (fun ls1 hl1 => kk H locs ls1 hP hD hS (lh_set hl rfl hl1))
theorem r_iinc (C : Cx X G nL cc own d mc ms) {i : Nat} {z : Int} {x v : Int32} (hdg : decode cc pc = .ok (.iinc i z, 3)) (hx : L[i]? = some (some (.int x))) (hv : x + Int32.ofInt z = v) (hn : i < nL) (kk : V X k n (pc + 3) (L.set i (some (.int v))) st ws) : V X k n pc L st ws := by
  obtain ⟨p, l, e, R, s, m, args, below, meth, c, D, cy, A, nX, Q⟩ := X
  refine fun H locs ls hP hD hS hl => ?_
  obtain ⟨j, hj⟩ := List.getElem?_of_mem (lpairs_in hx)
  exact lv_iinc C.1 C.2.1 hdg (lh_has hl) hj hv (C.2.2.1 ▸ hn) rfl (fun ls1 hl1 => kk H locs ls1 hP hD hS (lh_set hl rfl hl1))
theorem r_iadd (C : Cx X G nL cc own d mc ms) {x y : Int32} (hdg : decode cc pc = .ok (.iadd, 1)) (kk : V X k n (pc + 1) L (.int (x + y) :: st) ws) : V X k n pc L (.int y :: .int x :: st) ws := by
  obtain ⟨p, l, e, R, s, m, args, below, meth, c, D, cy, A, nX, Q⟩ := X
  exact fun H locs ls hP hD hS hl => lv_iadd C.1 C.2.1 hdg (kk H locs ls hP hD hS hl)
theorem r_isub (C : Cx X G nL cc own d mc ms) {x y : Int32} (hdg : decode cc pc = .ok (.isub, 1)) (kk : V X k n (pc + 1) L (.int (x - y) :: st) ws) : V X k n pc L (.int y :: .int x :: st) ws := by
  obtain ⟨p, l, e, R, s, m, args, below, meth, c, D, cy, A, nX, Q⟩ := X
  exact fun H locs ls hP hD hS hl => lv_isub C.1 C.2.1 hdg (kk H locs ls hP hD hS hl)
theorem r_imul (C : Cx X G nL cc own d mc ms) {x y : Int32} (hdg : decode cc pc = .ok (.imul, 1)) (kk : V X k n (pc + 1) L (.int (x * y) :: st) ws) : V X k n pc L (.int y :: .int x :: st) ws := by
  obtain ⟨p, l, e, R, s, m, args, below, meth, c, D, cy, A, nX, Q⟩ := X
  exact fun H locs ls hP hD hS hl => lv_imul C.1 C.2.1 hdg (kk H locs ls hP hD hS hl)
theorem r_iand (C : Cx X G nL cc own d mc ms) {x y : Int32} (hdg : decode cc pc = .ok (.iand, 1)) (kk : V X k n (pc + 1) L (.int (x &&& y) :: st) ws) : V X k n pc L (.int y :: .int x :: st) ws := by
  obtain ⟨p, l, e, R, s, m, args, below, meth, c, D, cy, A, nX, Q⟩ := X
  exact fun H locs ls hP hD hS hl => lv_iand C.1 C.2.1 hdg (kk H locs ls hP hD hS hl)
theorem r_ior (C : Cx X G nL cc own d mc ms) {x y : Int32} (hdg : decode cc pc = .ok (.ior, 1)) (kk : V X k n (pc + 1) L (.int (x ||| y) :: st) ws) : V X k n pc L (.int y :: .int x :: st) ws := by
  obtain ⟨p, l, e, R, s, m, args, below, meth, c, D, cy, A, nX, Q⟩ := X
  exact fun H locs ls hP hD hS hl => lv_ior C.1 C.2.1 hdg (kk H locs ls hP hD hS hl)
theorem r_ixor (C : Cx X G nL cc own d mc ms) {x y : Int32} (hdg : decode cc pc = .ok (.ixor, 1)) (kk : V X k n (pc + 1) L (.int (x ^^^ y) :: st) ws) : V X k n pc L (.int y :: .int x :: st) ws := by
  obtain ⟨p, l, e, R, s, m, args, below, meth, c, D, cy, A, nX, Q⟩ := X
  exact fun H locs ls hP hD hS hl => lv_ixor C.1 C.2.1 hdg (kk H locs ls hP hD hS hl)
theorem r_idiv (C : Cx X G nL cc own d mc ms) {x y : Int32} (hdg : decode cc pc = .ok (.idiv, 1)) (hne : ¬ y = 0) (kk : V X k n (pc + 1) L (.int (x / y) :: st) ws) : V X k n pc L (.int y :: .int x :: st) ws := by
  obtain ⟨p, l, e, R, s, m, args, below, meth, c, D, cy, A, nX, Q⟩ := X
  exact fun H locs ls hP hD hS hl => lv_idiv C.1 C.2.1 hdg hne (kk H locs ls hP hD hS hl)
theorem r_irem (C : Cx X G nL cc own d mc ms) {x y : Int32} (hdg : decode cc pc = .ok (.irem, 1)) (hne : ¬ y = 0) (kk : V X k n (pc + 1) L (.int (x - x / y * y) :: st) ws) : V X k n pc L (.int y :: .int x :: st) ws := by
  obtain ⟨p, l, e, R, s, m, args, below, meth, c, D, cy, A, nX, Q⟩ := X
  exact fun H locs ls hP hD hS hl => lv_irem C.1 C.2.1 hdg hne (kk H locs ls hP hD hS hl)
theorem r_ineg (C : Cx X G nL cc own d mc ms) {x : Int32} (hdg : decode cc pc = .ok (.ineg, 1)) (kk : V X k n (pc + 1) L (.int (-x) :: st) ws) : V X k n pc L (.int x :: st) ws := by
  obtain ⟨p, l, e, R, s, m, args, below, meth, c, D, cy, A, nX, Q⟩ := X
  exact fun H locs ls hP hD hS hl => lv_ineg C.1 C.2.1 hdg (kk H locs ls hP hD hS hl)
theorem r_ishl (C : Cx X G nL cc own d mc ms) {x y : Int32} (hdg : decode cc pc = .ok (.ishl, 1)) (kk : V X k n (pc + 1) L (.int (x <<< (y &&& 31)) :: st) ws) : V X k n pc L (.int y :: .int x :: st) ws := by
  obtain ⟨p, l, e, R, s, m, args, below, meth, c, D, cy, A, nX, Q⟩ := X
  exact fun H locs ls hP hD hS hl => lv_ishl C.1 C.2.1 hdg (kk H locs ls hP hD hS hl)
theorem r_ishr (C : Cx X G nL cc own d mc ms) {x y : Int32} (hdg : decode cc pc = .ok (.ishr, 1)) (kk : V X k n (pc + 1) L (.int (x >>> (y &&& 31)) :: st) ws) : V X k n pc L (.int y :: .int x :: st) ws := by
  obtain ⟨p, l, e, R, s, m, args, below, meth, c, D, cy, A, nX, Q⟩ := X
  exact fun H locs ls hP hD hS hl => lv_ishr C.1 C.2.1 hdg (kk H locs ls hP hD hS hl)
theorem r_i2b (C : Cx X G nL cc own d mc ms) {x : Int32} (hdg : decode cc pc = .ok (.i2b, 1)) (kk : V X k n (pc + 1) L (.int (x.toInt8.toInt32) :: st) ws) : V X k n pc L (.int x :: st) ws := by
  obtain ⟨p, l, e, R, s, m, args, below, meth, c, D, cy, A, nX, Q⟩ := X
  exact fun H locs ls hP hD hS hl => lv_i2b C.1 C.2.1 hdg rfl (kk H locs ls hP hD hS hl)
theorem r_dup (C : Cx X G nL cc own d mc ms) {va : Value} (hdg : decode cc pc = .ok (.dup, 1)) (hva : va.category = 1) (kk : V X k n (pc + 1) L (va :: va :: st) ws) : V X k n pc L (va :: st) ws := by
  obtain ⟨p, l, e, R, s, m, args, below, meth, c, D, cy, A, nX, Q⟩ := X
  exact fun H locs ls hP hD hS hl => lv_dup C.1 C.2.1 hdg hva (kk H locs ls hP hD hS hl)
theorem r_pop (C : Cx X G nL cc own d mc ms) {va : Value} (hdg : decode cc pc = .ok (.pop, 1)) (hva : va.category = 1) (kk : V X k n (pc + 1) L (st) ws) : V X k n pc L (va :: st) ws := by
  obtain ⟨p, l, e, R, s, m, args, below, meth, c, D, cy, A, nX, Q⟩ := X
  exact fun H locs ls hP hD hS hl => lv_pop C.1 C.2.1 hdg hva (kk H locs ls hP hD hS hl)
theorem r_dup_x1 (C : Cx X G nL cc own d mc ms) {va vb : Value} (hdg : decode cc pc = .ok (.dup_x1, 1)) (hva : va.category = 1) (hvb : vb.category = 1) (kk : V X k n (pc + 1) L (va :: vb :: va :: st) ws) : V X k n pc L (va :: vb :: st) ws := by
  obtain ⟨p, l, e, R, s, m, args, below, meth, c, D, cy, A, nX, Q⟩ := X
  exact fun H locs ls hP hD hS hl => lv_dup_x1 C.1 C.2.1 hdg hva hvb (kk H locs ls hP hD hS hl)
theorem r_dup2 (C : Cx X G nL cc own d mc ms) {va vb : Value} (hdg : decode cc pc = .ok (.dup2, 1)) (hva : va.category = 1) (hvb : vb.category = 1) (kk : V X k n (pc + 1) L (va :: vb :: va :: vb :: st) ws) : V X k n pc L (va :: vb :: st) ws := by
  obtain ⟨p, l, e, R, s, m, args, below, meth, c, D, cy, A, nX, Q⟩ := X
  exact fun H locs ls hP hD hS hl => lv_dup2_11 C.1 C.2.1 hdg hva hvb (kk H locs ls hP hD hS hl)
theorem r_if_eq (C : Cx X G nL cc own d mc ms) {x : Int32} {off : Int} {tgt : Nat} (hdg : decode cc pc = .ok (.ifCond .eq off, 3)) (ht : (pc : Int) + off = (tgt : Int)) (kt : x = 0 → V X k n tgt L st ws) (kf : ¬ (x = 0) → V X k n (pc + 3) L st ws) : V X k n pc L (.int x :: st) ws := by
  obtain ⟨p, l, e, R, s, m, args, below, meth, c, D, cy, A, nX, Q⟩ := X
  exact fun H locs ls hP hD hS hl => lv_if_eq C.1 C.2.1 hdg ht (fun h => kt h H locs ls hP hD hS hl) (fun h => kf h H locs ls hP hD hS hl)
theorem r_icmp_eq (C : Cx X G nL cc own d mc ms) {x y : Int32} {off : Int} {tgt : Nat} (hdg : decode cc pc = .ok (.if_icmp .eq off, 3)) (ht : (pc : Int) + off = (tgt : Int)) (kt : x = y → V X k n tgt L st ws) (kf : ¬ (x = y) → V X k n (pc + 3) L st ws) : V X k n pc L (.int y :: .int x :: st) ws := by
  obtain ⟨p, l, e, R, s, m, args, below, meth, c, D, cy, A, nX, Q⟩ := X
  exact fun H locs ls hP hD hS hl => lv_icmp_eq C.1 C.2.1 hdg ht (fun h => kt h H locs ls hP hD hS hl) (fun h => kf h H locs ls hP hD hS hl)
theorem r_if_ne (C : Cx X G nL cc own d mc ms) {x : Int32} {off : Int} {tgt : Nat} (hdg : decode cc pc = .ok (.ifCond .ne off, 3)) (ht : (pc : Int) + off = (tgt : Int)) (kt : ¬ x = 0 → V X k n tgt L st ws) (kf : x = 0 → V X k n (pc + 3) L st ws) : V X k n pc L (.int x :: st) ws := by
  obtain ⟨p, l, e, R, s, m, args, below, meth, c, D, cy, A, nX, Q⟩ := X
  exact fun H locs ls hP hD hS hl => lv_if_ne C.1 C.2.1 hdg ht (fun h => kt h H locs ls hP hD hS hl) (fun h => kf h H locs ls hP hD hS hl)
theorem r_icmp_ne (C : Cx X G nL cc own d mc ms) {x y : Int32} {off : Int} {tgt : Nat} (hdg : decode cc pc = .ok (.if_icmp .ne off, 3)) (ht : (pc : Int) + off = (tgt : Int)) (kt : ¬ x = y → V X k n tgt L st ws) (kf : x = y → V X k n (pc + 3) L st ws) : V X k n pc L (.int y :: .int x :: st) ws := by
  obtain ⟨p, l, e, R, s, m, args, below, meth, c, D, cy, A, nX, Q⟩ := X
  exact fun H locs ls hP hD hS hl => lv_icmp_ne C.1 C.2.1 hdg ht (fun h => kt h H locs ls hP hD hS hl) (fun h => kf h H locs ls hP hD hS hl)
theorem r_if_lt (C : Cx X G nL cc own d mc ms) {x : Int32} {off : Int} {tgt : Nat} (hdg : decode cc pc = .ok (.ifCond .lt off, 3)) (ht : (pc : Int) + off = (tgt : Int)) (kt : x < 0 → V X k n tgt L st ws) (kf : ¬ (x < 0) → V X k n (pc + 3) L st ws) : V X k n pc L (.int x :: st) ws := by
  obtain ⟨p, l, e, R, s, m, args, below, meth, c, D, cy, A, nX, Q⟩ := X
  exact fun H locs ls hP hD hS hl => lv_if_lt C.1 C.2.1 hdg ht (fun h => kt h H locs ls hP hD hS hl) (fun h => kf h H locs ls hP hD hS hl)
theorem r_icmp_lt (C : Cx X G nL cc own d mc ms) {x y : Int32} {off : Int} {tgt : Nat} (hdg : decode cc pc = .ok (.if_icmp .lt off, 3)) (ht : (pc : Int) + off = (tgt : Int)) (kt : x < y → V X k n tgt L st ws) (kf : ¬ (x < y) → V X k n (pc + 3) L st ws) : V X k n pc L (.int y :: .int x :: st) ws := by
  obtain ⟨p, l, e, R, s, m, args, below, meth, c, D, cy, A, nX, Q⟩ := X
  exact fun H locs ls hP hD hS hl => lv_icmp_lt C.1 C.2.1 hdg ht (fun h => kt h H locs ls hP hD hS hl) (fun h => kf h H locs ls hP hD hS hl)
theorem r_if_ge (C : Cx X G nL cc own d mc ms) {x : Int32} {off : Int} {tgt : Nat} (hdg : decode cc pc = .ok (.ifCond .ge off, 3)) (ht : (pc : Int) + off = (tgt : Int)) (kt : 0 ≤ x → V X k n tgt L st ws) (kf : ¬ (0 ≤ x) → V X k n (pc + 3) L st ws) : V X k n pc L (.int x :: st) ws := by
  obtain ⟨p, l, e, R, s, m, args, below, meth, c, D, cy, A, nX, Q⟩ := X
  exact fun H locs ls hP hD hS hl => lv_if_ge C.1 C.2.1 hdg ht (fun h => kt h H locs ls hP hD hS hl) (fun h => kf h H locs ls hP hD hS hl)
theorem r_icmp_ge (C : Cx X G nL cc own d mc ms) {x y : Int32} {off : Int} {tgt : Nat} (hdg : decode cc pc = .ok (.if_icmp .ge off, 3)) (ht : (pc : Int) + off = (tgt : Int)) (kt : y ≤ x → V X k n tgt L st ws) (kf : ¬ (y ≤ x) → V X k n (pc + 3) L st ws) : V X k n pc L (.int y :: .int x :: st) ws := by
  obtain ⟨p, l, e, R, s, m, args, below, meth, c, D, cy, A, nX, Q⟩ := X
  exact fun H locs ls hP hD hS hl => lv_icmp_ge C.1 C.2.1 hdg ht (fun h => kt h H locs ls hP hD hS hl) (fun h => kf h H locs ls hP hD hS hl)
theorem r_if_gt (C : Cx X G nL cc own d mc ms) {x : Int32} {off : Int} {tgt : Nat} (hdg : decode cc pc = .ok (.ifCond .gt off, 3)) (ht : (pc : Int) + off = (tgt : Int)) (kt : 0 < x → V X k n tgt L st ws) (kf : ¬ (0 < x) → V X k n (pc + 3) L st ws) : V X k n pc L (.int x :: st) ws := by
  obtain ⟨p, l, e, R, s, m, args, below, meth, c, D, cy, A, nX, Q⟩ := X
  exact fun H locs ls hP hD hS hl => lv_if_gt C.1 C.2.1 hdg ht (fun h => kt h H locs ls hP hD hS hl) (fun h => kf h H locs ls hP hD hS hl)
theorem r_icmp_gt (C : Cx X G nL cc own d mc ms) {x y : Int32} {off : Int} {tgt : Nat} (hdg : decode cc pc = .ok (.if_icmp .gt off, 3)) (ht : (pc : Int) + off = (tgt : Int)) (kt : y < x → V X k n tgt L st ws) (kf : ¬ (y < x) → V X k n (pc + 3) L st ws) : V X k n pc L (.int y :: .int x :: st) ws := by
  obtain ⟨p, l, e, R, s, m, args, below, meth, c, D, cy, A, nX, Q⟩ := X
  exact fun H locs ls hP hD hS hl => lv_icmp_gt C.1 C.2.1 hdg ht (fun h => kt h H locs ls hP hD hS hl) (fun h => kf h H locs ls hP hD hS hl)
theorem r_if_le (C : Cx X G nL cc own d mc ms) {x : Int32} {off : Int} {tgt : Nat} (hdg : decode cc pc = .ok (.ifCond .le off, 3)) (ht : (pc : Int) + off = (tgt : Int)) (kt : x ≤ 0 → V X k n tgt L st ws) (kf : ¬ (x ≤ 0) → V X k n (pc + 3) L st ws) : V X k n pc L (.int x :: st) ws := by
  obtain ⟨p, l, e, R, s, m, args, below, meth, c, D, cy, A, nX, Q⟩ := X
  exact fun H locs ls hP hD hS hl => lv_if_le C.1 C.2.1 hdg ht (fun h => kt h H locs ls hP hD hS hl) (fun h => kf h H locs ls hP hD hS hl)
theorem r_icmp_le (C : Cx X G nL cc own d mc ms) {x y : Int32} {off : Int} {tgt : Nat} (hdg : decode cc pc = .ok (.if_icmp .le off, 3)) (ht : (pc : Int) + off = (tgt : Int)) (kt : x ≤ y → V X k n tgt L st ws) (kf : ¬ (x ≤ y) → V X k n (pc + 3) L st ws) : V X k n pc L (.int y :: .int x :: st) ws := by
  obtain ⟨p, l, e, R, s, m, args, below, meth, c, D, cy, A, nX, Q⟩ := X
  exact fun H locs ls hP hD hS hl => lv_icmp_le C.1 C.2.1 hdg ht (fun h => kt h H locs ls hP hD hS hl) (fun h => kf h H locs ls hP hD hS hl)
theorem r_goto (C : Cx X G nL cc own d mc ms) {off : Int} {tgt : Nat} (hdg : decode cc pc = .ok (.goto off, 3)) (ht : (pc : Int) + off = (tgt : Int)) (kk : V X k n tgt L st ws) : V X k n pc L st ws := by
  obtain ⟨p, l, e, R, s, m, args, below, meth, c, D, cy, A, nX, Q⟩ := X
  exact fun H locs ls hP hD hS hl => lv_goto C.1 C.2.1 hdg ht (kk H locs ls hP hD hS hl)
end VR
end
section
/-! contracts, calls, fields and arrays, over V -/
def ent (avs : List Value) (nL : Nat) : List (Option Value) := avs.map some ++ List.replicate (nL - avs.length) none
def Pre (G : Gx) (avs : List Value) (ws : va_W) (sz : Nat) : Array Value → State → Prop := va_Pc avs (fun U => U.heap.size = sz ∧ va_P G.2.1 vwCl ws U.heap ∧ va_K G.2.1 vwCl (tysA G.2.2) U ∧ va_D (fun _ => True) ws)
def Wd (G : Gx) (A : Nat → Prop) (ws : va_W) (t : State) : Prop := va_P G.2.1 vwCl ws t.heap ∧ va_K G.2.1 vwCl (tysA G.2.2) t ∧ va_D A ws
/-- the contract of a method that answers an int (or a truth): from the cells ws, with these arguments -/
def CI (G : Gx) (y : MethodName) (b : ByteArray) (nL : Nat) (rt : FieldType) (d mc ms : Nat) (avs : List Value) (ws : va_W) {S : Type} (post : Int32 → S → Prop) (wo : S → va_W) : Prop :=
  ∀ sz : Nat, Met G.1 y (.code y b nL (some rt) :: ALLW) ({ frames := d, cells := mc, slots := ms, locals := 35 * d } : Room) (Pre G avs ws sz) (va_Qi post (fun u t => Wd G (va_A ws sz) (wo u) t) (va_A ws sz)) mc ms (va_A ws sz)
/-- .. that answers nothing -/
def CV (G : Gx) (y : MethodName) (b : ByteArray) (nL : Nat) (d mc ms : Nat) (avs : List Value) (ws : va_W) {S : Type} (post : S → Prop) (wo : S → va_W) : Prop :=
  ∀ sz : Nat, Met G.1 y (.code y b nL none :: ALLW) ({ frames := d, cells := mc, slots := ms, locals := 35 * d } : Room) (Pre G avs ws sz) (va_Qv post (fun u t => Wd G (va_A ws sz) (wo u) t) (va_A ws sz)) mc ms (va_A ws sz)
def RI (X : Fx) (cc : ByteArray) (rt : FieldType) (mc ms : Nat) {S : Type} (post : Int32 → S → Prop) (wo : S → va_W) : Prop :=
  ∀ (k n pc : Nat) (L : List (Option Value)) (v : Int32) (u : S), k ≤ mc → n ≤ ms → narrow rt (.int v) = .int v → post v u → decode cc pc = .ok (.ireturn, 1) → V X k n pc L [.int v] (wo u)
def RV (X : Fx) (cc : ByteArray) (mc ms : Nat) {S : Type} (post : S → Prop) (wo : S → va_W) : Prop :=
  ∀ (k n pc : Nat) (L : List (Option Value)) (u : S), k ≤ mc → n ≤ ms → post u → decode cc pc = .ok (.return_, 1) → V X k n pc L [] (wo u)
theorem ent_sl {avs : List Value} (h : ∀ v ∈ avs, v.category = 1) : lg_sl avs = avs.map Slot.val := by
  unfold lg_sl
  induction avs with
  | nil => rfl
  | cons v vs ih =>
    rw [List.flatMap_cons, ih (fun w hw => h w (List.mem_cons_of_mem _ hw)), h v List.mem_cons_self]
    rfl
theorem ent_lh {avs : List Value} {nL : Nat} (h : ∀ v ∈ avs, v.category = 1) (hn : avs.length ≤ nL) : lh ((lg_sl avs ++ List.replicate (nL - (lg_sl avs).length) Slot.unset).toArray) nL (ent avs nL) := by
  have hs := ent_sl h
  have hl : (lg_sl avs).length ≤ nL := by rw [hs, List.length_map]; exact hn
  have he := lv_entry avs hl
  refine ⟨he.1, he.2.1, fun i v hi => ?_⟩
  unfold ent at hi
  by_cases hlt : i < avs.length
  · rw [List.getElem?_append_left (by rw [List.length_map]; exact hlt), List.getElem?_map] at hi
    have hv : avs[i]? = some v := by
      cases hq : avs[i]? with
      | none => rw [hq] at hi; cases hi
      | some w => rw [hq] at hi; simpa using hi
    refine ⟨?_, h v (List.mem_of_getElem? hv)⟩
    rw [hs, List.getElem?_toArray, List.getElem?_append_left (by rw [List.length_map]; exact hlt), List.getElem?_map, hv]
    rfl
  · rw [List.getElem?_append_right (by rw [List.length_map]; omega), List.getElem?_replicate] at hi
    split at hi
    · cases hi
    · cases hi
theorem CI.intro {G : Gx} {y : MethodName} {b : ByteArray} {nL : Nat} {rt : FieldType} {d mc ms : Nat} {avs : List Value} {ws : va_W} {S : Type} {post : Int32 → S → Prop} {wo : S → va_W} (hy : plainName y.cls = true) (hn : avs.length ≤ nL) (hc : ∀ v ∈ avs, v.category = 1)
    (body : ∀ X : Fx, Cx X G nL b y.cls d mc ms → RI X b rt mc ms post wo → V X 0 0 0 (ent avs nL) [] ws) : CI G y b nL rt d mc ms avs ws post wo := by
  intro sz
  refine Met.ofW (cc := b) (maxL := nL) (ret := some rt) hy rfl ?_
  intro p e s m args below meth c s₁ B hml hv
  obtain ⟨rfl, hsz, hP, hK, hD0⟩ := hv
  have hts := atoms_spec (ws := (.code y b nL (some rt) :: ALLW)) B.pre
  have hown : s.vm.findClass y.cls = some m.cls := findClass_of_methodNamed B.named
  have hlocks := B.notSynchronized
  have hr := B.returns
  have hb := B.bytes
  have hx := B.exec
  subst hsz
  rw [lg_entry_eq]
  refine body (p, G.1, e, _, s, m, _, below, meth, c, G.2.1, G.2.2, va_A ws s.heap.size, nL, _) ⟨hx, hb, rfl, hml, hown, fun w hw => hts w (List.mem_cons_of_mem _ hw), hK, fun q h => Or.inr h, hlocks, Nat.le_refl _, Nat.le_refl _, Nat.le_refl _, Nat.le_refl _, rfl, rfl, rfl⟩ ?_ s.heap [] _ hP hD0.self va_S.rf (ent_lh hc hn)
  intro k n pc L v u hk hn' hnar hp hdg H locs ls hP hD hS hl
  refine W.widen hk hn' ?_
  exact W.zret (v := v) (ty := rt) hx hb hr hnar (fun t ht hW => ⟨⟨v, u, rfl, hp, by rw [ht]; exact hP, va_K.moved hW.alike hK, hD⟩, hS.F ht⟩) hS.2.2 hdg
theorem CV.intro {G : Gx} {y : MethodName} {b : ByteArray} {nL : Nat} {d mc ms : Nat} {avs : List Value} {ws : va_W} {S : Type} {post : S → Prop} {wo : S → va_W} (hy : plainName y.cls = true) (hn : avs.length ≤ nL) (hc : ∀ v ∈ avs, v.category = 1)
    (body : ∀ X : Fx, Cx X G nL b y.cls d mc ms → RV X b mc ms post wo → V X 0 0 0 (ent avs nL) [] ws) : CV G y b nL d mc ms avs ws post wo := by
  intro sz
  refine Met.ofW (cc := b) (maxL := nL) (ret := none) hy rfl ?_
  intro p e s m args below meth c s₁ B hml hv
  obtain ⟨rfl, hsz, hP, hK, hD0⟩ := hv
  have hts := atoms_spec (ws := (.code y b nL none :: ALLW)) B.pre
  have hown : s.vm.findClass y.cls = some m.cls := findClass_of_methodNamed B.named
  have hlocks := B.notSynchronized
  have hr := B.returns
  have hb := B.bytes
  have hx := B.exec
  subst hsz
  rw [lg_entry_eq]
  refine body (p, G.1, e, _, s, m, _, below, meth, c, G.2.1, G.2.2, va_A ws s.heap.size, nL, _) ⟨hx, hb, rfl, hml, hown, fun w hw => hts w (List.mem_cons_of_mem _ hw), hK, fun q h => Or.inr h, hlocks, Nat.le_refl _, Nat.le_refl _, Nat.le_refl _, Nat.le_refl _, rfl, rfl, rfl⟩ ?_ s.heap [] _ hP hD0.self va_S.rf (ent_lh hc hn)
  intro k n pc L u hk hn' hp hdg H locs ls hP hD hS hl
  refine W.widen hk hn' ?_
  exact W.vret hx hb hr (fun t ht hW => ⟨⟨u, rfl, hp, by rw [ht]; exact hP, va_K.moved hW.alike hK, hD⟩, hS.F ht⟩) hS.2.2 hdg
/-- the words of a call, all among ALLW -/
def KV (own : String) (idx : Nat) (y : MethodName) (b : ByteArray) (nL : Nat) (ret : Option FieldType) (np : Nat) : Prop :=
  Cond.methodLink own idx y ∈ ALLW ∧ Cond.instanceMethod y ∈ ALLW ∧ Cond.selects y.cls y y ∈ ALLW ∧ Cond.initialized y.cls ∈ ALLW ∧ Cond.code y b nL ret ∈ ALLW ∧ (y.cls = y.cls ∧ y.cls ≠ "java/lang/invoke/MethodHandle" ∧ y.cls ≠ "java/lang/invoke/VarHandle" ∧ (parseMethodDescriptor y.desc).map (fun d => d.parameters.length) = some np) ∧ nL ≤ 16
def KS (own : String) (idx : Nat) (y : MethodName) (b : ByteArray) (nL : Nat) (ret : Option FieldType) (np : Nat) : Prop :=
  Cond.methodLink own idx y ∈ ALLW ∧ Cond.static y ∈ ALLW ∧ Cond.initialized own ∈ ALLW ∧ Cond.code y b nL ret ∈ ALLW ∧ (y.cls = own ∧ y.cls ≠ "java/lang/invoke/MethodHandle" ∧ y.cls ≠ "java/lang/invoke/VarHandle" ∧ (parseMethodDescriptor y.desc).map (fun d => d.parameters.length) = some np) ∧ nL ≤ 16
theorem KV.good {own : String} {idx : Nat} {y : MethodName} {b : ByteArray} {nL : Nat} {ret : Option FieldType} {np : Nat} (h : KV own idx y b nL ret np) : GoodIn ALLW (wsV own idx y.cls y (.code y b nL ret :: ALLW)) := by
  have g : GoodIn ALLW ALLW := aw_good (fun _ h => h)
  intro w hw
  unfold wsV at hw
  rcases List.mem_append.mp hw with q | q
  · simp only [List.mem_cons, List.not_mem_nil, or_false] at q
    rcases q with q | q | q | q
    · exact q ▸ g _ h.1
    · exact q ▸ g _ h.2.1
    · exact q ▸ g _ h.2.2.1
    · exact q ▸ g _ h.2.2.2.1
  · rcases List.mem_cons.mp q with q | q
    · exact q ▸ g _ h.2.2.2.2.1
    · exact g _ q
theorem KS.good {own : String} {idx : Nat} {y : MethodName} {b : ByteArray} {nL : Nat} {ret : Option FieldType} {np : Nat} (h : KS own idx y b nL ret np) : GoodIn ALLW (wsS own idx y (.code y b nL ret :: ALLW)) := by
  have g : GoodIn ALLW ALLW := aw_good (fun _ h => h)
  intro w hw
  unfold wsS at hw
  rcases List.mem_append.mp hw with q | q
  · simp only [List.mem_cons, List.not_mem_nil, or_false] at q
    rcases q with q | q | q
    · exact q ▸ g _ h.1
    · exact q ▸ g _ h.2.1
    · exact q ▸ g _ h.2.2.1
  · rcases List.mem_cons.mp q with q | q
    · exact q ▸ g _ h.2.2.2.1
    · exact g _ q
theorem map_filter_some {ws wc : va_W} {is : List Nat} (h : is.map (fun i => ws[i]?) = wc.map some) : is.filterMap (fun i => ws[i]?) = wc := by
  have h2 : (is.map (fun i => ws[i]?)).filterMap id = (wc.map some).filterMap id := by rw [h]
  rw [List.filterMap_map, List.filterMap_map] at h2
  simpa [Function.comp_def] using h2
section VC
variable {X : Fx} {G : Gx} {nL : Nat} {cc : ByteArray} {own : String} {d mc ms k n pc : Nat} {L : List (Option Value)} {st : List Value} {ws : va_W}
theorem r_callVi (C : Cx X G nL cc own d mc ms) {y : MethodName} {b : ByteArray} {nL' idx np : Nat} {rt : FieldType} {d' mc' ms' a : Nat} {As : List Value} {wc wr : va_W} {S : Type} {post : Int32 → S → Prop} {wo : S → va_W} (hM : CI G y b nL' rt d' mc' ms' (.ref a :: As) wc post wo) (hI : KV own idx y b nL' (some rt) np) (hdg : decode cc pc = .ok (.invokevirtual idx, 3)) (hnp : As.length = np) (hd : d' + 1 ≤ d) (hk : k + mc' ≤ mc) (hn : n + ms' ≤ ms) (hst : (st.map fun v => v.category).sum ≤ 8) (q0 : Nat) {ci : Nat} {cq : vw_C} {fs : List Value} (he : wc[q0]? = some (a, .inr (ci, fs))) (hci : vwCl[ci]? = some cq) (hcq : cq.1 = y.cls) (isC isR : List Nat) (hnC : va_nd isC = true) (hC : isC.map (fun i => ws[i]?) = wc.map some) (hR : isR.map (fun i => ws[i]?) = wr.map some) (hnR : va_nd isR = true) (hdis : ∀ i ∈ isR, i ∉ isC)
    {st0 : List Value} (hs0 : st0 = As.reverse ++ .ref a :: st) (kk : ∀ (r : Int32) (u : S), post r u → V X (k + mc') (n + ms') (pc + 3) L (.int r :: st) (wr ++ wo u)) : V X k n pc L st0 ws := by
  subst hs0
  obtain ⟨p, l, e, R, s, m, args, below, meth, c, D, cy, A, nX, Q⟩ := X
  obtain ⟨hx, hb, rfl, hml, hown, hts, hK, hA, hlocks, hfr, hlo, hce, hsl, hG1, hG2, hG3⟩ := C
  obtain ⟨l', D', cy'⟩ := G
  dsimp only at hG1 hG2 hG3
  subst hG1; subst hG2; subst hG3
  intro H locs ls hP hD hS hl
  have hPc := hP.sub isC (map_filter_some hC)
  have hDc := hD.sub isC hnC hC
  have hFc := va_free (wc := wc) hD hS hA isC hC
  have h16 := hI.2.2.2.2.2.2
  refine va_calli (va_runV (As := As) (rest := st) (Ts := ALLW) ⟨hx, hb, hml, hown, hts⟩ (hM H.size) (cwV np hts hI.good rfl rfl rfl hI.2.2.2.2.2.1 ⟨by show d' + 1 ≤ _; omega, by show _ + 35 * d' ≤ _; omega⟩) ⟨fun a U g mk q => ?_, ?_, fun U hU hW => ⟨rfl, by rw [hU], by rw [hU]; exact hPc, va_K.moved hW.alike hK, hDc.weaken (fun _ _ _ _ => trivial)⟩⟩ rfl hnp hl.1 rfl (lv_room hst) hdg ⟨by omega, by omega⟩) hS (fun q _ h => hFc q h) hFc (fun r u t H1 locs1 ht hvm hw hB hz1 hk1 hS1 => ?_)
  · obtain ⟨q0, q1, qP, qK, qD⟩ := q
    exact ⟨q0, q1, qP, va_K.moved (u := U) (U := U.calling g mk a) (Vm.Alike.refl U.vm) qK, qD⟩
  · have hrc := va_recv hK hPc (q := cq) hci he
    rw [hcq] at hrc
    exact hrc
  · obtain ⟨hP1, hK1, hD1⟩ := hB
    rw [ht] at hP1
    obtain ⟨hP2, hD2⟩ := va_join (wr := wr) (w1 := wo u) hP hD isC isR hC hR hnR hdis hk1 hFc hP1 hD1
    exact kk r u hw H1 locs1 ls hP2 hD2 hS1 hl
theorem r_callVv (C : Cx X G nL cc own d mc ms) {y : MethodName} {b : ByteArray} {nL' idx np : Nat} {d' mc' ms' a : Nat} {As : List Value} {wc wr : va_W} {S : Type} {post : S → Prop} {wo : S → va_W} (hM : CV G y b nL' d' mc' ms' (.ref a :: As) wc post wo) (hI : KV own idx y b nL' none np) (hdg : decode cc pc = .ok (.invokevirtual idx, 3)) (hnp : As.length = np) (hd : d' + 1 ≤ d) (hk : k + mc' ≤ mc) (hn : n + ms' ≤ ms) (hst : (st.map fun v => v.category).sum ≤ 8) (q0 : Nat) {ci : Nat} {cq : vw_C} {fs : List Value} (he : wc[q0]? = some (a, .inr (ci, fs))) (hci : vwCl[ci]? = some cq) (hcq : cq.1 = y.cls) (isC isR : List Nat) (hnC : va_nd isC = true) (hC : isC.map (fun i => ws[i]?) = wc.map some) (hR : isR.map (fun i => ws[i]?) = wr.map some) (hnR : va_nd isR = true) (hdis : ∀ i ∈ isR, i ∉ isC)
    {st0 : List Value} (hs0 : st0 = As.reverse ++ .ref a :: st) (kk : ∀ (u : S), post u → V X (k + mc') (n + ms') (pc + 3) L st (wr ++ wo u)) : V X k n pc L st0 ws := by
  subst hs0
  obtain ⟨p, l, e, R, s, m, args, below, meth, c, D, cy, A, nX, Q⟩ := X
  obtain ⟨hx, hb, rfl, hml, hown, hts, hK, hA, hlocks, hfr, hlo, hce, hsl, hG1, hG2, hG3⟩ := C
  obtain ⟨l', D', cy'⟩ := G
  dsimp only at hG1 hG2 hG3
  subst hG1; subst hG2; subst hG3
  intro H locs ls hP hD hS hl
  have hPc := hP.sub isC (map_filter_some hC)
  have hDc := hD.sub isC hnC hC
  have hFc := va_free (wc := wc) hD hS hA isC hC
  have h16 := hI.2.2.2.2.2.2
  refine va_callv (va_runV (As := As) (rest := st) (Ts := ALLW) ⟨hx, hb, hml, hown, hts⟩ (hM H.size) (cwV np hts hI.good rfl rfl rfl hI.2.2.2.2.2.1 ⟨by show d' + 1 ≤ _; omega, by show _ + 35 * d' ≤ _; omega⟩) ⟨fun a U g mk q => ?_, ?_, fun U hU hW => ⟨rfl, by rw [hU], by rw [hU]; exact hPc, va_K.moved hW.alike hK, hDc.weaken (fun _ _ _ _ => trivial)⟩⟩ rfl hnp hl.1 rfl (lv_room hst) hdg ⟨by omega, by omega⟩) hS (fun q _ h => hFc q h) hFc (fun u t H1 locs1 ht hvm hw hB hz1 hk1 hS1 => ?_)
  · obtain ⟨q0, q1, qP, qK, qD⟩ := q
    exact ⟨q0, q1, qP, va_K.moved (u := U) (U := U.calling g mk a) (Vm.Alike.refl U.vm) qK, qD⟩
  · have hrc := va_recv hK hPc (q := cq) hci he
    rw [hcq] at hrc
    exact hrc
  · obtain ⟨hP1, hK1, hD1⟩ := hB
    rw [ht] at hP1
    obtain ⟨hP2, hD2⟩ := va_join (wr := wr) (w1 := wo u) hP hD isC isR hC hR hnR hdis hk1 hFc hP1 hD1
    exact kk u hw H1 locs1 ls hP2 hD2 hS1 hl
theorem r_callSi (C : Cx X G nL cc own d mc ms) {y : MethodName} {b : ByteArray} {nL' idx np : Nat} {rt : FieldType} {d' mc' ms' : Nat} {As : List Value} {wc wr : va_W} {S : Type} {post : Int32 → S → Prop} {wo : S → va_W} (hM : CI G y b nL' rt d' mc' ms' As wc post wo) (hI : KS own idx y b nL' (some rt) np) (hdg : decode cc pc = .ok (.invokestatic idx, 3)) (hnp : As.length = np) (hd : d' + 1 ≤ d) (hk : k + mc' ≤ mc) (hn : n + ms' ≤ ms) (hst : (st.map fun v => v.category).sum ≤ 8) (isC isR : List Nat) (hnC : va_nd isC = true) (hC : isC.map (fun i => ws[i]?) = wc.map some) (hR : isR.map (fun i => ws[i]?) = wr.map some) (hnR : va_nd isR = true) (hdis : ∀ i ∈ isR, i ∉ isC)
    {st0 : List Value} (hs0 : st0 = As.reverse ++ st) (kk : ∀ (r : Int32) (u : S), post r u → V X (k + mc') (n + ms') (pc + 3) L (.int r :: st) (wr ++ wo u)) : V X k n pc L st0 ws := by
  subst hs0
  obtain ⟨p, l, e, R, s, m, args, below, meth, c, D, cy, A, nX, Q⟩ := X
  obtain ⟨hx, hb, rfl, hml, hown, hts, hK, hA, hlocks, hfr, hlo, hce, hsl, hG1, hG2, hG3⟩ := C
  obtain ⟨l', D', cy'⟩ := G
  dsimp only at hG1 hG2 hG3
  subst hG1; subst hG2; subst hG3
  intro H locs ls hP hD hS hl
  have hPc := hP.sub isC (map_filter_some hC)
  have hDc := hD.sub isC hnC hC
  have hFc := va_free (wc := wc) hD hS hA isC hC
  have h16 := hI.2.2.2.2.2
  refine va_calli (va_runS (As := As) (rest := st) (Ts := ALLW) ⟨hx, hb, hml, hown, hts⟩ (hM H.size) (cwS np hts hI.good rfl rfl rfl hI.2.2.2.2.1 ⟨by show d' + 1 ≤ _; omega, by show _ + 35 * d' ≤ _; omega⟩) ⟨fun a U g mk q => ?_, fun U hU hW => ⟨rfl, by rw [hU], by rw [hU]; exact hPc, va_K.moved hW.alike hK, hDc.weaken (fun _ _ _ _ => trivial)⟩⟩ rfl hnp hl.1 rfl (lv_room hst) hdg ⟨by omega, by omega⟩) hS (fun q _ h => hFc q h) hFc (fun r u t H1 locs1 ht hvm hw hB hz1 hk1 hS1 => ?_)
  · obtain ⟨q0, q1, qP, qK, qD⟩ := q
    exact ⟨q0, q1, qP, va_K.moved (u := U) (U := U.calling g mk a) (Vm.Alike.refl U.vm) qK, qD⟩
  · obtain ⟨hP1, hK1, hD1⟩ := hB
    rw [ht] at hP1
    obtain ⟨hP2, hD2⟩ := va_join (wr := wr) (w1 := wo u) hP hD isC isR hC hR hnR hdis hk1 hFc hP1 hD1
    exact kk r u hw H1 locs1 ls hP2 hD2 hS1 hl
/-- a field is read -/
theorem r_get (C : Cx X G nL cc own d mc ms) {ci N idx a : Nat} {Cn : String} {T : u_T} {fs : List Value} {v : Value} (q0 j : Nat) (he : ws[q0]? = some (a, .inr (ci, fs))) (hc : vwCl[ci]? = some (Cn, T, N)) (hin : ∀ w ∈ u_ws Cn T N, w ∈ ALLW) (hj : j < N) (hl : Cond.fieldLink own idx (T j).1 (T j).2.1 (T j).2.2.1 ∈ ALLW) (hv : fs[j]? = some v) (hdg : decode cc pc = .ok (.getfield idx, 3)) (kk : V X k n (pc + 3) L (v :: st) ws) : V X k n pc L (.ref a :: st) ws := by
  obtain ⟨p, l, e, R, s, m, args, below, meth, c, D, cy, A, nX, Q⟩ := X
  obtain ⟨hx, hb, rfl, hml, hown, hts, hK, -⟩ := C
  exact fun H locs ls hP hD hS hl' => va_get hx hb hts hin hown hK hP q0 he hc j hj (hts _ hl) (fun _ h => h) hv hdg (kk H locs ls hP hD hS hl')
/-- a field that isn't final is written -/
theorem r_put (C : Cx X G nL cc own d mc ms) {ci N idx a : Nat} {Cn : String} {T : u_T} {fs : List Value} {v : Value} {ty0 : Nat → FieldType} {ty : FieldType} {ws' : va_W} (q0 j : Nat) (he : ws[q0]? = some (a, .inr (ci, fs))) (hc : vwCl[ci]? = some (Cn, T, N)) (hin : ∀ w ∈ u_ws Cn T N, w ∈ ALLW) (hty : ∀ k, k < N → parseFieldDescriptor (T k).2.2.1 = some (ty0 k)) (hnm : ∀ a, a < N → ∀ b, b < N → a ≠ b → (T a).2.1 ≠ (T b).2.1) (hj : j < N) (hl : Cond.fieldLink own idx (T j).1 (T j).2.1 (T j).2.2.1 ∈ ALLW) (hfin : (T j).2.2.2 = false) (htj : ty0 j = ty) (hnar : narrow ty v = v) (hfit : fits ty v = true) (hlen : j < fs.length) (hw : ws.set q0 (a, .inr (ci, fs.set j v)) = ws') (hdg : decode cc pc = .ok (.putfield idx, 3)) (kk : V X k n (pc + 3) L st ws') : V X k n pc L (v :: .ref a :: st) ws := by
  obtain ⟨p, l, e, R, s, m, args, below, meth, c, D, cy, A, nX, Q⟩ := X
  obtain ⟨hx, hb, rfl, hml, hown, hts, hK, -⟩ := C
  subst htj; subst hw
  exact fun H locs ls hP hD hS hl' => va_put hx hb hts hin ty0 hty hnm hown hK hP hD hS q0 he hc j hj (hts _ hl) (fun _ h => h) hfin (hty j hj) hnar hfit hlen hdg (fun H1 locs1 hP1 hD1 hS1 => kk H1 locs1 ls hP1 hD1 hS1 hl')
/-- an int array is read, is written -/
theorem r_iald (C : Cx X G nL cc own d mc ms) {a N : Nat} {f : Nat → Int32} {i : Int32} (q0 : Nat) (he : ws[q0]? = some (a, .inl (G.2.2 0, N, .inl f))) (hin : vp_in i N) (hdg : decode cc pc = .ok (.iaload, 1)) (kk : V X k n (pc + 1) L (.int (f i.toNatClampNeg) :: st) ws) : V X k n pc L (.int i :: .ref a :: st) ws := by
  obtain ⟨p, l, e, R, s, m, args, below, meth, c, D, cy, A, nX, Q⟩ := X
  obtain ⟨hx, hb, rfl, hml, hown, hts, hK, hA, hlocks, hfr, hlo, hce, hsl, hG1, hG2, hG3⟩ := C
  exact fun H locs ls hP hD hS hl => va_iald hx hb hK hP q0 0 he (by rw [hG3]; rfl) hin hdg (kk H locs ls hP hD hS hl)
theorem r_iast (C : Cx X G nL cc own d mc ms) {a N : Nat} {f : Nat → Int32} {i x : Int32} {ws' : va_W} (q0 : Nat) (he : ws[q0]? = some (a, .inl (G.2.2 0, N, .inl f))) (hin : vp_in i N) (hw : ws.set q0 (a, .inl (G.2.2 0, N, .inl (upd f i.toNatClampNeg x))) = ws') (hdg : decode cc pc = .ok (.iastore, 1)) (kk : V X k n (pc + 1) L st ws') : V X k n pc L (.int x :: .int i :: .ref a :: st) ws := by
  obtain ⟨p, l, e, R, s, m, args, below, meth, c, D, cy, A, nX, Q⟩ := X
  obtain ⟨hx, hb, rfl, hml, hown, hts, hK, hA, hlocks, hfr, hlo, hce, hsl, hG1, hG2, hG3⟩ := C
  subst hw
  exact fun H locs ls hP hD hS hl => va_iast hx hb hK hP hD hS q0 0 he (by rw [hG3]; rfl) hin hdg (fun H1 locs1 hP1 hD1 hS1 => kk H1 locs1 ls hP1 hD1 hS1 hl)
end VC
end
section
/-! switches from 0 on -/
section VS
variable {X : Fx} {G : Gx} {nL : Nat} {cc : ByteArray} {own : String} {d mc ms k n pc : Nat} {L : List (Option Value)} {st : List Value} {ws : va_W}
theorem r_tab (C : Cx X G nL cc own d mc ms) {dflt hi : Int} {offs : Array Int} {len : Nat} {x : Int32} (hdg : decode cc pc = .ok (.tableswitch dflt 0 hi offs, len)) (hsz : hi + 1 = (offs.size : Int)) (hsm : offs.size < 1000) (hin : ∀ (i : Nat) (off : Int), offs[i]? = some off → x = nI i → ∃ tgt : Nat, (pc : Int) + off = (tgt : Int) ∧ V X k n tgt L st ws) (hout : (∀ i : Nat, i < offs.size → x ≠ nI i) → ∃ tgt : Nat, (pc : Int) + dflt = (tgt : Int) ∧ V X k n tgt L st ws) : V X k n pc L (.int x :: st) ws := by
  obtain ⟨p, l, e, R, s, m, args, below, meth, c, D, cy, A, nX, Q⟩ := X
  intro H locs ls hP hD hS hl
  by_cases h1 : x.toInt < 0
  · obtain ⟨tgt, ht, hv⟩ := hout (fun i hi e => by rw [e, nI_toInt (by omega)] at h1; omega)
    exact lv_tableOut C.1 C.2.1 hdg (Or.inl h1) ht (hv H locs ls hP hD hS hl)
  · by_cases h2 : hi < x.toInt
    · obtain ⟨tgt, ht, hv⟩ := hout (fun i hi' e => by rw [e, nI_toInt (by omega)] at h2; omega)
      exact lv_tableOut C.1 C.2.1 hdg (Or.inr h2) ht (hv H locs ls hP hD hS hl)
    · have hlt : (x.toInt - 0).toNat < offs.size := by omega
      have hx : x = nI (x.toInt - 0).toNat := by
        apply Int32.toInt_inj.mp
        rw [nI_toInt (by omega)]
        omega
      obtain ⟨tgt, ht, hv⟩ := hin (x.toInt - 0).toNat (offs[(x.toInt - 0).toNat]) (by rw [Array.getElem?_eq_getElem hlt]) hx
      exact lv_tableIn C.1 C.2.1 hdg h1 h2 (by rw [Array.getElem?_eq_getElem hlt]) ht (hv H locs ls hP hD hS hl)
end VS
end
section
/-! the reference: its object h, its arrays at ad; M its numbers, R its rows, both by the fields' places -/
def mF (ad : Nat → Nat) (M : Nat → Int32) : List Value := [.int (M 0), .ref (ad 1), .int (M 2), .int (M 3), .int (M 4), .ref (ad 5), .ref (ad 6), .ref (ad 7), .int (M 8), .int (M 9), .int (M 10), .ref (ad 11), .int (M 12), .ref (ad 13), .ref (ad 14), .int (M 15), .int (M 16), .int (M 17), .ref (ad 18), .int (M 19), .int (M 20), .ref (ad 21), .ref (ad 22), .int (M 23), .int (M 24), .ref (ad 25), .ref (ad 26), .ref (ad 27), .int (M 28), .int (M 29), .int (M 30), .ref (ad 31), .ref (ad 32), .ref (ad 33), .ref (ad 34), .ref (ad 35), .ref (ad 36), .ref (ad 37), .ref (ad 38), .ref (ad 39), .ref (ad 40), .ref (ad 41), .ref (ad 42), .ref (ad 43), .ref (ad 44)]
def mR (c : ClassId) (ad : Nat → Nat) (R : Nat → Nat → Int32) : va_W := [(ad 1, .inl (c, 800, .inl (R 1))), (ad 5, .inl (c, 8, .inl (R 5))), (ad 6, .inl (c, 8, .inl (R 6))), (ad 7, .inl (c, 2400, .inl (R 7))), (ad 11, .inl (c, 300, .inl (R 11))), (ad 13, .inl (c, 9, .inl (R 13))), (ad 14, .inl (c, 9, .inl (R 14))), (ad 18, .inl (c, 4808, .inl (R 18))), (ad 21, .inl (c, 8, .inl (R 21))), (ad 22, .inl (c, 4808, .inl (R 22))), (ad 25, .inl (c, 8, .inl (R 25))), (ad 26, .inl (c, 8, .inl (R 26))), (ad 27, .inl (c, 300, .inl (R 27))), (ad 31, .inl (c, 40, .inl (R 31))), (ad 32, .inl (c, 40, .inl (R 32))), (ad 33, .inl (c, 40, .inl (R 33))), (ad 34, .inl (c, 60, .inl (R 34))), (ad 35, .inl (c, 60, .inl (R 35))), (ad 36, .inl (c, 60, .inl (R 36))), (ad 37, .inl (c, 60, .inl (R 37))), (ad 38, .inl (c, 60, .inl (R 38))), (ad 39, .inl (c, 60, .inl (R 39))), (ad 40, .inl (c, 60, .inl (R 40))), (ad 41, .inl (c, 60, .inl (R 41))), (ad 42, .inl (c, 60, .inl (R 42))), (ad 43, .inl (c, 8, .inl (R 43))), (ad 44, .inl (c, 8, .inl (R 44)))]
def mW (G : Gx) (h : Nat) (ad : Nat → Nat) (M : Nat → Int32) (R : Nat → Nat → Int32) : va_W := (h, .inr (7, mF ad M)) :: mR (G.2.2 0) ad R
theorem inM : ∀ w ∈ u_ws RX7 TX7 45, w ∈ ALLW := by
  intro w hw
  exact aw_in ((show ∀ w ∈ u_ws RX7 TX7 45, w ∈ lw_tbl by decide +kernel) w hw) ((show ∀ w ∈ u_ws RX7 TX7 45, goodWord w = true by decide +kernel) w hw)
section MW
variable {X : Fx} {G : Gx} {nL : Nat} {cc : ByteArray} {d mc ms k n pc : Nat} {L : List (Option Value)} {st : List Value} {h : Nat} {ad : Nat → Nat} {M : Nat → Int32} {R : Nat → Nat → Int32}
theorem lkM_thrown : Cond.fieldLink RX7 95 (TX7 0).1 (TX7 0).2.1 (TX7 0).2.2.1 ∈ ALLW := aw_at 822 (by decide +kernel) rfl
theorem mg_thrown (C : Cx X G nL cc RX7 d mc ms) (hdg : decode cc pc = .ok (.getfield 95, 3)) (kk : V X k n (pc + 3) L (.int (M 0) :: st) (mW G h ad M R)) : V X k n pc L (.ref h :: st) (mW G h ad M R) := r_get C 0 0 rfl rfl inM (by decide) lkM_thrown rfl hdg kk
theorem mp_thrown (C : Cx X G nL cc RX7 d mc ms) {v : Int32} (hdg : decode cc pc = .ok (.putfield 95, 3)) (kk : V X k n (pc + 3) L st (mW G h ad (va_up M 0 v) R)) : V X k n pc L (.int v :: .ref h :: st) (mW G h ad M R) := r_put C 0 0 rfl rfl inM tyX7_ok nmX7 (by decide) lkM_thrown rfl (ty := .int) rfl rfl rfl (by show 0 < 45; decide) rfl hdg kk
theorem lkM_tape : Cond.fieldLink RX7 7 (TX7 1).1 (TX7 1).2.1 (TX7 1).2.2.1 ∈ ALLW := aw_at 823 (by decide +kernel) rfl
theorem mg_tape (C : Cx X G nL cc RX7 d mc ms) (hdg : decode cc pc = .ok (.getfield 7, 3)) (kk : V X k n (pc + 3) L (.ref (ad 1) :: st) (mW G h ad M R)) : V X k n pc L (.ref h :: st) (mW G h ad M R) := r_get C 0 1 rfl rfl inM (by decide) lkM_tape rfl hdg kk
theorem ml_tape (C : Cx X G nL cc RX7 d mc ms) {i : Int32} (hdg : decode cc pc = .ok (.iaload, 1)) (hin : vp_in i 800) (kk : V X k n (pc + 1) L (.int (R 1 i.toNatClampNeg) :: st) (mW G h ad M R)) : V X k n pc L (.int i :: .ref (ad 1) :: st) (mW G h ad M R) := r_iald C 1 rfl hin hdg kk
theorem ms_tape (C : Cx X G nL cc RX7 d mc ms) {i x : Int32} (hdg : decode cc pc = .ok (.iastore, 1)) (hin : vp_in i 800) (kk : V X k n (pc + 1) L st (mW G h ad M (va_up R 1 (upd (R 1) i.toNatClampNeg x)))) : V X k n pc L (.int x :: .int i :: .ref (ad 1) :: st) (mW G h ad M R) := r_iast C 1 rfl hin rfl hdg kk
theorem lkM_taped : Cond.fieldLink RX7 98 (TX7 2).1 (TX7 2).2.1 (TX7 2).2.2.1 ∈ ALLW := aw_at 824 (by decide +kernel) rfl
theorem mg_taped (C : Cx X G nL cc RX7 d mc ms) (hdg : decode cc pc = .ok (.getfield 98, 3)) (kk : V X k n (pc + 3) L (.int (M 2) :: st) (mW G h ad M R)) : V X k n pc L (.ref h :: st) (mW G h ad M R) := r_get C 0 2 rfl rfl inM (by decide) lkM_taped rfl hdg kk
theorem mp_taped (C : Cx X G nL cc RX7 d mc ms) {v : Int32} (hdg : decode cc pc = .ok (.putfield 98, 3)) (kk : V X k n (pc + 3) L st (mW G h ad (va_up M 2 v) R)) : V X k n pc L (.int v :: .ref h :: st) (mW G h ad M R) := r_put C 0 2 rfl rfl inM tyX7_ok nmX7 (by decide) lkM_taped rfl (ty := .int) rfl rfl rfl (by show 2 < 45; decide) rfl hdg kk
theorem lkM_faultKind : Cond.fieldLink RX7 105 (TX7 3).1 (TX7 3).2.1 (TX7 3).2.2.1 ∈ ALLW := aw_at 825 (by decide +kernel) rfl
theorem mg_faultKind (C : Cx X G nL cc RX7 d mc ms) (hdg : decode cc pc = .ok (.getfield 105, 3)) (kk : V X k n (pc + 3) L (.int (M 3) :: st) (mW G h ad M R)) : V X k n pc L (.ref h :: st) (mW G h ad M R) := r_get C 0 3 rfl rfl inM (by decide) lkM_faultKind rfl hdg kk
theorem mp_faultKind (C : Cx X G nL cc RX7 d mc ms) {v : Int32} (hdg : decode cc pc = .ok (.putfield 105, 3)) (kk : V X k n (pc + 3) L st (mW G h ad (va_up M 3 v) R)) : V X k n pc L (.int v :: .ref h :: st) (mW G h ad M R) := r_put C 0 3 rfl rfl inM tyX7_ok nmX7 (by decide) lkM_faultKind rfl (ty := .int) rfl rfl rfl (by show 3 < 45; decide) rfl hdg kk
theorem lkM_faultPlace : Cond.fieldLink RX7 13 (TX7 4).1 (TX7 4).2.1 (TX7 4).2.2.1 ∈ ALLW := aw_at 826 (by decide +kernel) rfl
theorem mg_faultPlace (C : Cx X G nL cc RX7 d mc ms) (hdg : decode cc pc = .ok (.getfield 13, 3)) (kk : V X k n (pc + 3) L (.int (M 4) :: st) (mW G h ad M R)) : V X k n pc L (.ref h :: st) (mW G h ad M R) := r_get C 0 4 rfl rfl inM (by decide) lkM_faultPlace rfl hdg kk
theorem mp_faultPlace (C : Cx X G nL cc RX7 d mc ms) {v : Int32} (hdg : decode cc pc = .ok (.putfield 13, 3)) (kk : V X k n (pc + 3) L st (mW G h ad (va_up M 4 v) R)) : V X k n pc L (.int v :: .ref h :: st) (mW G h ad M R) := r_put C 0 4 rfl rfl inM tyX7_ok nmX7 (by decide) lkM_faultPlace rfl (ty := .int) rfl rfl rfl (by show 4 < 45; decide) rfl hdg kk
theorem lkM_straws : Cond.fieldLink RX7 17 (TX7 5).1 (TX7 5).2.1 (TX7 5).2.2.1 ∈ ALLW := aw_at 827 (by decide +kernel) rfl
theorem mg_straws (C : Cx X G nL cc RX7 d mc ms) (hdg : decode cc pc = .ok (.getfield 17, 3)) (kk : V X k n (pc + 3) L (.ref (ad 5) :: st) (mW G h ad M R)) : V X k n pc L (.ref h :: st) (mW G h ad M R) := r_get C 0 5 rfl rfl inM (by decide) lkM_straws rfl hdg kk
theorem ml_straws (C : Cx X G nL cc RX7 d mc ms) {i : Int32} (hdg : decode cc pc = .ok (.iaload, 1)) (hin : vp_in i 8) (kk : V X k n (pc + 1) L (.int (R 5 i.toNatClampNeg) :: st) (mW G h ad M R)) : V X k n pc L (.int i :: .ref (ad 5) :: st) (mW G h ad M R) := r_iald C 2 rfl hin hdg kk
theorem ms_straws (C : Cx X G nL cc RX7 d mc ms) {i x : Int32} (hdg : decode cc pc = .ok (.iastore, 1)) (hin : vp_in i 8) (kk : V X k n (pc + 1) L st (mW G h ad M (va_up R 5 (upd (R 5) i.toNatClampNeg x)))) : V X k n pc L (.int x :: .int i :: .ref (ad 5) :: st) (mW G h ad M R) := r_iast C 2 rfl hin rfl hdg kk
theorem lkM_sizes : Cond.fieldLink RX7 20 (TX7 6).1 (TX7 6).2.1 (TX7 6).2.2.1 ∈ ALLW := aw_at 828 (by decide +kernel) rfl
theorem mg_sizes (C : Cx X G nL cc RX7 d mc ms) (hdg : decode cc pc = .ok (.getfield 20, 3)) (kk : V X k n (pc + 3) L (.ref (ad 6) :: st) (mW G h ad M R)) : V X k n pc L (.ref h :: st) (mW G h ad M R) := r_get C 0 6 rfl rfl inM (by decide) lkM_sizes rfl hdg kk
theorem ml_sizes (C : Cx X G nL cc RX7 d mc ms) {i : Int32} (hdg : decode cc pc = .ok (.iaload, 1)) (hin : vp_in i 8) (kk : V X k n (pc + 1) L (.int (R 6 i.toNatClampNeg) :: st) (mW G h ad M R)) : V X k n pc L (.int i :: .ref (ad 6) :: st) (mW G h ad M R) := r_iald C 3 rfl hin hdg kk
theorem ms_sizes (C : Cx X G nL cc RX7 d mc ms) {i x : Int32} (hdg : decode cc pc = .ok (.iastore, 1)) (hin : vp_in i 8) (kk : V X k n (pc + 1) L st (mW G h ad M (va_up R 6 (upd (R 6) i.toNatClampNeg x)))) : V X k n pc L (.int x :: .int i :: .ref (ad 6) :: st) (mW G h ad M R) := r_iast C 3 rfl hin rfl hdg kk
theorem lkM_rows : Cond.fieldLink RX7 23 (TX7 7).1 (TX7 7).2.1 (TX7 7).2.2.1 ∈ ALLW := aw_at 829 (by decide +kernel) rfl
theorem mg_rows (C : Cx X G nL cc RX7 d mc ms) (hdg : decode cc pc = .ok (.getfield 23, 3)) (kk : V X k n (pc + 3) L (.ref (ad 7) :: st) (mW G h ad M R)) : V X k n pc L (.ref h :: st) (mW G h ad M R) := r_get C 0 7 rfl rfl inM (by decide) lkM_rows rfl hdg kk
theorem ml_rows (C : Cx X G nL cc RX7 d mc ms) {i : Int32} (hdg : decode cc pc = .ok (.iaload, 1)) (hin : vp_in i 2400) (kk : V X k n (pc + 1) L (.int (R 7 i.toNatClampNeg) :: st) (mW G h ad M R)) : V X k n pc L (.int i :: .ref (ad 7) :: st) (mW G h ad M R) := r_iald C 4 rfl hin hdg kk
theorem ms_rows (C : Cx X G nL cc RX7 d mc ms) {i x : Int32} (hdg : decode cc pc = .ok (.iastore, 1)) (hin : vp_in i 2400) (kk : V X k n (pc + 1) L st (mW G h ad M (va_up R 7 (upd (R 7) i.toNatClampNeg x)))) : V X k n pc L (.int x :: .int i :: .ref (ad 7) :: st) (mW G h ad M R) := r_iast C 4 rfl hin rfl hdg kk
theorem lkM_end : Cond.fieldLink RX7 111 (TX7 8).1 (TX7 8).2.1 (TX7 8).2.2.1 ∈ ALLW := aw_at 830 (by decide +kernel) rfl
theorem mg_end (C : Cx X G nL cc RX7 d mc ms) (hdg : decode cc pc = .ok (.getfield 111, 3)) (kk : V X k n (pc + 3) L (.int (M 8) :: st) (mW G h ad M R)) : V X k n pc L (.ref h :: st) (mW G h ad M R) := r_get C 0 8 rfl rfl inM (by decide) lkM_end rfl hdg kk
theorem mp_end (C : Cx X G nL cc RX7 d mc ms) {v : Int32} (hdg : decode cc pc = .ok (.putfield 111, 3)) (kk : V X k n (pc + 3) L st (mW G h ad (va_up M 8 v) R)) : V X k n pc L (.int v :: .ref h :: st) (mW G h ad M R) := r_put C 0 8 rfl rfl inM tyX7_ok nmX7 (by decide) lkM_end rfl (ty := .int) rfl rfl rfl (by show 8 < 45; decide) rfl hdg kk
theorem lkM_at : Cond.fieldLink RX7 108 (TX7 9).1 (TX7 9).2.1 (TX7 9).2.2.1 ∈ ALLW := aw_at 831 (by decide +kernel) rfl
theorem mg_at (C : Cx X G nL cc RX7 d mc ms) (hdg : decode cc pc = .ok (.getfield 108, 3)) (kk : V X k n (pc + 3) L (.int (M 9) :: st) (mW G h ad M R)) : V X k n pc L (.ref h :: st) (mW G h ad M R) := r_get C 0 9 rfl rfl inM (by decide) lkM_at rfl hdg kk
theorem mp_at (C : Cx X G nL cc RX7 d mc ms) {v : Int32} (hdg : decode cc pc = .ok (.putfield 108, 3)) (kk : V X k n (pc + 3) L st (mW G h ad (va_up M 9 v) R)) : V X k n pc L (.int v :: .ref h :: st) (mW G h ad M R) := r_put C 0 9 rfl rfl inM tyX7_ok nmX7 (by decide) lkM_at rfl (ty := .int) rfl rfl rfl (by show 9 < 45; decide) rfl hdg kk
theorem lkM_n : Cond.fieldLink RX7 138 (TX7 10).1 (TX7 10).2.1 (TX7 10).2.2.1 ∈ ALLW := aw_at 832 (by decide +kernel) rfl
theorem mg_n (C : Cx X G nL cc RX7 d mc ms) (hdg : decode cc pc = .ok (.getfield 138, 3)) (kk : V X k n (pc + 3) L (.int (M 10) :: st) (mW G h ad M R)) : V X k n pc L (.ref h :: st) (mW G h ad M R) := r_get C 0 10 rfl rfl inM (by decide) lkM_n rfl hdg kk
theorem mp_n (C : Cx X G nL cc RX7 d mc ms) {v : Int32} (hdg : decode cc pc = .ok (.putfield 138, 3)) (kk : V X k n (pc + 3) L st (mW G h ad (va_up M 10 v) R)) : V X k n pc L (.int v :: .ref h :: st) (mW G h ad M R) := r_put C 0 10 rfl rfl inM tyX7_ok nmX7 (by decide) lkM_n rfl (ty := .int) rfl rfl rfl (by show 10 < 45; decide) rfl hdg kk
theorem lkM_made : Cond.fieldLink RX7 26 (TX7 11).1 (TX7 11).2.1 (TX7 11).2.2.1 ∈ ALLW := aw_at 833 (by decide +kernel) rfl
theorem mg_made (C : Cx X G nL cc RX7 d mc ms) (hdg : decode cc pc = .ok (.getfield 26, 3)) (kk : V X k n (pc + 3) L (.ref (ad 11) :: st) (mW G h ad M R)) : V X k n pc L (.ref h :: st) (mW G h ad M R) := r_get C 0 11 rfl rfl inM (by decide) lkM_made rfl hdg kk
theorem ml_made (C : Cx X G nL cc RX7 d mc ms) {i : Int32} (hdg : decode cc pc = .ok (.iaload, 1)) (hin : vp_in i 300) (kk : V X k n (pc + 1) L (.int (R 11 i.toNatClampNeg) :: st) (mW G h ad M R)) : V X k n pc L (.int i :: .ref (ad 11) :: st) (mW G h ad M R) := r_iald C 5 rfl hin hdg kk
theorem ms_made (C : Cx X G nL cc RX7 d mc ms) {i x : Int32} (hdg : decode cc pc = .ok (.iastore, 1)) (hin : vp_in i 300) (kk : V X k n (pc + 1) L st (mW G h ad M (va_up R 11 (upd (R 11) i.toNatClampNeg x)))) : V X k n pc L (.int x :: .int i :: .ref (ad 11) :: st) (mW G h ad M R) := r_iast C 5 rfl hin rfl hdg kk
theorem lkM_many : Cond.fieldLink RX7 135 (TX7 12).1 (TX7 12).2.1 (TX7 12).2.2.1 ∈ ALLW := aw_at 834 (by decide +kernel) rfl
theorem mg_many (C : Cx X G nL cc RX7 d mc ms) (hdg : decode cc pc = .ok (.getfield 135, 3)) (kk : V X k n (pc + 3) L (.int (M 12) :: st) (mW G h ad M R)) : V X k n pc L (.ref h :: st) (mW G h ad M R) := r_get C 0 12 rfl rfl inM (by decide) lkM_many rfl hdg kk
theorem mp_many (C : Cx X G nL cc RX7 d mc ms) {v : Int32} (hdg : decode cc pc = .ok (.putfield 135, 3)) (kk : V X k n (pc + 3) L st (mW G h ad (va_up M 12 v) R)) : V X k n pc L (.int v :: .ref h :: st) (mW G h ad M R) := r_put C 0 12 rfl rfl inM tyX7_ok nmX7 (by decide) lkM_many rfl (ty := .int) rfl rfl rfl (by show 12 < 45; decide) rfl hdg kk
theorem lkM_openKind : Cond.fieldLink RX7 29 (TX7 13).1 (TX7 13).2.1 (TX7 13).2.2.1 ∈ ALLW := aw_at 835 (by decide +kernel) rfl
theorem mg_openKind (C : Cx X G nL cc RX7 d mc ms) (hdg : decode cc pc = .ok (.getfield 29, 3)) (kk : V X k n (pc + 3) L (.ref (ad 13) :: st) (mW G h ad M R)) : V X k n pc L (.ref h :: st) (mW G h ad M R) := r_get C 0 13 rfl rfl inM (by decide) lkM_openKind rfl hdg kk
theorem ml_openKind (C : Cx X G nL cc RX7 d mc ms) {i : Int32} (hdg : decode cc pc = .ok (.iaload, 1)) (hin : vp_in i 9) (kk : V X k n (pc + 1) L (.int (R 13 i.toNatClampNeg) :: st) (mW G h ad M R)) : V X k n pc L (.int i :: .ref (ad 13) :: st) (mW G h ad M R) := r_iald C 6 rfl hin hdg kk
theorem ms_openKind (C : Cx X G nL cc RX7 d mc ms) {i x : Int32} (hdg : decode cc pc = .ok (.iastore, 1)) (hin : vp_in i 9) (kk : V X k n (pc + 1) L st (mW G h ad M (va_up R 13 (upd (R 13) i.toNatClampNeg x)))) : V X k n pc L (.int x :: .int i :: .ref (ad 13) :: st) (mW G h ad M R) := r_iast C 6 rfl hin rfl hdg kk
theorem lkM_openFrom : Cond.fieldLink RX7 32 (TX7 14).1 (TX7 14).2.1 (TX7 14).2.2.1 ∈ ALLW := aw_at 836 (by decide +kernel) rfl
theorem mg_openFrom (C : Cx X G nL cc RX7 d mc ms) (hdg : decode cc pc = .ok (.getfield 32, 3)) (kk : V X k n (pc + 3) L (.ref (ad 14) :: st) (mW G h ad M R)) : V X k n pc L (.ref h :: st) (mW G h ad M R) := r_get C 0 14 rfl rfl inM (by decide) lkM_openFrom rfl hdg kk
theorem ml_openFrom (C : Cx X G nL cc RX7 d mc ms) {i : Int32} (hdg : decode cc pc = .ok (.iaload, 1)) (hin : vp_in i 9) (kk : V X k n (pc + 1) L (.int (R 14 i.toNatClampNeg) :: st) (mW G h ad M R)) : V X k n pc L (.int i :: .ref (ad 14) :: st) (mW G h ad M R) := r_iald C 7 rfl hin hdg kk
theorem ms_openFrom (C : Cx X G nL cc RX7 d mc ms) {i x : Int32} (hdg : decode cc pc = .ok (.iastore, 1)) (hin : vp_in i 9) (kk : V X k n (pc + 1) L st (mW G h ad M (va_up R 14 (upd (R 14) i.toNatClampNeg x)))) : V X k n pc L (.int x :: .int i :: .ref (ad 14) :: st) (mW G h ad M R) := r_iast C 7 rfl hin rfl hdg kk
theorem lkM_deep : Cond.fieldLink RX7 128 (TX7 15).1 (TX7 15).2.1 (TX7 15).2.2.1 ∈ ALLW := aw_at 837 (by decide +kernel) rfl
theorem mg_deep (C : Cx X G nL cc RX7 d mc ms) (hdg : decode cc pc = .ok (.getfield 128, 3)) (kk : V X k n (pc + 3) L (.int (M 15) :: st) (mW G h ad M R)) : V X k n pc L (.ref h :: st) (mW G h ad M R) := r_get C 0 15 rfl rfl inM (by decide) lkM_deep rfl hdg kk
theorem mp_deep (C : Cx X G nL cc RX7 d mc ms) {v : Int32} (hdg : decode cc pc = .ok (.putfield 128, 3)) (kk : V X k n (pc + 3) L st (mW G h ad (va_up M 15 v) R)) : V X k n pc L (.int v :: .ref h :: st) (mW G h ad M R) := r_put C 0 15 rfl rfl inM tyX7_ok nmX7 (by decide) lkM_deep rfl (ty := .int) rfl rfl rfl (by show 15 < 45; decide) rfl hdg kk
theorem lkM_numberAt : Cond.fieldLink RX7 114 (TX7 16).1 (TX7 16).2.1 (TX7 16).2.2.1 ∈ ALLW := aw_at 838 (by decide +kernel) rfl
theorem mg_numberAt (C : Cx X G nL cc RX7 d mc ms) (hdg : decode cc pc = .ok (.getfield 114, 3)) (kk : V X k n (pc + 3) L (.int (M 16) :: st) (mW G h ad M R)) : V X k n pc L (.ref h :: st) (mW G h ad M R) := r_get C 0 16 rfl rfl inM (by decide) lkM_numberAt rfl hdg kk
theorem mp_numberAt (C : Cx X G nL cc RX7 d mc ms) {v : Int32} (hdg : decode cc pc = .ok (.putfield 114, 3)) (kk : V X k n (pc + 3) L st (mW G h ad (va_up M 16 v) R)) : V X k n pc L (.int v :: .ref h :: st) (mW G h ad M R) := r_put C 0 16 rfl rfl inM tyX7_ok nmX7 (by decide) lkM_numberAt rfl (ty := .int) rfl rfl rfl (by show 16 < 45; decide) rfl hdg kk
theorem lkM_digits : Cond.fieldLink RX7 117 (TX7 17).1 (TX7 17).2.1 (TX7 17).2.2.1 ∈ ALLW := aw_at 839 (by decide +kernel) rfl
theorem mg_digits (C : Cx X G nL cc RX7 d mc ms) (hdg : decode cc pc = .ok (.getfield 117, 3)) (kk : V X k n (pc + 3) L (.int (M 17) :: st) (mW G h ad M R)) : V X k n pc L (.ref h :: st) (mW G h ad M R) := r_get C 0 17 rfl rfl inM (by decide) lkM_digits rfl hdg kk
theorem mp_digits (C : Cx X G nL cc RX7 d mc ms) {v : Int32} (hdg : decode cc pc = .ok (.putfield 117, 3)) (kk : V X k n (pc + 3) L st (mW G h ad (va_up M 17 v) R)) : V X k n pc L (.int v :: .ref h :: st) (mW G h ad M R) := r_put C 0 17 rfl rfl inM tyX7_ok nmX7 (by decide) lkM_digits rfl (ty := .int) rfl rfl rfl (by show 17 < 45; decide) rfl hdg kk
theorem lkM_perm : Cond.fieldLink RX7 35 (TX7 18).1 (TX7 18).2.1 (TX7 18).2.2.1 ∈ ALLW := aw_at 840 (by decide +kernel) rfl
theorem mg_perm (C : Cx X G nL cc RX7 d mc ms) (hdg : decode cc pc = .ok (.getfield 35, 3)) (kk : V X k n (pc + 3) L (.ref (ad 18) :: st) (mW G h ad M R)) : V X k n pc L (.ref h :: st) (mW G h ad M R) := r_get C 0 18 rfl rfl inM (by decide) lkM_perm rfl hdg kk
theorem ml_perm (C : Cx X G nL cc RX7 d mc ms) {i : Int32} (hdg : decode cc pc = .ok (.iaload, 1)) (hin : vp_in i 4808) (kk : V X k n (pc + 1) L (.int (R 18 i.toNatClampNeg) :: st) (mW G h ad M R)) : V X k n pc L (.int i :: .ref (ad 18) :: st) (mW G h ad M R) := r_iald C 8 rfl hin hdg kk
theorem ms_perm (C : Cx X G nL cc RX7 d mc ms) {i x : Int32} (hdg : decode cc pc = .ok (.iastore, 1)) (hin : vp_in i 4808) (kk : V X k n (pc + 1) L st (mW G h ad M (va_up R 18 (upd (R 18) i.toNatClampNeg x)))) : V X k n pc L (.int x :: .int i :: .ref (ad 18) :: st) (mW G h ad M R) := r_iast C 8 rfl hin rfl hdg kk
theorem lkM_perms : Cond.fieldLink RX7 178 (TX7 19).1 (TX7 19).2.1 (TX7 19).2.2.1 ∈ ALLW := aw_at 841 (by decide +kernel) rfl
theorem mg_perms (C : Cx X G nL cc RX7 d mc ms) (hdg : decode cc pc = .ok (.getfield 178, 3)) (kk : V X k n (pc + 3) L (.int (M 19) :: st) (mW G h ad M R)) : V X k n pc L (.ref h :: st) (mW G h ad M R) := r_get C 0 19 rfl rfl inM (by decide) lkM_perms rfl hdg kk
theorem mp_perms (C : Cx X G nL cc RX7 d mc ms) {v : Int32} (hdg : decode cc pc = .ok (.putfield 178, 3)) (kk : V X k n (pc + 3) L st (mW G h ad (va_up M 19 v) R)) : V X k n pc L (.int v :: .ref h :: st) (mW G h ad M R) := r_put C 0 19 rfl rfl inM tyX7_ok nmX7 (by decide) lkM_perms rfl (ty := .int) rfl rfl rfl (by show 19 < 45; decide) rfl hdg kk
theorem lkM_power : Cond.fieldLink RX7 184 (TX7 20).1 (TX7 20).2.1 (TX7 20).2.2.1 ∈ ALLW := aw_at 842 (by decide +kernel) rfl
theorem mg_power (C : Cx X G nL cc RX7 d mc ms) (hdg : decode cc pc = .ok (.getfield 184, 3)) (kk : V X k n (pc + 3) L (.int (M 20) :: st) (mW G h ad M R)) : V X k n pc L (.ref h :: st) (mW G h ad M R) := r_get C 0 20 rfl rfl inM (by decide) lkM_power rfl hdg kk
theorem mp_power (C : Cx X G nL cc RX7 d mc ms) {v : Int32} (hdg : decode cc pc = .ok (.putfield 184, 3)) (kk : V X k n (pc + 3) L st (mW G h ad (va_up M 20 v) R)) : V X k n pc L (.int v :: .ref h :: st) (mW G h ad M R) := r_put C 0 20 rfl rfl inM tyX7_ok nmX7 (by decide) lkM_power rfl (ty := .int) rfl rfl rfl (by show 20 < 45; decide) rfl hdg kk
theorem lkM_back : Cond.fieldLink RX7 38 (TX7 21).1 (TX7 21).2.1 (TX7 21).2.2.1 ∈ ALLW := aw_at 843 (by decide +kernel) rfl
theorem mg_back (C : Cx X G nL cc RX7 d mc ms) (hdg : decode cc pc = .ok (.getfield 38, 3)) (kk : V X k n (pc + 3) L (.ref (ad 21) :: st) (mW G h ad M R)) : V X k n pc L (.ref h :: st) (mW G h ad M R) := r_get C 0 21 rfl rfl inM (by decide) lkM_back rfl hdg kk
theorem ml_back (C : Cx X G nL cc RX7 d mc ms) {i : Int32} (hdg : decode cc pc = .ok (.iaload, 1)) (hin : vp_in i 8) (kk : V X k n (pc + 1) L (.int (R 21 i.toNatClampNeg) :: st) (mW G h ad M R)) : V X k n pc L (.int i :: .ref (ad 21) :: st) (mW G h ad M R) := r_iald C 9 rfl hin hdg kk
theorem ms_back (C : Cx X G nL cc RX7 d mc ms) {i x : Int32} (hdg : decode cc pc = .ok (.iastore, 1)) (hin : vp_in i 8) (kk : V X k n (pc + 1) L st (mW G h ad M (va_up R 21 (upd (R 21) i.toNatClampNeg x)))) : V X k n pc L (.int x :: .int i :: .ref (ad 21) :: st) (mW G h ad M R) := r_iast C 9 rfl hin rfl hdg kk
theorem lkM_kept : Cond.fieldLink RX7 41 (TX7 22).1 (TX7 22).2.1 (TX7 22).2.2.1 ∈ ALLW := aw_at 844 (by decide +kernel) rfl
theorem mg_kept (C : Cx X G nL cc RX7 d mc ms) (hdg : decode cc pc = .ok (.getfield 41, 3)) (kk : V X k n (pc + 3) L (.ref (ad 22) :: st) (mW G h ad M R)) : V X k n pc L (.ref h :: st) (mW G h ad M R) := r_get C 0 22 rfl rfl inM (by decide) lkM_kept rfl hdg kk
theorem ml_kept (C : Cx X G nL cc RX7 d mc ms) {i : Int32} (hdg : decode cc pc = .ok (.iaload, 1)) (hin : vp_in i 4808) (kk : V X k n (pc + 1) L (.int (R 22 i.toNatClampNeg) :: st) (mW G h ad M R)) : V X k n pc L (.int i :: .ref (ad 22) :: st) (mW G h ad M R) := r_iald C 10 rfl hin hdg kk
theorem ms_kept (C : Cx X G nL cc RX7 d mc ms) {i x : Int32} (hdg : decode cc pc = .ok (.iastore, 1)) (hin : vp_in i 4808) (kk : V X k n (pc + 1) L st (mW G h ad M (va_up R 22 (upd (R 22) i.toNatClampNeg x)))) : V X k n pc L (.int x :: .int i :: .ref (ad 22) :: st) (mW G h ad M R) := r_iast C 10 rfl hin rfl hdg kk
theorem lkM_keptPerms : Cond.fieldLink RX7 205 (TX7 23).1 (TX7 23).2.1 (TX7 23).2.2.1 ∈ ALLW := aw_at 845 (by decide +kernel) rfl
theorem mg_keptPerms (C : Cx X G nL cc RX7 d mc ms) (hdg : decode cc pc = .ok (.getfield 205, 3)) (kk : V X k n (pc + 3) L (.int (M 23) :: st) (mW G h ad M R)) : V X k n pc L (.ref h :: st) (mW G h ad M R) := r_get C 0 23 rfl rfl inM (by decide) lkM_keptPerms rfl hdg kk
theorem mp_keptPerms (C : Cx X G nL cc RX7 d mc ms) {v : Int32} (hdg : decode cc pc = .ok (.putfield 205, 3)) (kk : V X k n (pc + 3) L st (mW G h ad (va_up M 23 v) R)) : V X k n pc L (.int v :: .ref h :: st) (mW G h ad M R) := r_put C 0 23 rfl rfl inM tyX7_ok nmX7 (by decide) lkM_keptPerms rfl (ty := .int) rfl rfl rfl (by show 23 < 45; decide) rfl hdg kk
theorem lkM_keptPower : Cond.fieldLink RX7 208 (TX7 24).1 (TX7 24).2.1 (TX7 24).2.2.1 ∈ ALLW := aw_at 846 (by decide +kernel) rfl
theorem mg_keptPower (C : Cx X G nL cc RX7 d mc ms) (hdg : decode cc pc = .ok (.getfield 208, 3)) (kk : V X k n (pc + 3) L (.int (M 24) :: st) (mW G h ad M R)) : V X k n pc L (.ref h :: st) (mW G h ad M R) := r_get C 0 24 rfl rfl inM (by decide) lkM_keptPower rfl hdg kk
theorem mp_keptPower (C : Cx X G nL cc RX7 d mc ms) {v : Int32} (hdg : decode cc pc = .ok (.putfield 208, 3)) (kk : V X k n (pc + 3) L st (mW G h ad (va_up M 24 v) R)) : V X k n pc L (.int v :: .ref h :: st) (mW G h ad M R) := r_put C 0 24 rfl rfl inM tyX7_ok nmX7 (by decide) lkM_keptPower rfl (ty := .int) rfl rfl rfl (by show 24 < 45; decide) rfl hdg kk
theorem lkM_who : Cond.fieldLink RX7 44 (TX7 25).1 (TX7 25).2.1 (TX7 25).2.2.1 ∈ ALLW := aw_at 847 (by decide +kernel) rfl
theorem mg_who (C : Cx X G nL cc RX7 d mc ms) (hdg : decode cc pc = .ok (.getfield 44, 3)) (kk : V X k n (pc + 3) L (.ref (ad 25) :: st) (mW G h ad M R)) : V X k n pc L (.ref h :: st) (mW G h ad M R) := r_get C 0 25 rfl rfl inM (by decide) lkM_who rfl hdg kk
theorem ml_who (C : Cx X G nL cc RX7 d mc ms) {i : Int32} (hdg : decode cc pc = .ok (.iaload, 1)) (hin : vp_in i 8) (kk : V X k n (pc + 1) L (.int (R 25 i.toNatClampNeg) :: st) (mW G h ad M R)) : V X k n pc L (.int i :: .ref (ad 25) :: st) (mW G h ad M R) := r_iald C 11 rfl hin hdg kk
theorem ms_who (C : Cx X G nL cc RX7 d mc ms) {i x : Int32} (hdg : decode cc pc = .ok (.iastore, 1)) (hin : vp_in i 8) (kk : V X k n (pc + 1) L st (mW G h ad M (va_up R 25 (upd (R 25) i.toNatClampNeg x)))) : V X k n pc L (.int x :: .int i :: .ref (ad 25) :: st) (mW G h ad M R) := r_iast C 11 rfl hin rfl hdg kk
theorem lkM_place : Cond.fieldLink RX7 47 (TX7 26).1 (TX7 26).2.1 (TX7 26).2.2.1 ∈ ALLW := aw_at 848 (by decide +kernel) rfl
theorem mg_place (C : Cx X G nL cc RX7 d mc ms) (hdg : decode cc pc = .ok (.getfield 47, 3)) (kk : V X k n (pc + 3) L (.ref (ad 26) :: st) (mW G h ad M R)) : V X k n pc L (.ref h :: st) (mW G h ad M R) := r_get C 0 26 rfl rfl inM (by decide) lkM_place rfl hdg kk
theorem ml_place (C : Cx X G nL cc RX7 d mc ms) {i : Int32} (hdg : decode cc pc = .ok (.iaload, 1)) (hin : vp_in i 8) (kk : V X k n (pc + 1) L (.int (R 26 i.toNatClampNeg) :: st) (mW G h ad M R)) : V X k n pc L (.int i :: .ref (ad 26) :: st) (mW G h ad M R) := r_iald C 12 rfl hin hdg kk
theorem ms_place (C : Cx X G nL cc RX7 d mc ms) {i x : Int32} (hdg : decode cc pc = .ok (.iastore, 1)) (hin : vp_in i 8) (kk : V X k n (pc + 1) L st (mW G h ad M (va_up R 26 (upd (R 26) i.toNatClampNeg x)))) : V X k n pc L (.int x :: .int i :: .ref (ad 26) :: st) (mW G h ad M R) := r_iast C 12 rfl hin rfl hdg kk
theorem lkM_level : Cond.fieldLink RX7 50 (TX7 27).1 (TX7 27).2.1 (TX7 27).2.2.1 ∈ ALLW := aw_at 849 (by decide +kernel) rfl
theorem mg_level (C : Cx X G nL cc RX7 d mc ms) (hdg : decode cc pc = .ok (.getfield 50, 3)) (kk : V X k n (pc + 3) L (.ref (ad 27) :: st) (mW G h ad M R)) : V X k n pc L (.ref h :: st) (mW G h ad M R) := r_get C 0 27 rfl rfl inM (by decide) lkM_level rfl hdg kk
theorem ml_level (C : Cx X G nL cc RX7 d mc ms) {i : Int32} (hdg : decode cc pc = .ok (.iaload, 1)) (hin : vp_in i 300) (kk : V X k n (pc + 1) L (.int (R 27 i.toNatClampNeg) :: st) (mW G h ad M R)) : V X k n pc L (.int i :: .ref (ad 27) :: st) (mW G h ad M R) := r_iald C 13 rfl hin hdg kk
theorem ms_level (C : Cx X G nL cc RX7 d mc ms) {i x : Int32} (hdg : decode cc pc = .ok (.iastore, 1)) (hin : vp_in i 300) (kk : V X k n (pc + 1) L st (mW G h ad M (va_up R 27 (upd (R 27) i.toNatClampNeg x)))) : V X k n pc L (.int x :: .int i :: .ref (ad 27) :: st) (mW G h ad M R) := r_iast C 13 rfl hin rfl hdg kk
theorem lkM_bundles : Cond.fieldLink RX7 237 (TX7 28).1 (TX7 28).2.1 (TX7 28).2.2.1 ∈ ALLW := aw_at 850 (by decide +kernel) rfl
theorem mg_bundles (C : Cx X G nL cc RX7 d mc ms) (hdg : decode cc pc = .ok (.getfield 237, 3)) (kk : V X k n (pc + 3) L (.int (M 28) :: st) (mW G h ad M R)) : V X k n pc L (.ref h :: st) (mW G h ad M R) := r_get C 0 28 rfl rfl inM (by decide) lkM_bundles rfl hdg kk
theorem mp_bundles (C : Cx X G nL cc RX7 d mc ms) {v : Int32} (hdg : decode cc pc = .ok (.putfield 237, 3)) (kk : V X k n (pc + 3) L st (mW G h ad (va_up M 28 v) R)) : V X k n pc L (.int v :: .ref h :: st) (mW G h ad M R) := r_put C 0 28 rfl rfl inM tyX7_ok nmX7 (by decide) lkM_bundles rfl (ty := .int) rfl rfl rfl (by show 28 < 45; decide) rfl hdg kk
theorem lkM_scores : Cond.fieldLink RX7 240 (TX7 29).1 (TX7 29).2.1 (TX7 29).2.2.1 ∈ ALLW := aw_at 851 (by decide +kernel) rfl
theorem mg_scores (C : Cx X G nL cc RX7 d mc ms) (hdg : decode cc pc = .ok (.getfield 240, 3)) (kk : V X k n (pc + 3) L (.int (M 29) :: st) (mW G h ad M R)) : V X k n pc L (.ref h :: st) (mW G h ad M R) := r_get C 0 29 rfl rfl inM (by decide) lkM_scores rfl hdg kk
theorem mp_scores (C : Cx X G nL cc RX7 d mc ms) {v : Int32} (hdg : decode cc pc = .ok (.putfield 240, 3)) (kk : V X k n (pc + 3) L st (mW G h ad (va_up M 29 v) R)) : V X k n pc L (.int v :: .ref h :: st) (mW G h ad M R) := r_put C 0 29 rfl rfl inM tyX7_ok nmX7 (by decide) lkM_scores rfl (ty := .int) rfl rfl rfl (by show 29 < 45; decide) rfl hdg kk
theorem lkM_hats : Cond.fieldLink RX7 243 (TX7 30).1 (TX7 30).2.1 (TX7 30).2.2.1 ∈ ALLW := aw_at 852 (by decide +kernel) rfl
theorem mg_hats (C : Cx X G nL cc RX7 d mc ms) (hdg : decode cc pc = .ok (.getfield 243, 3)) (kk : V X k n (pc + 3) L (.int (M 30) :: st) (mW G h ad M R)) : V X k n pc L (.ref h :: st) (mW G h ad M R) := r_get C 0 30 rfl rfl inM (by decide) lkM_hats rfl hdg kk
theorem mp_hats (C : Cx X G nL cc RX7 d mc ms) {v : Int32} (hdg : decode cc pc = .ok (.putfield 243, 3)) (kk : V X k n (pc + 3) L st (mW G h ad (va_up M 30 v) R)) : V X k n pc L (.int v :: .ref h :: st) (mW G h ad M R) := r_put C 0 30 rfl rfl inM tyX7_ok nmX7 (by decide) lkM_hats rfl (ty := .int) rfl rfl rfl (by show 30 < 45; decide) rfl hdg kk
theorem lkM_field : Cond.fieldLink RX7 53 (TX7 31).1 (TX7 31).2.1 (TX7 31).2.2.1 ∈ ALLW := aw_at 853 (by decide +kernel) rfl
theorem mg_field (C : Cx X G nL cc RX7 d mc ms) (hdg : decode cc pc = .ok (.getfield 53, 3)) (kk : V X k n (pc + 3) L (.ref (ad 31) :: st) (mW G h ad M R)) : V X k n pc L (.ref h :: st) (mW G h ad M R) := r_get C 0 31 rfl rfl inM (by decide) lkM_field rfl hdg kk
theorem ml_field (C : Cx X G nL cc RX7 d mc ms) {i : Int32} (hdg : decode cc pc = .ok (.iaload, 1)) (hin : vp_in i 40) (kk : V X k n (pc + 1) L (.int (R 31 i.toNatClampNeg) :: st) (mW G h ad M R)) : V X k n pc L (.int i :: .ref (ad 31) :: st) (mW G h ad M R) := r_iald C 14 rfl hin hdg kk
theorem ms_field (C : Cx X G nL cc RX7 d mc ms) {i x : Int32} (hdg : decode cc pc = .ok (.iastore, 1)) (hin : vp_in i 40) (kk : V X k n (pc + 1) L st (mW G h ad M (va_up R 31 (upd (R 31) i.toNatClampNeg x)))) : V X k n pc L (.int x :: .int i :: .ref (ad 31) :: st) (mW G h ad M R) := r_iast C 14 rfl hin rfl hdg kk
theorem lkM_bundleWidth : Cond.fieldLink RX7 56 (TX7 32).1 (TX7 32).2.1 (TX7 32).2.2.1 ∈ ALLW := aw_at 854 (by decide +kernel) rfl
theorem mg_bundleWidth (C : Cx X G nL cc RX7 d mc ms) (hdg : decode cc pc = .ok (.getfield 56, 3)) (kk : V X k n (pc + 3) L (.ref (ad 32) :: st) (mW G h ad M R)) : V X k n pc L (.ref h :: st) (mW G h ad M R) := r_get C 0 32 rfl rfl inM (by decide) lkM_bundleWidth rfl hdg kk
theorem ml_bundleWidth (C : Cx X G nL cc RX7 d mc ms) {i : Int32} (hdg : decode cc pc = .ok (.iaload, 1)) (hin : vp_in i 40) (kk : V X k n (pc + 1) L (.int (R 32 i.toNatClampNeg) :: st) (mW G h ad M R)) : V X k n pc L (.int i :: .ref (ad 32) :: st) (mW G h ad M R) := r_iald C 15 rfl hin hdg kk
theorem ms_bundleWidth (C : Cx X G nL cc RX7 d mc ms) {i x : Int32} (hdg : decode cc pc = .ok (.iastore, 1)) (hin : vp_in i 40) (kk : V X k n (pc + 1) L st (mW G h ad M (va_up R 32 (upd (R 32) i.toNatClampNeg x)))) : V X k n pc L (.int x :: .int i :: .ref (ad 32) :: st) (mW G h ad M R) := r_iast C 15 rfl hin rfl hdg kk
theorem lkM_leftOf : Cond.fieldLink RX7 59 (TX7 33).1 (TX7 33).2.1 (TX7 33).2.2.1 ∈ ALLW := aw_at 855 (by decide +kernel) rfl
theorem mg_leftOf (C : Cx X G nL cc RX7 d mc ms) (hdg : decode cc pc = .ok (.getfield 59, 3)) (kk : V X k n (pc + 3) L (.ref (ad 33) :: st) (mW G h ad M R)) : V X k n pc L (.ref h :: st) (mW G h ad M R) := r_get C 0 33 rfl rfl inM (by decide) lkM_leftOf rfl hdg kk
theorem ml_leftOf (C : Cx X G nL cc RX7 d mc ms) {i : Int32} (hdg : decode cc pc = .ok (.iaload, 1)) (hin : vp_in i 40) (kk : V X k n (pc + 1) L (.int (R 33 i.toNatClampNeg) :: st) (mW G h ad M R)) : V X k n pc L (.int i :: .ref (ad 33) :: st) (mW G h ad M R) := r_iald C 16 rfl hin hdg kk
theorem ms_leftOf (C : Cx X G nL cc RX7 d mc ms) {i x : Int32} (hdg : decode cc pc = .ok (.iastore, 1)) (hin : vp_in i 40) (kk : V X k n (pc + 1) L st (mW G h ad M (va_up R 33 (upd (R 33) i.toNatClampNeg x)))) : V X k n pc L (.int x :: .int i :: .ref (ad 33) :: st) (mW G h ad M R) := r_iast C 16 rfl hin rfl hdg kk
theorem lkM_length : Cond.fieldLink RX7 62 (TX7 34).1 (TX7 34).2.1 (TX7 34).2.2.1 ∈ ALLW := aw_at 856 (by decide +kernel) rfl
theorem mg_length (C : Cx X G nL cc RX7 d mc ms) (hdg : decode cc pc = .ok (.getfield 62, 3)) (kk : V X k n (pc + 3) L (.ref (ad 34) :: st) (mW G h ad M R)) : V X k n pc L (.ref h :: st) (mW G h ad M R) := r_get C 0 34 rfl rfl inM (by decide) lkM_length rfl hdg kk
theorem ml_length (C : Cx X G nL cc RX7 d mc ms) {i : Int32} (hdg : decode cc pc = .ok (.iaload, 1)) (hin : vp_in i 60) (kk : V X k n (pc + 1) L (.int (R 34 i.toNatClampNeg) :: st) (mW G h ad M R)) : V X k n pc L (.int i :: .ref (ad 34) :: st) (mW G h ad M R) := r_iald C 17 rfl hin hdg kk
theorem ms_length (C : Cx X G nL cc RX7 d mc ms) {i x : Int32} (hdg : decode cc pc = .ok (.iastore, 1)) (hin : vp_in i 60) (kk : V X k n (pc + 1) L st (mW G h ad M (va_up R 34 (upd (R 34) i.toNatClampNeg x)))) : V X k n pc L (.int x :: .int i :: .ref (ad 34) :: st) (mW G h ad M R) := r_iast C 17 rfl hin rfl hdg kk
theorem lkM_lengthLeft : Cond.fieldLink RX7 65 (TX7 35).1 (TX7 35).2.1 (TX7 35).2.2.1 ∈ ALLW := aw_at 857 (by decide +kernel) rfl
theorem mg_lengthLeft (C : Cx X G nL cc RX7 d mc ms) (hdg : decode cc pc = .ok (.getfield 65, 3)) (kk : V X k n (pc + 3) L (.ref (ad 35) :: st) (mW G h ad M R)) : V X k n pc L (.ref h :: st) (mW G h ad M R) := r_get C 0 35 rfl rfl inM (by decide) lkM_lengthLeft rfl hdg kk
theorem ml_lengthLeft (C : Cx X G nL cc RX7 d mc ms) {i : Int32} (hdg : decode cc pc = .ok (.iaload, 1)) (hin : vp_in i 60) (kk : V X k n (pc + 1) L (.int (R 35 i.toNatClampNeg) :: st) (mW G h ad M R)) : V X k n pc L (.int i :: .ref (ad 35) :: st) (mW G h ad M R) := r_iald C 18 rfl hin hdg kk
theorem ms_lengthLeft (C : Cx X G nL cc RX7 d mc ms) {i x : Int32} (hdg : decode cc pc = .ok (.iastore, 1)) (hin : vp_in i 60) (kk : V X k n (pc + 1) L st (mW G h ad M (va_up R 35 (upd (R 35) i.toNatClampNeg x)))) : V X k n pc L (.int x :: .int i :: .ref (ad 35) :: st) (mW G h ad M R) := r_iast C 18 rfl hin rfl hdg kk
theorem lkM_scoreWidth : Cond.fieldLink RX7 68 (TX7 36).1 (TX7 36).2.1 (TX7 36).2.2.1 ∈ ALLW := aw_at 858 (by decide +kernel) rfl
theorem mg_scoreWidth (C : Cx X G nL cc RX7 d mc ms) (hdg : decode cc pc = .ok (.getfield 68, 3)) (kk : V X k n (pc + 3) L (.ref (ad 36) :: st) (mW G h ad M R)) : V X k n pc L (.ref h :: st) (mW G h ad M R) := r_get C 0 36 rfl rfl inM (by decide) lkM_scoreWidth rfl hdg kk
theorem ml_scoreWidth (C : Cx X G nL cc RX7 d mc ms) {i : Int32} (hdg : decode cc pc = .ok (.iaload, 1)) (hin : vp_in i 60) (kk : V X k n (pc + 1) L (.int (R 36 i.toNatClampNeg) :: st) (mW G h ad M R)) : V X k n pc L (.int i :: .ref (ad 36) :: st) (mW G h ad M R) := r_iald C 19 rfl hin hdg kk
theorem ms_scoreWidth (C : Cx X G nL cc RX7 d mc ms) {i x : Int32} (hdg : decode cc pc = .ok (.iastore, 1)) (hin : vp_in i 60) (kk : V X k n (pc + 1) L st (mW G h ad M (va_up R 36 (upd (R 36) i.toNatClampNeg x)))) : V X k n pc L (.int x :: .int i :: .ref (ad 36) :: st) (mW G h ad M R) := r_iast C 19 rfl hin rfl hdg kk
theorem lkM_scoreFields : Cond.fieldLink RX7 71 (TX7 37).1 (TX7 37).2.1 (TX7 37).2.2.1 ∈ ALLW := aw_at 859 (by decide +kernel) rfl
theorem mg_scoreFields (C : Cx X G nL cc RX7 d mc ms) (hdg : decode cc pc = .ok (.getfield 71, 3)) (kk : V X k n (pc + 3) L (.ref (ad 37) :: st) (mW G h ad M R)) : V X k n pc L (.ref h :: st) (mW G h ad M R) := r_get C 0 37 rfl rfl inM (by decide) lkM_scoreFields rfl hdg kk
theorem ml_scoreFields (C : Cx X G nL cc RX7 d mc ms) {i : Int32} (hdg : decode cc pc = .ok (.iaload, 1)) (hin : vp_in i 60) (kk : V X k n (pc + 1) L (.int (R 37 i.toNatClampNeg) :: st) (mW G h ad M R)) : V X k n pc L (.int i :: .ref (ad 37) :: st) (mW G h ad M R) := r_iald C 20 rfl hin hdg kk
theorem ms_scoreFields (C : Cx X G nL cc RX7 d mc ms) {i x : Int32} (hdg : decode cc pc = .ok (.iastore, 1)) (hin : vp_in i 60) (kk : V X k n (pc + 1) L st (mW G h ad M (va_up R 37 (upd (R 37) i.toNatClampNeg x)))) : V X k n pc L (.int x :: .int i :: .ref (ad 37) :: st) (mW G h ad M R) := r_iast C 20 rfl hin rfl hdg kk
theorem lkM_scoreStraws : Cond.fieldLink RX7 74 (TX7 38).1 (TX7 38).2.1 (TX7 38).2.2.1 ∈ ALLW := aw_at 860 (by decide +kernel) rfl
theorem mg_scoreStraws (C : Cx X G nL cc RX7 d mc ms) (hdg : decode cc pc = .ok (.getfield 74, 3)) (kk : V X k n (pc + 3) L (.ref (ad 38) :: st) (mW G h ad M R)) : V X k n pc L (.ref h :: st) (mW G h ad M R) := r_get C 0 38 rfl rfl inM (by decide) lkM_scoreStraws rfl hdg kk
theorem ml_scoreStraws (C : Cx X G nL cc RX7 d mc ms) {i : Int32} (hdg : decode cc pc = .ok (.iaload, 1)) (hin : vp_in i 60) (kk : V X k n (pc + 1) L (.int (R 38 i.toNatClampNeg) :: st) (mW G h ad M R)) : V X k n pc L (.int i :: .ref (ad 38) :: st) (mW G h ad M R) := r_iald C 21 rfl hin hdg kk
theorem ms_scoreStraws (C : Cx X G nL cc RX7 d mc ms) {i x : Int32} (hdg : decode cc pc = .ok (.iastore, 1)) (hin : vp_in i 60) (kk : V X k n (pc + 1) L st (mW G h ad M (va_up R 38 (upd (R 38) i.toNatClampNeg x)))) : V X k n pc L (.int x :: .int i :: .ref (ad 38) :: st) (mW G h ad M R) := r_iast C 21 rfl hin rfl hdg kk
theorem lkM_hatLength : Cond.fieldLink RX7 77 (TX7 39).1 (TX7 39).2.1 (TX7 39).2.2.1 ∈ ALLW := aw_at 861 (by decide +kernel) rfl
theorem mg_hatLength (C : Cx X G nL cc RX7 d mc ms) (hdg : decode cc pc = .ok (.getfield 77, 3)) (kk : V X k n (pc + 3) L (.ref (ad 39) :: st) (mW G h ad M R)) : V X k n pc L (.ref h :: st) (mW G h ad M R) := r_get C 0 39 rfl rfl inM (by decide) lkM_hatLength rfl hdg kk
theorem ml_hatLength (C : Cx X G nL cc RX7 d mc ms) {i : Int32} (hdg : decode cc pc = .ok (.iaload, 1)) (hin : vp_in i 60) (kk : V X k n (pc + 1) L (.int (R 39 i.toNatClampNeg) :: st) (mW G h ad M R)) : V X k n pc L (.int i :: .ref (ad 39) :: st) (mW G h ad M R) := r_iald C 22 rfl hin hdg kk
theorem ms_hatLength (C : Cx X G nL cc RX7 d mc ms) {i x : Int32} (hdg : decode cc pc = .ok (.iastore, 1)) (hin : vp_in i 60) (kk : V X k n (pc + 1) L st (mW G h ad M (va_up R 39 (upd (R 39) i.toNatClampNeg x)))) : V X k n pc L (.int x :: .int i :: .ref (ad 39) :: st) (mW G h ad M R) := r_iast C 22 rfl hin rfl hdg kk
theorem lkM_hatTurns : Cond.fieldLink RX7 80 (TX7 40).1 (TX7 40).2.1 (TX7 40).2.2.1 ∈ ALLW := aw_at 862 (by decide +kernel) rfl
theorem mg_hatTurns (C : Cx X G nL cc RX7 d mc ms) (hdg : decode cc pc = .ok (.getfield 80, 3)) (kk : V X k n (pc + 3) L (.ref (ad 40) :: st) (mW G h ad M R)) : V X k n pc L (.ref h :: st) (mW G h ad M R) := r_get C 0 40 rfl rfl inM (by decide) lkM_hatTurns rfl hdg kk
theorem ml_hatTurns (C : Cx X G nL cc RX7 d mc ms) {i : Int32} (hdg : decode cc pc = .ok (.iaload, 1)) (hin : vp_in i 60) (kk : V X k n (pc + 1) L (.int (R 40 i.toNatClampNeg) :: st) (mW G h ad M R)) : V X k n pc L (.int i :: .ref (ad 40) :: st) (mW G h ad M R) := r_iald C 23 rfl hin hdg kk
theorem ms_hatTurns (C : Cx X G nL cc RX7 d mc ms) {i x : Int32} (hdg : decode cc pc = .ok (.iastore, 1)) (hin : vp_in i 60) (kk : V X k n (pc + 1) L st (mW G h ad M (va_up R 40 (upd (R 40) i.toNatClampNeg x)))) : V X k n pc L (.int x :: .int i :: .ref (ad 40) :: st) (mW G h ad M R) := r_iast C 23 rfl hin rfl hdg kk
theorem lkM_hatFields : Cond.fieldLink RX7 83 (TX7 41).1 (TX7 41).2.1 (TX7 41).2.2.1 ∈ ALLW := aw_at 863 (by decide +kernel) rfl
theorem mg_hatFields (C : Cx X G nL cc RX7 d mc ms) (hdg : decode cc pc = .ok (.getfield 83, 3)) (kk : V X k n (pc + 3) L (.ref (ad 41) :: st) (mW G h ad M R)) : V X k n pc L (.ref h :: st) (mW G h ad M R) := r_get C 0 41 rfl rfl inM (by decide) lkM_hatFields rfl hdg kk
theorem ml_hatFields (C : Cx X G nL cc RX7 d mc ms) {i : Int32} (hdg : decode cc pc = .ok (.iaload, 1)) (hin : vp_in i 60) (kk : V X k n (pc + 1) L (.int (R 41 i.toNatClampNeg) :: st) (mW G h ad M R)) : V X k n pc L (.int i :: .ref (ad 41) :: st) (mW G h ad M R) := r_iald C 24 rfl hin hdg kk
theorem ms_hatFields (C : Cx X G nL cc RX7 d mc ms) {i x : Int32} (hdg : decode cc pc = .ok (.iastore, 1)) (hin : vp_in i 60) (kk : V X k n (pc + 1) L st (mW G h ad M (va_up R 41 (upd (R 41) i.toNatClampNeg x)))) : V X k n pc L (.int x :: .int i :: .ref (ad 41) :: st) (mW G h ad M R) := r_iast C 24 rfl hin rfl hdg kk
theorem lkM_hatScores : Cond.fieldLink RX7 86 (TX7 42).1 (TX7 42).2.1 (TX7 42).2.2.1 ∈ ALLW := aw_at 864 (by decide +kernel) rfl
theorem mg_hatScores (C : Cx X G nL cc RX7 d mc ms) (hdg : decode cc pc = .ok (.getfield 86, 3)) (kk : V X k n (pc + 3) L (.ref (ad 42) :: st) (mW G h ad M R)) : V X k n pc L (.ref h :: st) (mW G h ad M R) := r_get C 0 42 rfl rfl inM (by decide) lkM_hatScores rfl hdg kk
theorem ml_hatScores (C : Cx X G nL cc RX7 d mc ms) {i : Int32} (hdg : decode cc pc = .ok (.iaload, 1)) (hin : vp_in i 60) (kk : V X k n (pc + 1) L (.int (R 42 i.toNatClampNeg) :: st) (mW G h ad M R)) : V X k n pc L (.int i :: .ref (ad 42) :: st) (mW G h ad M R) := r_iald C 25 rfl hin hdg kk
theorem ms_hatScores (C : Cx X G nL cc RX7 d mc ms) {i x : Int32} (hdg : decode cc pc = .ok (.iastore, 1)) (hin : vp_in i 60) (kk : V X k n (pc + 1) L st (mW G h ad M (va_up R 42 (upd (R 42) i.toNatClampNeg x)))) : V X k n pc L (.int x :: .int i :: .ref (ad 42) :: st) (mW G h ad M R) := r_iast C 25 rfl hin rfl hdg kk
theorem lkM_uses : Cond.fieldLink RX7 89 (TX7 43).1 (TX7 43).2.1 (TX7 43).2.2.1 ∈ ALLW := aw_at 865 (by decide +kernel) rfl
theorem mg_uses (C : Cx X G nL cc RX7 d mc ms) (hdg : decode cc pc = .ok (.getfield 89, 3)) (kk : V X k n (pc + 3) L (.ref (ad 43) :: st) (mW G h ad M R)) : V X k n pc L (.ref h :: st) (mW G h ad M R) := r_get C 0 43 rfl rfl inM (by decide) lkM_uses rfl hdg kk
theorem ml_uses (C : Cx X G nL cc RX7 d mc ms) {i : Int32} (hdg : decode cc pc = .ok (.iaload, 1)) (hin : vp_in i 8) (kk : V X k n (pc + 1) L (.int (R 43 i.toNatClampNeg) :: st) (mW G h ad M R)) : V X k n pc L (.int i :: .ref (ad 43) :: st) (mW G h ad M R) := r_iald C 26 rfl hin hdg kk
theorem ms_uses (C : Cx X G nL cc RX7 d mc ms) {i x : Int32} (hdg : decode cc pc = .ok (.iastore, 1)) (hin : vp_in i 8) (kk : V X k n (pc + 1) L st (mW G h ad M (va_up R 43 (upd (R 43) i.toNatClampNeg x)))) : V X k n pc L (.int x :: .int i :: .ref (ad 43) :: st) (mW G h ad M R) := r_iast C 26 rfl hin rfl hdg kk
theorem lkM_next : Cond.fieldLink RX7 92 (TX7 44).1 (TX7 44).2.1 (TX7 44).2.2.1 ∈ ALLW := aw_at 866 (by decide +kernel) rfl
theorem mg_next (C : Cx X G nL cc RX7 d mc ms) (hdg : decode cc pc = .ok (.getfield 92, 3)) (kk : V X k n (pc + 3) L (.ref (ad 44) :: st) (mW G h ad M R)) : V X k n pc L (.ref h :: st) (mW G h ad M R) := r_get C 0 44 rfl rfl inM (by decide) lkM_next rfl hdg kk
theorem ml_next (C : Cx X G nL cc RX7 d mc ms) {i : Int32} (hdg : decode cc pc = .ok (.iaload, 1)) (hin : vp_in i 8) (kk : V X k n (pc + 1) L (.int (R 44 i.toNatClampNeg) :: st) (mW G h ad M R)) : V X k n pc L (.int i :: .ref (ad 44) :: st) (mW G h ad M R) := r_iald C 27 rfl hin hdg kk
theorem ms_next (C : Cx X G nL cc RX7 d mc ms) {i x : Int32} (hdg : decode cc pc = .ok (.iastore, 1)) (hin : vp_in i 8) (kk : V X k n (pc + 1) L st (mW G h ad M (va_up R 44 (upd (R 44) i.toNatClampNeg x)))) : V X k n pc L (.int x :: .int i :: .ref (ad 44) :: st) (mW G h ad M R) := r_iast C 27 rfl hin rfl hdg kk
end MW
theorem kM_lays : KV RX7 101 yX7_lays cX7_lays 3 none 1 := ⟨aw_at 966 (by decide +kernel) rfl, aw_at 968 (by decide +kernel) rfl, aw_at 39 (by decide +kernel) rfl, aw_at 73 (by decide +kernel) rfl, aw_at 969 (by decide +kernel) rfl, by decide +kernel, by decide⟩
theorem kM_now : KV RX7 120 yX7_now cX7_now 1 (some .int) 0 := ⟨aw_at 986 (by decide +kernel) rfl, aw_at 988 (by decide +kernel) rfl, aw_at 43 (by decide +kernel) rfl, aw_at 73 (by decide +kernel) rfl, aw_at 989 (by decide +kernel) rfl, by decide +kernel, by decide⟩
theorem kM_isDigit : KS RX7 124 yX7_isDigit cX7_isDigit 1 (some .boolean) 1 := ⟨aw_at 1006 (by decide +kernel) rfl, aw_at 1007 (by decide +kernel) rfl, aw_at 73 (by decide +kernel) rfl, aw_at 1008 (by decide +kernel) rfl, by decide +kernel, by decide⟩
theorem kM_wrong : KV RX7 131 yX7_wrong cX7_wrong 3 (some .boolean) 2 := ⟨aw_at 994 (by decide +kernel) rfl, aw_at 996 (by decide +kernel) rfl, aw_at 45 (by decide +kernel) rfl, aw_at 73 (by decide +kernel) rfl, aw_at 997 (by decide +kernel) rfl, by decide +kernel, by decide⟩
theorem kM_skip : KV RX7 145 yX7_skip cX7_skip 1 none 0 := ⟨aw_at 978 (by decide +kernel) rfl, aw_at 980 (by decide +kernel) rfl, aw_at 41 (by decide +kernel) rfl, aw_at 73 (by decide +kernel) rfl, aw_at 981 (by decide +kernel) rfl, by decide +kernel, by decide⟩
theorem kM_number : KV RX7 154 yX7_number cX7_number 2 (some .int) 0 := ⟨aw_at 1009 (by decide +kernel) rfl, aw_at 1011 (by decide +kernel) rfl, aw_at 48 (by decide +kernel) rfl, aw_at 73 (by decide +kernel) rfl, aw_at 1012 (by decide +kernel) rfl, by decide +kernel, by decide⟩
theorem kM_closes : KV RX7 141 yX7_closes cX7_closes 6 (some .boolean) 0 := ⟨aw_at 990 (by decide +kernel) rfl, aw_at 992 (by decide +kernel) rfl, aw_at 44 (by decide +kernel) rfl, aw_at 73 (by decide +kernel) rfl, aw_at 993 (by decide +kernel) rfl, by decide +kernel, by decide⟩
theorem kM_opens : KV RX7 148 yX7_opens cX7_opens 2 (some .boolean) 1 := ⟨aw_at 998 (by decide +kernel) rfl, aw_at 1000 (by decide +kernel) rfl, aw_at 46 (by decide +kernel) rfl, aw_at 73 (by decide +kernel) rfl, aw_at 1001 (by decide +kernel) rfl, by decide +kernel, by decide⟩
theorem kM_pattern : KV RX7 151 yX7_pattern cX7_pattern 3 (some .boolean) 0 := ⟨aw_at 1002 (by decide +kernel) rfl, aw_at 1004 (by decide +kernel) rfl, aw_at 47 (by decide +kernel) rfl, aw_at 73 (by decide +kernel) rfl, aw_at 1005 (by decide +kernel) rfl, by decide +kernel, by decide⟩
theorem kM_right : KV RX7 157 yX7_right cX7_right 3 (some .boolean) 2 := ⟨aw_at 974 (by decide +kernel) rfl, aw_at 976 (by decide +kernel) rfl, aw_at 40 (by decide +kernel) rfl, aw_at 73 (by decide +kernel) rfl, aw_at 977 (by decide +kernel) rfl, by decide +kernel, by decide⟩
theorem kM_item : KV RX7 161 yX7_item cX7_item 4 (some .boolean) 0 := ⟨aw_at 982 (by decide +kernel) rfl, aw_at 984 (by decide +kernel) rfl, aw_at 42 (by decide +kernel) rfl, aw_at 73 (by decide +kernel) rfl, aw_at 985 (by decide +kernel) rfl, by decide +kernel, by decide⟩
theorem kM_isPattern : KV RX7 164 yX7_isPattern cX7_isPattern 2 (some .boolean) 1 := ⟨aw_at 1025 (by decide +kernel) rfl, aw_at 1027 (by decide +kernel) rfl, aw_at 49 (by decide +kernel) rfl, aw_at 73 (by decide +kernel) rfl, aw_at 1028 (by decide +kernel) rfl, by decide +kernel, by decide⟩
theorem kM_get : KV RX7 167 yX7_get cX7_get 3 (some .int) 2 := ⟨aw_at 1045 (by decide +kernel) rfl, aw_at 1047 (by decide +kernel) rfl, aw_at 53 (by decide +kernel) rfl, aw_at 73 (by decide +kernel) rfl, aw_at 1048 (by decide +kernel) rfl, by decide +kernel, by decide⟩
theorem kM_from : KV RX7 171 yX7_from cX7_from 4 (some .int) 2 := ⟨aw_at 1041 (by decide +kernel) rfl, aw_at 1043 (by decide +kernel) rfl, aw_at 52 (by decide +kernel) rfl, aw_at 73 (by decide +kernel) rfl, aw_at 1044 (by decide +kernel) rfl, by decide +kernel, by decide⟩
theorem kM_behind : KV RX7 174 yX7_behind cX7_behind 5 none 2 := ⟨aw_at 1037 (by decide +kernel) rfl, aw_at 1039 (by decide +kernel) rfl, aw_at 51 (by decide +kernel) rfl, aw_at 73 (by decide +kernel) rfl, aw_at 1040 (by decide +kernel) rfl, by decide +kernel, by decide⟩
theorem kM_isNothing : KV RX7 181 yX7_isNothing cX7_isNothing 5 (some .boolean) 2 := ⟨aw_at 1061 (by decide +kernel) rfl, aw_at 1063 (by decide +kernel) rfl, aw_at 57 (by decide +kernel) rfl, aw_at 73 (by decide +kernel) rfl, aw_at 1064 (by decide +kernel) rfl, by decide +kernel, by decide⟩
theorem kM_turns : KV RX7 187 yX7_turns cX7_turns 4 none 2 := ⟨aw_at 1049 (by decide +kernel) rfl, aw_at 1051 (by decide +kernel) rfl, aw_at 54 (by decide +kernel) rfl, aw_at 73 (by decide +kernel) rfl, aw_at 1052 (by decide +kernel) rfl, by decide +kernel, by decide⟩
theorem kM_takes : KV RX7 190 yX7_takes cX7_takes 6 (some .boolean) 2 := ⟨aw_at 1053 (by decide +kernel) rfl, aw_at 1055 (by decide +kernel) rfl, aw_at 55 (by decide +kernel) rfl, aw_at 73 (by decide +kernel) rfl, aw_at 1056 (by decide +kernel) rfl, by decide +kernel, by decide⟩
theorem kM_drops : KV RX7 193 yX7_drops cX7_drops 5 none 1 := ⟨aw_at 1057 (by decide +kernel) rfl, aw_at 1059 (by decide +kernel) rfl, aw_at 56 (by decide +kernel) rfl, aw_at 73 (by decide +kernel) rfl, aw_at 1060 (by decide +kernel) rfl, by decide +kernel, by decide⟩
theorem kM_isAll : KV RX7 196 yX7_isAll cX7_isAll 5 (some .boolean) 2 := ⟨aw_at 1065 (by decide +kernel) rfl, aw_at 1067 (by decide +kernel) rfl, aw_at 58 (by decide +kernel) rfl, aw_at 73 (by decide +kernel) rfl, aw_at 1068 (by decide +kernel) rfl, by decide +kernel, by decide⟩
theorem kM_form : KV RX7 199 yX7_form cX7_form 9 none 2 := ⟨aw_at 1033 (by decide +kernel) rfl, aw_at 1035 (by decide +kernel) rfl, aw_at 50 (by decide +kernel) rfl, aw_at 73 (by decide +kernel) rfl, aw_at 1036 (by decide +kernel) rfl, by decide +kernel, by decide⟩
theorem kM_coded : KV RX7 202 yX7_coded cX7_coded 5 (some .int) 2 := ⟨aw_at 1069 (by decide +kernel) rfl, aw_at 1071 (by decide +kernel) rfl, aw_at 59 (by decide +kernel) rfl, aw_at 73 (by decide +kernel) rfl, aw_at 1072 (by decide +kernel) rfl, by decide +kernel, by decide⟩
theorem kM_goesTo : KV RX7 211 yX7_goesTo cX7_goesTo 7 (some .int) 2 := ⟨aw_at 1089 (by decide +kernel) rfl, aw_at 1091 (by decide +kernel) rfl, aw_at 61 (by decide +kernel) rfl, aw_at 73 (by decide +kernel) rfl, aw_at 1092 (by decide +kernel) rfl, by decide +kernel, by decide⟩
theorem kM_home : KV RX7 214 yX7_home cX7_home 5 (some .int) 1 := ⟨aw_at 1085 (by decide +kernel) rfl, aw_at 1087 (by decide +kernel) rfl, aw_at 60 (by decide +kernel) rfl, aw_at 73 (by decide +kernel) rfl, aw_at 1088 (by decide +kernel) rfl, by decide +kernel, by decide⟩
theorem kM_isInTurn : KV RX7 218 yX7_isInTurn cX7_isInTurn 12 (some .boolean) 3 := ⟨aw_at 1101 (by decide +kernel) rfl, aw_at 1103 (by decide +kernel) rfl, aw_at 64 (by decide +kernel) rfl, aw_at 73 (by decide +kernel) rfl, aw_at 1104 (by decide +kernel) rfl, by decide +kernel, by decide⟩
theorem kM_levels : KV RX7 222 yX7_levels cX7_levels 7 (some .int) 1 := ⟨aw_at 1105 (by decide +kernel) rfl, aw_at 1107 (by decide +kernel) rfl, aw_at 65 (by decide +kernel) rfl, aw_at 73 (by decide +kernel) rfl, aw_at 1108 (by decide +kernel) rfl, by decide +kernel, by decide⟩
theorem kM_rings : KV RX7 225 yX7_rings cX7_rings 6 (some .int) 1 := ⟨aw_at 1093 (by decide +kernel) rfl, aw_at 1095 (by decide +kernel) rfl, aw_at 62 (by decide +kernel) rfl, aw_at 73 (by decide +kernel) rfl, aw_at 1096 (by decide +kernel) rfl, by decide +kernel, by decide⟩
theorem kM_holds : KV RX7 228 yX7_holds cX7_holds 6 (some .boolean) 1 := ⟨aw_at 1097 (by decide +kernel) rfl, aw_at 1099 (by decide +kernel) rfl, aw_at 63 (by decide +kernel) rfl, aw_at 73 (by decide +kernel) rfl, aw_at 1100 (by decide +kernel) rfl, by decide +kernel, by decide⟩
theorem kM_isPlace : KV RX7 231 yX7_isPlace cX7_isPlace 3 (some .boolean) 2 := ⟨aw_at 1113 (by decide +kernel) rfl, aw_at 1115 (by decide +kernel) rfl, aw_at 66 (by decide +kernel) rfl, aw_at 73 (by decide +kernel) rfl, aw_at 1116 (by decide +kernel) rfl, by decide +kernel, by decide⟩
theorem kM_useOf : KV RX7 234 yX7_useOf cX7_useOf 8 (some .int) 2 := ⟨aw_at 1125 (by decide +kernel) rfl, aw_at 1127 (by decide +kernel) rfl, aw_at 67 (by decide +kernel) rfl, aw_at 73 (by decide +kernel) rfl, aw_at 1128 (by decide +kernel) rfl, by decide +kernel, by decide⟩
end
section
/-! contracts of the reference's methods: over M and R -/
abbrev Mt : Type := Nat → Int32
abbrev Rt : Type := Nat → Nat → Int32
def mI (G : Gx) (h : Nat) (ad : Nat → Nat) (y : MethodName) (b : ByteArray) (nL : Nat) (rt : FieldType) (d : Nat) (avs : List Value) (M : Mt) (R : Rt) (post : Int32 → Mt → Rt → Prop) : Prop :=
  CI G y b nL rt d 0 0 (.ref h :: avs) (mW G h ad M R) (S := Mt × Rt) (fun r u => post r u.1 u.2) (fun u => mW G h ad u.1 u.2)
def mV (G : Gx) (h : Nat) (ad : Nat → Nat) (y : MethodName) (b : ByteArray) (nL : Nat) (d : Nat) (avs : List Value) (M : Mt) (R : Rt) (post : Mt → Rt → Prop) : Prop :=
  CV G y b nL d 0 0 (.ref h :: avs) (mW G h ad M R) (S := Mt × Rt) (fun u => post u.1 u.2) (fun u => mW G h ad u.1 u.2)
theorem mI.intro {G : Gx} {h : Nat} {ad : Nat → Nat} {y : MethodName} {b : ByteArray} {nL : Nat} {rt : FieldType} {d : Nat} {avs : List Value} {M : Mt} {R : Rt} {post : Int32 → Mt → Rt → Prop} (hy : plainName y.cls = true) (hn : (Value.ref h :: avs).length ≤ nL) (hc : ∀ v ∈ (Value.ref h :: avs), v.category = 1)
    (body : ∀ X : Fx, Cx X G nL b y.cls d 0 0 → (∀ (pc : Nat) (L : List (Option Value)) (v : Int32) (M' : Mt) (R' : Rt), narrow rt (.int v) = .int v → decode b pc = .ok (.ireturn, 1) → post v M' R' → V X 0 0 pc L [.int v] (mW G h ad M' R')) → V X 0 0 0 (ent (.ref h :: avs) nL) [] (mW G h ad M R)) : mI G h ad y b nL rt d avs M R post :=
  CI.intro hy hn hc fun X C hR => body X C fun pc L v M' R' h1 h2 h3 => hR 0 0 pc L v (M', R') (Nat.le_refl _) (Nat.le_refl _) h1 h3 h2
theorem mV.intro {G : Gx} {h : Nat} {ad : Nat → Nat} {y : MethodName} {b : ByteArray} {nL : Nat} {d : Nat} {avs : List Value} {M : Mt} {R : Rt} {post : Mt → Rt → Prop} (hy : plainName y.cls = true) (hn : (Value.ref h :: avs).length ≤ nL) (hc : ∀ v ∈ (Value.ref h :: avs), v.category = 1)
    (body : ∀ X : Fx, Cx X G nL b y.cls d 0 0 → (∀ (pc : Nat) (L : List (Option Value)) (M' : Mt) (R' : Rt), decode b pc = .ok (.return_, 1) → post M' R' → V X 0 0 pc L [] (mW G h ad M' R')) → V X 0 0 0 (ent (.ref h :: avs) nL) [] (mW G h ad M R)) : mV G h ad y b nL d avs M R post :=
  CV.intro hy hn hc fun X C hR => body X C fun pc L M' R' h2 h3 => hR 0 0 pc L (M', R') (Nat.le_refl _) (Nat.le_refl _) h3 h2
theorem cat1 {h : Nat} {xs : List Int32} : ∀ v ∈ (Value.ref h :: xs.map Value.int), v.category = 1 := by
  intro v hv
  rcases List.mem_cons.mp hv with q | q
  · subst q; rfl
  · obtain ⟨x, -, rfl⟩ := List.mem_map.mp q
    rfl
abbrev is28 : List Nat := [0, 1, 2, 3, 4, 5, 6, 7, 8, 9, 10, 11, 12, 13, 14, 15, 16, 17, 18, 19, 20, 21, 22, 23, 24, 25, 26, 27]
section MC
variable {X : Fx} {G : Gx} {nL : Nat} {cc : ByteArray} {d mc ms k n pc : Nat} {L : List (Option Value)} {st : List Value} {h : Nat} {ad : Nat → Nat} {M : Mt} {R : Rt}
theorem m_calli (C : Cx X G nL cc RX7 d mc ms) {y : MethodName} {b : ByteArray} {nL' idx np d' : Nat} {rt : FieldType} {As : List Value} {post : Int32 → Mt → Rt → Prop} (hM : mI G h ad y b nL' rt d' As M R post) (hI : KV RX7 idx y b nL' (some rt) np) (hdg : decode cc pc = .ok (.invokevirtual idx, 3)) (hnp : As.length = np) (hd : d' + 1 ≤ d) (hk : k ≤ mc) (hn : n ≤ ms) (hst : (st.map fun v => v.category).sum ≤ 8) (hy : RX7 = y.cls)
    {st0 : List Value} (hs0 : st0 = As.reverse ++ .ref h :: st) (kk : ∀ (r : Int32) (M' : Mt) (R' : Rt), post r M' R' → V X k n (pc + 3) L (.int r :: st) (mW G h ad M' R')) : V X k n pc L st0 (mW G h ad M R) :=
  r_callVi C hM hI hdg hnp hd hk hn hst 0 (ci := 7) rfl rfl hy is28 [] (by decide) rfl (wr := []) rfl rfl (fun _ h => absurd h List.not_mem_nil) hs0 (fun r u hu => kk r u.1 u.2 hu)
theorem m_callv (C : Cx X G nL cc RX7 d mc ms) {y : MethodName} {b : ByteArray} {nL' idx np d' : Nat} {As : List Value} {post : Mt → Rt → Prop} (hM : mV G h ad y b nL' d' As M R post) (hI : KV RX7 idx y b nL' none np) (hdg : decode cc pc = .ok (.invokevirtual idx, 3)) (hnp : As.length = np) (hd : d' + 1 ≤ d) (hk : k ≤ mc) (hn : n ≤ ms) (hst : (st.map fun v => v.category).sum ≤ 8) (hy : RX7 = y.cls)
    {st0 : List Value} (hs0 : st0 = As.reverse ++ .ref h :: st) (kk : ∀ (M' : Mt) (R' : Rt), post M' R' → V X k n (pc + 3) L st (mW G h ad M' R')) : V X k n pc L st0 (mW G h ad M R) :=
  r_callVv C hM hI hdg hnp hd hk hn hst 0 (ci := 7) rfl rfl hy is28 [] (by decide) rfl (wr := []) rfl rfl (fun _ h => absurd h List.not_mem_nil) hs0 (fun u hu => kk u.1 u.2 hu)
end MC
end
section
/-! the reference: thrown, right, wrong, isDigit, now, skip, fault, size, isPattern, lays, feed -/
theorem up_same {α : Type} {f : Nat → α} {k : Nat} {v : α} (h : f k = v) : va_up f k v = f := by
  funext j
  unfold va_up
  split
  · next e => rw [e, h]
  · rfl
theorem up_up {α : Type} {f : Nat → α} {k : Nat} {v w : α} : va_up (va_up f k v) k w = va_up f k w := by
  funext j
  unfold va_up
  split <;> rfl
def rightM (M : Mt) (b w : Int32) : Mt := if M 0 = 0 ∧ b = 0 then va_up M 0 w else M
section M1
variable (G : Gx) (h : Nat) (ad : Nat → Nat) (M : Mt) (R : Rt)
theorem c_thrown : mI G h ad yX7_thrown cX7_thrown 1 .int 0 [] M R (fun r M' R' => r = M 0 ∧ M' = M ∧ R' = R) := by
  refine mI.intro (by decide) (Nat.le_of_ble_eq_true rfl) (cat1 (xs := [])) fun X C hR => ?_
  refine r_aload_n C dX7_thrown_0 rfl rfl ?_
  refine mg_thrown C dX7_thrown_1 ?_
  exact hR _ _ _ _ _ rfl dX7_thrown_4 ⟨rfl, rfl, rfl⟩
theorem c_right (b w : Int32) : mI G h ad yX7_right cX7_right 3 .boolean 0 [.int b, .int w] M R (fun r M' R' => R' = R ∧ M' = rightM M b w ∧ r = if rightM M b w 0 = 0 then 1 else 0) := by
  refine mI.intro (by decide) (Nat.le_of_ble_eq_true rfl) (cat1 (xs := [b, w])) fun X C hR => ?_
  refine r_aload_n C dX7_right_0 rfl rfl ?_
  refine mg_thrown C dX7_right_1 ?_
  refine r_if_ne (tgt := 16) C dX7_right_4 (by decide) (fun c4 => ?_) (fun c4 => ?_)
  · refine r_aload_n C dX7_right_16 rfl rfl ?_
    refine mg_thrown C dX7_right_17 ?_
    refine r_if_ne (tgt := 27) C dX7_right_20 (by decide) (fun c20 => ?_) (fun c20 => ?_)
    · refine r_iconst (v := 0) C dX7_right_27 (by decide) ?_
      exact hR _ _ _ _ _ rfl dX7_right_28 (by unfold rightM; simp_all [va_up])
    · refine r_iconst (v := 1) C dX7_right_23 (by decide) ?_
      refine r_goto (tgt := 28) C dX7_right_24 (by decide) ?_
      exact hR _ _ _ _ _ rfl dX7_right_28 (by unfold rightM; simp_all [va_up])
  · refine r_iload_n C dX7_right_7 rfl rfl ?_
    refine r_if_ne (tgt := 16) C dX7_right_8 (by decide) (fun c8 => ?_) (fun c8 => ?_)
    · refine r_aload_n C dX7_right_16 rfl rfl ?_
      refine mg_thrown C dX7_right_17 ?_
      refine r_if_ne (tgt := 27) C dX7_right_20 (by decide) (fun c20 => ?_) (fun c20 => ?_)
      · refine r_iconst (v := 0) C dX7_right_27 (by decide) ?_
        exact hR _ _ _ _ _ rfl dX7_right_28 (by unfold rightM; simp_all [va_up])
      · refine r_iconst (v := 1) C dX7_right_23 (by decide) ?_
        refine r_goto (tgt := 28) C dX7_right_24 (by decide) ?_
        exact hR _ _ _ _ _ rfl dX7_right_28 (by unfold rightM; simp_all [va_up])
    · refine r_aload_n C dX7_right_11 rfl rfl ?_
      refine r_iload_n C dX7_right_12 rfl rfl ?_
      refine mp_thrown C dX7_right_13 ?_
      refine r_aload_n C dX7_right_16 rfl rfl ?_
      refine mg_thrown C dX7_right_17 ?_
      refine r_if_ne (tgt := 27) C dX7_right_20 (by decide) (fun c20 => ?_) (fun c20 => ?_)
      · refine r_iconst (v := 0) C dX7_right_27 (by decide) ?_
        exact hR _ _ _ _ _ rfl dX7_right_28 (by unfold rightM; simp_all [va_up])
      · refine r_iconst (v := 1) C dX7_right_23 (by decide) ?_
        refine r_goto (tgt := 28) C dX7_right_24 (by decide) ?_
        exact hR _ _ _ _ _ rfl dX7_right_28 (by unfold rightM; simp_all [va_up])
theorem c_wrong (kd pl : Int32) : mI G h ad yX7_wrong cX7_wrong 3 .boolean 0 [.int kd, .int pl] M R (fun r M' R' => r = 0 ∧ R' = R ∧ M' = if M 3 = 0 then va_up (va_up M 3 kd) 4 pl else M) := by
  refine mI.intro (by decide) (Nat.le_of_ble_eq_true rfl) (cat1 (xs := [kd, pl])) fun X C hR => ?_
  refine r_aload_n C dX7_wrong_0 rfl rfl ?_
  refine mg_faultKind C dX7_wrong_1 ?_
  refine r_if_ne (tgt := 17) C dX7_wrong_4 (by decide) (fun c4 => ?_) (fun c4 => ?_)
  · refine r_iconst (v := 0) C dX7_wrong_17 (by decide) ?_
    exact hR _ _ _ _ _ rfl dX7_wrong_18 (by simp_all)
  · refine r_aload_n C dX7_wrong_7 rfl rfl ?_
    refine r_iload_n C dX7_wrong_8 rfl rfl ?_
    refine mp_faultKind C dX7_wrong_9 ?_
    refine r_aload_n C dX7_wrong_12 rfl rfl ?_
    refine r_iload_n C dX7_wrong_13 rfl rfl ?_
    refine mp_faultPlace C dX7_wrong_14 ?_
    refine r_iconst (v := 0) C dX7_wrong_17 (by decide) ?_
    exact hR _ _ _ _ _ rfl dX7_wrong_18 (by simp_all)
theorem c_isDigit (c : Int32) : CI G yX7_isDigit cX7_isDigit 1 .boolean 0 0 0 [.int c] [] (S := Unit) (fun r _ => r = if 48 ≤ c ∧ c ≤ 57 then 1 else 0) (fun _ => []) := by
  refine CI.intro (by decide) (Nat.le_of_ble_eq_true rfl) (by intro v hv; simp at hv; subst hv; rfl) fun X C hR => ?_
  refine r_iload_n C dX7_isDigit_0 rfl rfl ?_
  refine r_bipush (v := 48) C dX7_isDigit_1 (by decide) ?_
  refine r_icmp_lt (tgt := 16) C dX7_isDigit_3 (by decide) (fun c3 => ?_) (fun c3 => ?_)
  · refine r_iconst (v := 0) C dX7_isDigit_16 (by decide) ?_
    exact hR _ _ _ _ _ () (Nat.le_refl _) (Nat.le_refl _) rfl (by first | (rw [if_pos ⟨Int32.not_lt.mp c3, Int32.not_lt.mp c9⟩]; done) | (rw [if_neg (fun q => absurd q.1 (Int32.not_le.mpr c3))]; done) | (rw [if_neg (fun q => absurd q.2 (Int32.not_le.mpr c9))]; done)) dX7_isDigit_17
  · refine r_iload_n C dX7_isDigit_6 rfl rfl ?_
    refine r_bipush (v := 57) C dX7_isDigit_7 (by decide) ?_
    refine r_icmp_gt (tgt := 16) C dX7_isDigit_9 (by decide) (fun c9 => ?_) (fun c9 => ?_)
    · refine r_iconst (v := 0) C dX7_isDigit_16 (by decide) ?_
      exact hR _ _ _ _ _ () (Nat.le_refl _) (Nat.le_refl _) rfl (by first | (rw [if_pos ⟨Int32.not_lt.mp c3, Int32.not_lt.mp c9⟩]; done) | (rw [if_neg (fun q => absurd q.1 (Int32.not_le.mpr c3))]; done) | (rw [if_neg (fun q => absurd q.2 (Int32.not_le.mpr c9))]; done)) dX7_isDigit_17
    · refine r_iconst (v := 1) C dX7_isDigit_12 (by decide) ?_
      refine r_goto (tgt := 17) C dX7_isDigit_13 (by decide) ?_
      exact hR _ _ _ _ _ () (Nat.le_refl _) (Nat.le_refl _) rfl (by first | (rw [if_pos ⟨Int32.not_lt.mp c3, Int32.not_lt.mp c9⟩]; done) | (rw [if_neg (fun q => absurd q.1 (Int32.not_le.mpr c3))]; done) | (rw [if_neg (fun q => absurd q.2 (Int32.not_le.mpr c9))]; done)) dX7_isDigit_17
theorem c_now {a e : Nat} (ha : M 9 = nI a) (he : M 8 = nI e) (h8 : e ≤ 800) (hae : a ≤ e) : mI G h ad yX7_now cX7_now 1 .int 0 [] M R (fun r M' R' => r = (if a < e then R 1 a else 0) ∧ M' = M ∧ R' = R) := by
  refine mI.intro (by decide) (Nat.le_of_ble_eq_true rfl) (cat1 (xs := [])) fun X C hR => ?_
  refine r_aload_n C dX7_now_0 rfl rfl ?_
  refine mg_at C dX7_now_1 ?_
  refine r_aload_n C dX7_now_4 rfl rfl ?_
  refine mg_end C dX7_now_5 ?_
  refine r_icmp_ge (tgt := 23) C dX7_now_8 (by decide) (fun c8 => ?_) (fun c8 => ?_)
  · rw [ha, he, nI_leI (by omega) (by omega)] at c8
    refine r_iconst (v := 0) C dX7_now_23 (by decide) ?_
    exact hR _ _ _ _ _ rfl dX7_now_24 ⟨by first | (rw [if_neg (by omega)]; done) | (rw [if_pos (by omega), ha, nI_clamp (by omega)]; done), rfl, rfl⟩
  · rw [ha, he, nI_leI (by omega) (by omega)] at c8
    refine r_aload_n C dX7_now_11 rfl rfl ?_
    refine mg_tape C dX7_now_12 ?_
    refine r_aload_n C dX7_now_15 rfl rfl ?_
    refine mg_at C dX7_now_16 ?_
    refine ml_tape C dX7_now_19 (by rw [ha]; exact vp_in_nI (by omega) (by decide)) ?_
    refine r_goto (tgt := 24) C dX7_now_20 (by decide) ?_
    exact hR _ _ _ _ _ rfl dX7_now_24 ⟨by first | (rw [if_neg (by omega)]; done) | (rw [if_pos (by omega), ha, nI_clamp (by omega)]; done), rfl, rfl⟩
/-- past the blanks -/
def skp (t : Nat → Int32) (e : Nat) : Nat → Nat → Nat
  | 0, a => a
  | f + 1, a => if a < e ∧ (t a = 32 ∨ t a = 10) then skp t e f (a + 1) else a
def skipTo (t : Nat → Int32) (e a : Nat) : Nat := skp t e (e - a) a
theorem skipTo_go {t : Nat → Int32} {e a : Nat} (h : a < e) (hb : t a = 32 ∨ t a = 10) : skipTo t e a = skipTo t e (a + 1) := by
  unfold skipTo
  rw [show e - a = (e - (a + 1)) + 1 by omega]
  show (if a < e ∧ (t a = 32 ∨ t a = 10) then skp t e (e - (a + 1)) (a + 1) else a) = _
  rw [if_pos ⟨h, hb⟩]
theorem skipTo_stop {t : Nat → Int32} {e a : Nat} (h : ¬ (a < e ∧ (t a = 32 ∨ t a = 10))) : skipTo t e a = a := by
  unfold skipTo
  cases e - a with
  | zero => rfl
  | succ f => exact if_neg h
theorem skp_le {t : Nat → Int32} {e : Nat} : ∀ (f a : Nat), a ≤ e → a ≤ skp t e f a ∧ skp t e f a ≤ e
  | 0, a, h => ⟨Nat.le_refl _, h⟩
  | f + 1, a, h => by
    unfold skp
    split
    · next q =>
      have := skp_le (t := t) (e := e) f (a + 1) q.1
      omega
    · exact ⟨Nat.le_refl _, h⟩
theorem skipTo_le {t : Nat → Int32} {e a : Nat} (h : a ≤ e) : a ≤ skipTo t e a ∧ skipTo t e a ≤ e := skp_le _ _ h
theorem c_skip {a e : Nat} (ha : M 9 = nI a) (he : M 8 = nI e) (h8 : e ≤ 800) (hae : a ≤ e) : mV G h ad yX7_skip cX7_skip 1 0 [] M R (fun M' R' => M' = va_up M 9 (nI (skipTo (R 1) e a)) ∧ R' = R) := by
  refine mV.intro (by decide) (Nat.le_of_ble_eq_true rfl) (cat1 (xs := [])) fun X C hR => ?_
  suffices key : ∀ (f b : Nat), e - b = f → b ≤ e → skipTo (R 1) e b = skipTo (R 1) e a → V X 0 0 0 [some (.ref h)] [] (mW G h ad (va_up M 9 (nI b)) R) by
    have q := key _ a rfl hae rfl
    rw [up_same ha] at q
    exact q
  intro f
  induction f with
  | zero =>
    intro b hf hb hs
    have hbe : b = e := by omega
    refine r_aload_n C dX7_skip_0 rfl rfl ?_
    refine mg_at C dX7_skip_1 ?_
    refine r_aload_n C dX7_skip_4 rfl rfl ?_
    refine mg_end C dX7_skip_5 ?_
    refine r_icmp_ge (tgt := 52) C dX7_skip_8 (by decide) (fun c8 => ?_) (fun c8 => absurd c8 ((by rw [show va_up M 9 (nI b) 8 = M 8 from rfl, show va_up M 9 (nI b) 9 = nI b from rfl, he, nI_leI (by omega) (by omega)]; omega)))
    exact hR _ _ _ _ dX7_skip_52 ⟨by rw [← hs, skipTo_stop (by omega)], rfl⟩
  | succ f ih =>
    intro b hf hb hs
    refine r_aload_n C dX7_skip_0 rfl rfl ?_
    refine mg_at C dX7_skip_1 ?_
    refine r_aload_n C dX7_skip_4 rfl rfl ?_
    refine mg_end C dX7_skip_5 ?_
    refine r_icmp_ge (tgt := 52) C dX7_skip_8 (by decide) (fun c8 => absurd c8 ((by rw [show va_up M 9 (nI b) 8 = M 8 from rfl, show va_up M 9 (nI b) 9 = nI b from rfl, he, nI_leI (by omega) (by omega)]; omega))) (fun c8 => ?_)
    refine r_aload_n C dX7_skip_11 rfl rfl ?_
    refine mg_tape C dX7_skip_12 ?_
    refine r_aload_n C dX7_skip_15 rfl rfl ?_
    refine mg_at C dX7_skip_16 ?_
    refine ml_tape C dX7_skip_19 (vp_in_nI (show b < 800 by omega) (by decide)) ?_
    show V X 0 0 20 _ [.int (R 1 (nI b).toNatClampNeg)] _
    rw [nI_clamp (by omega)]
    refine r_bipush (v := 32) C dX7_skip_20 (by decide) ?_
    refine r_icmp_eq (tgt := 39) C dX7_skip_22 (by decide) (fun c22 => ?_) (fun c22 => ?_)
    · have hbl : R 1 b = 32 ∨ R 1 b = 10 := by simp_all
      refine r_aload_n C dX7_skip_39 rfl rfl ?_
      refine r_dup C dX7_skip_40 rfl ?_
      refine mg_at C dX7_skip_41 ?_
      refine r_iconst (v := 1) C dX7_skip_44 (by decide) ?_
      refine r_iadd C dX7_skip_45 ?_
      refine mp_at C dX7_skip_46 ?_
      show V X 0 0 49 _ _ (mW G h ad (va_up (va_up M 9 (nI b)) 9 (nI b + 1)) R)
      rw [up_up, nI_1]
      refine r_goto (tgt := 0) C dX7_skip_49 (by decide) ?_
      exact ih (b + 1) (by omega) (by omega) (by rw [← hs]; exact (skipTo_go (by omega) hbl).symm)
    · refine r_aload_n C dX7_skip_25 rfl rfl ?_
      refine mg_tape C dX7_skip_26 ?_
      refine r_aload_n C dX7_skip_29 rfl rfl ?_
      refine mg_at C dX7_skip_30 ?_
      refine ml_tape C dX7_skip_33 (vp_in_nI (show b < 800 by omega) (by decide)) ?_
      show V X 0 0 34 _ [.int (R 1 (nI b).toNatClampNeg)] _
      rw [nI_clamp (by omega)]
      refine r_bipush (v := 10) C dX7_skip_34 (by decide) ?_
      refine r_icmp_ne (tgt := 52) C dX7_skip_36 (by decide) (fun c36 => ?_) (fun c36 => ?_)
      · exact hR _ _ _ _ dX7_skip_52 ⟨by rw [← hs, skipTo_stop (by simp_all)], rfl⟩
      · have hbl : R 1 b = 32 ∨ R 1 b = 10 := by simp_all
        refine r_aload_n C dX7_skip_39 rfl rfl ?_
        refine r_dup C dX7_skip_40 rfl ?_
        refine mg_at C dX7_skip_41 ?_
        refine r_iconst (v := 1) C dX7_skip_44 (by decide) ?_
        refine r_iadd C dX7_skip_45 ?_
        refine mp_at C dX7_skip_46 ?_
        show V X 0 0 49 _ _ (mW G h ad (va_up (va_up M 9 (nI b)) 9 (nI b + 1)) R)
        rw [up_up, nI_1]
        refine r_goto (tgt := 0) C dX7_skip_49 (by decide) ?_
        exact ih (b + 1) (by omega) (by omega) (by rw [← hs]; exact (skipTo_go (by omega) hbl).symm)
theorem c_fault (w : Int32) : mI G h ad yX7_fault cX7_fault 2 .int 1 [.int w] M R (fun r M' R' => R' = R ∧ (if w = 0 then r = M 3 ∧ M' = va_up M 0 0 else if w = 1 then r = M 4 ∧ M' = va_up M 0 0 else r = 0 ∧ M' = va_up M 0 1)) := by
  refine mI.intro (by decide) (Nat.le_of_ble_eq_true rfl) (cat1 (xs := [w])) fun X C hR => ?_
  have j20 : ∀ b : Int32, b = (if w = 0 ∨ w = 1 then 1 else 0) → V X 0 0 20 (ent [.ref h, .int w] 2) [.int b, .ref h] (mW G h ad (va_up M 0 0) R) := by
    intro b hb
    refine r_iconst (v := 1) C dX7_fault_20 (by decide) ?_
    refine m_calli C (c_right G h ad _ _ b 1) kM_right dX7_fault_21 rfl (by decide) (by decide) (by decide) (by decide) rfl rfl (fun r M1 R1 hp => ?_)
    obtain ⟨rfl, rfl, rfl⟩ := hp
    refine r_if_ne (tgt := 29) C dX7_fault_24 (by decide) (fun c24 => ?_) (fun c24 => ?_)
    · refine r_iload_n C dX7_fault_29 rfl rfl ?_
      refine r_if_ne (tgt := 40) C dX7_fault_30 (by decide) (fun c30 => ?_) (fun c30 => ?_)
      · refine r_aload_n C dX7_fault_40 rfl rfl ?_
        refine mg_faultPlace C dX7_fault_41 ?_
        exact hR _ _ _ _ _ rfl dX7_fault_44 (by unfold rightM at *; by_cases w0 : w = 0 <;> by_cases w1 : w = 1 <;> simp_all [va_up, rightM, up_up])
      · refine r_aload_n C dX7_fault_33 rfl rfl ?_
        refine mg_faultKind C dX7_fault_34 ?_
        refine r_goto (tgt := 44) C dX7_fault_37 (by decide) ?_
        exact hR _ _ _ _ _ rfl dX7_fault_44 (by unfold rightM at *; by_cases w0 : w = 0 <;> by_cases w1 : w = 1 <;> simp_all [va_up, rightM, up_up])
    · refine r_iconst (v := 0) C dX7_fault_27 (by decide) ?_
      exact hR _ _ _ _ _ rfl dX7_fault_28 (by unfold rightM at *; by_cases w0 : w = 0 <;> by_cases w1 : w = 1 <;> simp_all [va_up, rightM, up_up])
  refine r_aload_n C dX7_fault_0 rfl rfl ?_
  refine r_iconst (v := 0) C dX7_fault_1 (by decide) ?_
  refine mp_thrown C dX7_fault_2 ?_
  refine r_aload_n C dX7_fault_5 rfl rfl ?_
  refine r_iload_n C dX7_fault_6 rfl rfl ?_
  refine r_if_eq (tgt := 15) C dX7_fault_7 (by decide) (fun c7 => ?_) (fun c7 => ?_)
  · refine r_iconst (v := 1) C dX7_fault_15 (by decide) ?_
    refine r_goto (tgt := 20) C dX7_fault_16 (by decide) ?_
    exact j20 _ (by simp_all)
  · refine r_iload_n C dX7_fault_10 rfl rfl ?_
    refine r_iconst (v := 1) C dX7_fault_11 (by decide) ?_
    refine r_icmp_ne (tgt := 19) C dX7_fault_12 (by decide) (fun c12 => ?_) (fun c12 => ?_)
    · refine r_iconst (v := 0) C dX7_fault_19 (by decide) ?_
      exact j20 _ (by simp_all)
    · refine r_iconst (v := 1) C dX7_fault_15 (by decide) ?_
      refine r_goto (tgt := 20) C dX7_fault_16 (by decide) ?_
      exact j20 _ (by simp_all)
theorem c_size (kk : Int32) (j : Nat) (hj : ¬ kk < 0 → ¬ 7 < kk → kk = nI j ∧ j < 8) : mI G h ad yX7_size cX7_size 2 .int 0 [.int kk] M R (fun r M' R' => R' = R ∧ M' = va_up M 0 0 ∧ r = if ¬ kk < 0 ∧ ¬ 7 < kk ∧ 0 < R 5 j then R 6 j else -1) := by
  refine mI.intro (by decide) (Nat.le_of_ble_eq_true rfl) (cat1 (xs := [kk])) fun X C hR => ?_
  refine r_aload_n C dX7_size_0 rfl rfl ?_
  refine r_iconst (v := 0) C dX7_size_1 (by decide) ?_
  refine mp_thrown C dX7_size_2 ?_
  refine r_iload_n C dX7_size_5 rfl rfl ?_
  refine r_if_lt (tgt := 33) C dX7_size_6 (by decide) (fun c6 => ?_) (fun c6 => ?_)
  · refine r_iconst (v := -1) C dX7_size_33 (by decide) ?_
    exact hR _ _ _ _ _ rfl dX7_size_34 ⟨rfl, rfl, by simp_all [Int32.not_lt, Int32.not_le] <;> (intro q; exact absurd q (Int32.not_lt.mpr c21))⟩
  · refine r_iload_n C dX7_size_9 rfl rfl ?_
    refine r_bipush (v := 7) C dX7_size_10 (by decide) ?_
    refine r_icmp_gt (tgt := 33) C dX7_size_12 (by decide) (fun c12 => ?_) (fun c12 => ?_)
    · refine r_iconst (v := -1) C dX7_size_33 (by decide) ?_
      exact hR _ _ _ _ _ rfl dX7_size_34 ⟨rfl, rfl, by simp_all [Int32.not_lt, Int32.not_le] <;> (intro q; exact absurd q (Int32.not_lt.mpr c21))⟩
    · obtain ⟨rfl, hj8⟩ := hj c6 c12
      refine r_aload_n C dX7_size_15 rfl rfl ?_
      refine mg_straws C dX7_size_16 ?_
      refine r_iload_n C dX7_size_19 rfl rfl ?_
      refine ml_straws C dX7_size_20 (vp_in_nI hj8 (by decide)) ?_
      rw [nI_clamp (by omega)]
      refine r_if_le (tgt := 33) C dX7_size_21 (by decide) (fun c21 => ?_) (fun c21 => ?_)
      · refine r_iconst (v := -1) C dX7_size_33 (by decide) ?_
        exact hR _ _ _ _ _ rfl dX7_size_34 ⟨rfl, rfl, by simp_all [Int32.not_lt, Int32.not_le] <;> (intro q; exact absurd q (Int32.not_lt.mpr c21))⟩
      · refine r_aload_n C dX7_size_24 rfl rfl ?_
        refine mg_sizes C dX7_size_25 ?_
        refine r_iload_n C dX7_size_28 rfl rfl ?_
        refine ml_sizes C dX7_size_29 (vp_in_nI hj8 (by decide)) ?_
        rw [nI_clamp (by omega)]
        refine r_goto (tgt := 34) C dX7_size_30 (by decide) ?_
        exact hR _ _ _ _ _ rfl dX7_size_34 ⟨rfl, rfl, by simp_all [Int32.not_lt, Int32.not_le] <;> (intro q; exact absurd q (Int32.not_lt.mpr c21))⟩
end M1
end
section
/-! the reference: lays, feed, isPattern, crossing, isPlace, get, bundle, left -/
def ks (i : Nat) : Int32 := match i with
  | 0 => 24
  | 1 => 16
  | 2 => 8
  | 3 => 0
  | _ => -8
def layN (f : Nat → Int32) (t : Nat) (v : Int32) : Nat → Nat → Int32
  | 0 => f
  | i + 1 => upd (layN f t v i) (t + i) ((v >>> (ks i &&& 31)) &&& 255)
section M2
variable (G : Gx) (h : Nat) (ad : Nat → Nat) (M : Mt) (R : Rt)
theorem c_lays {t : Nat} (v : Int32) (ht : M 2 = nI t) (h8 : t + 4 ≤ 800) : mV G h ad yX7_lays cX7_lays 3 0 [.int v] M R (fun M' R' => M' = va_up M 2 (nI (t + 4)) ∧ R' = va_up R 1 (layN (R 1) t v 4)) := by
  refine mV.intro (by decide) (Nat.le_of_ble_eq_true rfl) (cat1 (xs := [v])) fun X C hR => ?_
  have key : ∀ (f i : Nat), i + f = 4 → V X 0 0 3 [some (.ref h), some (.int v), some (.int (ks i))] [] (mW G h ad (va_up M 2 (nI (t + i))) (va_up R 1 (layN (R 1) t v i))) := by
    intro f
    induction f with
    | zero =>
      intro i hi
      have hi4 : i = 4 := by omega
      subst hi4
      refine r_iload_n C dX7_lays_3 rfl rfl ?_
      refine r_if_lt (tgt := 39) C dX7_lays_4 (by decide) (fun c4 => ?_) (fun c4 => absurd c4 ((by decide)))
      exact hR _ _ _ _ dX7_lays_39 ⟨rfl, rfl⟩
    | succ f ih =>
      intro i hi
      have hp : ¬ ks i < 0 := by
        rcases (show i = 0 ∨ i = 1 ∨ i = 2 ∨ i = 3 by omega) with rfl | rfl | rfl | rfl <;> decide
      have hq : ks i + (-8) = ks (i + 1) := by
        rcases (show i = 0 ∨ i = 1 ∨ i = 2 ∨ i = 3 by omega) with rfl | rfl | rfl | rfl <;> decide
      refine r_iload_n C dX7_lays_3 rfl rfl ?_
      refine r_if_lt (tgt := 39) C dX7_lays_4 (by decide) (fun c4 => absurd c4 (hp)) (fun c4 => ?_)
      refine r_aload_n C dX7_lays_7 rfl rfl ?_
      refine mg_tape C dX7_lays_8 ?_
      refine r_aload_n C dX7_lays_11 rfl rfl ?_
      refine mg_taped C dX7_lays_12 ?_
      refine r_iload_n C dX7_lays_15 rfl rfl ?_
      refine r_iload_n C dX7_lays_16 rfl rfl ?_
      refine r_ishr C dX7_lays_17 ?_
      refine r_sipush (v := 255) C dX7_lays_18 (by decide) ?_
      refine r_iand C dX7_lays_21 ?_
      refine ms_tape C dX7_lays_22 (vp_in_nI (show t + i < 800 by omega) (by decide)) ?_
      show V X 0 0 23 _ _ (mW G h ad _ (va_up (va_up R 1 (layN (R 1) t v i)) 1 (upd (layN (R 1) t v i) (nI (t + i)).toNatClampNeg _)))
      rw [nI_clamp (by omega), up_up]
      refine r_aload_n C dX7_lays_23 rfl rfl ?_
      refine r_dup C dX7_lays_24 rfl ?_
      refine mg_taped C dX7_lays_25 ?_
      refine r_iconst (v := 1) C dX7_lays_28 (by decide) ?_
      refine r_iadd C dX7_lays_29 ?_
      refine mp_taped C dX7_lays_30 ?_
      show V X 0 0 33 _ _ (mW G h ad (va_up (va_up M 2 (nI (t + i))) 2 (nI (t + i) + 1)) _)
      rw [up_up, nI_1]
      refine r_iinc (v := _ + (-8)) C dX7_lays_33 rfl (by rfl) (by decide) ?_
      show V X 0 0 36 [some (.ref h), some (.int v), some (.int (ks i + (-8)))] _ _
      rw [hq]
      refine r_goto (tgt := 3) C dX7_lays_36 (by decide) ?_
      exact ih (i + 1) (by omega)
  have k0 := key 4 0 rfl
  rw [Nat.add_zero, up_same ht, show layN (R 1) t v 0 = R 1 from rfl, up_same rfl] at k0
  refine r_bipush (v := 24) C dX7_lays_0 (by decide) ?_
  refine r_istore_n C dX7_lays_2 rfl (by decide) ?_
  exact k0
def feedT (f : Nat → Int32) (t : Nat) (a b c d e : Int32) : Nat → Int32 := layN (layN (layN (layN (layN f t a 4) (t + 4) b 4) (t + 8) c 4) (t + 12) d 4) (t + 16) e 4
theorem c_feed {t : Nat} (a b c d e : Int32) (ht : M 2 = nI t) (h8 : t ≤ 800) : mI G h ad yX7_feed cX7_feed 6 .int 1 [.int a, .int b, .int c, .int d, .int e] M R (fun r M' R' => if t ≤ 780 then r = nI (t + 20) ∧ M' = va_up (va_up M 0 0) 2 (nI (t + 20)) ∧ R' = va_up R 1 (feedT (R 1) t a b c d e) else r = -1 ∧ M' = va_up M 0 0 ∧ R' = R) := by
  refine mI.intro (by decide) (Nat.le_of_ble_eq_true rfl) (cat1 (xs := [a, b, c, d, e])) fun X C hR => ?_
  have e20 : nI t + 20 = nI (t + 20) := nI_add t 20
  have c800 : (800 : Int32) = nI 800 := rfl
  refine r_aload_n C dX7_feed_0 rfl rfl ?_
  refine r_iconst (v := 0) C dX7_feed_1 (by decide) ?_
  refine mp_thrown C dX7_feed_2 ?_
  refine r_aload_n C dX7_feed_5 rfl rfl ?_
  refine mg_taped C dX7_feed_6 ?_
  refine r_bipush (v := 20) C dX7_feed_9 (by decide) ?_
  refine r_iadd C dX7_feed_11 ?_
  refine r_sipush (v := 800) C dX7_feed_12 (by decide) ?_
  show V X 0 0 15 _ [.int 800, .int (M 2 + 20)] _
  rw [ht, e20, c800]
  refine r_icmp_le (tgt := 20) C dX7_feed_15 (by decide) (fun c15 => ?_) (fun c15 => ?_)
  · rw [nI_leI (by omega) (by omega)] at c15
    refine r_aload_n C dX7_feed_20 rfl rfl ?_
    refine r_iload_n C dX7_feed_21 rfl rfl ?_
    refine m_callv C (c_lays G h ad (va_up M 0 0) R (t := t) a ht (by omega)) kM_lays dX7_feed_22 rfl (by decide) (by decide) (by decide) (by decide) rfl rfl (fun M1 R1 hp => ?_)
    obtain ⟨rfl, rfl⟩ := hp
    refine r_aload_n C dX7_feed_25 rfl rfl ?_
    refine r_iload_n C dX7_feed_26 rfl rfl ?_
    refine m_callv C (c_lays G h ad _ _ (t := t + 4) b rfl (by omega)) kM_lays dX7_feed_27 rfl (by decide) (by decide) (by decide) (by decide) rfl rfl (fun M1 R1 hp => ?_)
    obtain ⟨rfl, rfl⟩ := hp
    refine r_aload_n C dX7_feed_30 rfl rfl ?_
    refine r_iload_n C dX7_feed_31 rfl rfl ?_
    refine m_callv C (c_lays G h ad _ _ (t := t + 8) c rfl (by omega)) kM_lays dX7_feed_32 rfl (by decide) (by decide) (by decide) (by decide) rfl rfl (fun M1 R1 hp => ?_)
    obtain ⟨rfl, rfl⟩ := hp
    refine r_aload_n C dX7_feed_35 rfl rfl ?_
    refine r_iload C dX7_feed_36 rfl ?_
    refine m_callv C (c_lays G h ad _ _ (t := t + 12) d rfl (by omega)) kM_lays dX7_feed_38 rfl (by decide) (by decide) (by decide) (by decide) rfl rfl (fun M1 R1 hp => ?_)
    obtain ⟨rfl, rfl⟩ := hp
    refine r_aload_n C dX7_feed_41 rfl rfl ?_
    refine r_iload C dX7_feed_42 rfl ?_
    refine m_callv C (c_lays G h ad _ _ (t := t + 16) e rfl (by omega)) kM_lays dX7_feed_44 rfl (by decide) (by decide) (by decide) (by decide) rfl rfl (fun M1 R1 hp => ?_)
    obtain ⟨rfl, rfl⟩ := hp
    refine r_aload_n C dX7_feed_47 rfl rfl ?_
    refine mg_taped C dX7_feed_48 ?_
    exact hR _ _ _ _ _ rfl dX7_feed_51 (by rw [if_pos (by omega)]; exact ⟨rfl, by simp only [up_up], by simp only [up_up]; rfl⟩)
  · rw [nI_leI (by omega) (by omega)] at c15
    refine r_iconst (v := -1) C dX7_feed_18 (by decide) ?_
    exact hR _ _ _ _ _ rfl dX7_feed_19 (by rw [if_neg (by omega)]; exact ⟨rfl, rfl, rfl⟩)
/-- a pattern's number, and that it is there -/
def isPat (R : Rt) (k : Int32) : Prop := ∃ j : Nat, j < 8 ∧ k = nI j ∧ 0 < R 5 j
theorem c_isPattern (kk : Int32) : mI G h ad yX7_isPattern cX7_isPattern 2 .boolean 1 [.int kk] M R (fun r M' R' => R' = R ∧ ((isPat R kk ∧ r = 1 ∧ M' = va_up M 0 0) ∨ (¬ isPat R kk ∧ r = 0 ∧ M' = va_up M 0 1))) := by
  refine mI.intro (by decide) (Nat.le_of_ble_eq_true rfl) (cat1 (xs := [kk])) fun X C hR => ?_
  have j30 : ∀ b : Int32, (isPat R kk ∧ b = 1) ∨ (¬ isPat R kk ∧ b = 0) → V X 0 0 30 (ent [.ref h, .int kk] 2) [.int b, .ref h] (mW G h ad (va_up M 0 0) R) := by
    intro b hb
    refine r_iconst (v := 1) C dX7_isPattern_30 (by decide) ?_
    refine m_calli C (c_right G h ad _ _ b 1) kM_right dX7_isPattern_31 rfl (by decide) (by decide) (by decide) (by decide) rfl rfl (fun r M1 R1 hp => ?_)
    obtain ⟨rfl, rfl, rfl⟩ := hp
    exact hR _ _ _ _ _ (by split <;> rfl) dX7_isPattern_34 ⟨rfl, by rcases hb with ⟨q, rfl⟩ | ⟨q, rfl⟩ <;> simp [rightM, va_up, q, up_up]⟩
  refine r_aload_n C dX7_isPattern_0 rfl rfl ?_
  refine r_iconst (v := 0) C dX7_isPattern_1 (by decide) ?_
  refine mp_thrown C dX7_isPattern_2 ?_
  refine r_aload_n C dX7_isPattern_5 rfl rfl ?_
  refine r_iload_n C dX7_isPattern_6 rfl rfl ?_
  refine r_if_lt (tgt := 29) C dX7_isPattern_7 (by decide) (fun c7 => ?_) (fun c7 => ?_)
  · refine r_iconst (v := 0) C dX7_isPattern_29 (by decide) ?_
    exact j30 _ (Or.inr ⟨fun ⟨j', q1, q2, q3⟩ => by first | (exact absurd c7 (by rw [q2]; exact nI_pos (by omega))) | (exact absurd c13 (by rw [q2]; exact Int32.not_lt.mpr (nI_le (a := j') (b := 7) (by omega) (by decide)))) | (rw [nI_eq (by omega) (by omega)] at q2; subst q2; exact absurd q3 (Int32.not_lt.mpr c22)), rfl⟩)
  · refine r_iload_n C dX7_isPattern_10 rfl rfl ?_
    refine r_bipush (v := 7) C dX7_isPattern_11 (by decide) ?_
    refine r_icmp_gt (tgt := 29) C dX7_isPattern_13 (by decide) (fun c13 => ?_) (fun c13 => ?_)
    · refine r_iconst (v := 0) C dX7_isPattern_29 (by decide) ?_
      exact j30 _ (Or.inr ⟨fun ⟨j', q1, q2, q3⟩ => by first | (exact absurd c7 (by rw [q2]; exact nI_pos (by omega))) | (exact absurd c13 (by rw [q2]; exact Int32.not_lt.mpr (nI_le (a := j') (b := 7) (by omega) (by decide)))) | (rw [nI_eq (by omega) (by omega)] at q2; subst q2; exact absurd q3 (Int32.not_lt.mpr c22)), rfl⟩)
    · obtain ⟨j, hj8, rfl⟩ := nI_of2 (n := 7) (by decide) c7 (Int32.not_lt.mp c13)
      refine r_aload_n C dX7_isPattern_16 rfl rfl ?_
      refine mg_straws C dX7_isPattern_17 ?_
      refine r_iload_n C dX7_isPattern_20 rfl rfl ?_
      refine ml_straws C dX7_isPattern_21 (vp_in_nI (show j < 8 by omega) (by decide)) ?_
      rw [nI_clamp (by omega)]
      refine r_if_le (tgt := 29) C dX7_isPattern_22 (by decide) (fun c22 => ?_) (fun c22 => ?_)
      · refine r_iconst (v := 0) C dX7_isPattern_29 (by decide) ?_
        exact j30 _ (Or.inr ⟨fun ⟨j', q1, q2, q3⟩ => by first | (exact absurd c7 (by rw [q2]; exact nI_pos (by omega))) | (exact absurd c13 (by rw [q2]; exact Int32.not_lt.mpr (nI_le (a := j') (b := 7) (by omega) (by decide)))) | (rw [nI_eq (by omega) (by omega)] at q2; subst q2; exact absurd q3 (Int32.not_lt.mpr c22)), rfl⟩)
      · exact r_iconst (v := 1) C dX7_isPattern_25 (by decide) (r_goto (tgt := 30) C dX7_isPattern_26 (by decide) (j30 _ (Or.inl ⟨⟨j, by omega, rfl, Int32.not_le.mp c22⟩, rfl⟩)))
end M2
end
section
/-! the reference: right with a known truth, crossing, isPlace, bundle, left, scored, sewn, count -/
section M3
variable (G : Gx) (h : Nat) (ad : Nat → Nat) (M : Mt) (R : Rt)
theorem c_right1 (w : Int32) (h0 : M 0 = 0) : mI G h ad yX7_right cX7_right 3 .boolean 0 [.int 1, .int w] M R (fun r M' R' => r = 1 ∧ M' = M ∧ R' = R) := by
  refine mI.intro (by decide) (Nat.le_of_ble_eq_true rfl) (cat1 (xs := [1, w])) fun X C hR => ?_
  refine r_aload_n C dX7_right_0 rfl rfl ?_
  refine mg_thrown C dX7_right_1 ?_
  refine r_if_ne (tgt := 16) C dX7_right_4 (by decide) (fun c4 => absurd c4 ((fun q => q h0))) (fun c4 => ?_)
  refine r_iload_n C dX7_right_7 rfl rfl ?_
  refine r_if_ne (tgt := 16) C dX7_right_8 (by decide) (fun c8 => ?_) (fun c8 => absurd c8 ((by decide)))
  refine r_aload_n C dX7_right_16 rfl rfl ?_
  refine mg_thrown C dX7_right_17 ?_
  refine r_if_ne (tgt := 27) C dX7_right_20 (by decide) (fun c20 => absurd c20 ((fun q => q h0))) (fun c20 => ?_)
  refine r_iconst (v := 1) C dX7_right_23 (by decide) ?_
  refine r_goto (tgt := 28) C dX7_right_24 (by decide) ?_
  exact hR _ _ _ _ _ rfl dX7_right_28 ⟨rfl, rfl, rfl⟩
theorem c_right0 (w : Int32) (hw : w ≠ 0) (h0 : M 0 = 0) : mI G h ad yX7_right cX7_right 3 .boolean 0 [.int 0, .int w] M R (fun r M' R' => r = 0 ∧ M' = va_up M 0 w ∧ R' = R) := by
  refine mI.intro (by decide) (Nat.le_of_ble_eq_true rfl) (cat1 (xs := [0, w])) fun X C hR => ?_
  refine r_aload_n C dX7_right_0 rfl rfl ?_
  refine mg_thrown C dX7_right_1 ?_
  refine r_if_ne (tgt := 16) C dX7_right_4 (by decide) (fun c4 => absurd c4 ((fun q => q h0))) (fun c4 => ?_)
  refine r_iload_n C dX7_right_7 rfl rfl ?_
  refine r_if_ne (tgt := 16) C dX7_right_8 (by decide) (fun c8 => absurd c8 ((fun q => q rfl))) (fun c8 => ?_)
  refine r_aload_n C dX7_right_11 rfl rfl ?_
  refine r_iload_n C dX7_right_12 rfl rfl ?_
  refine mp_thrown C dX7_right_13 ?_
  refine r_aload_n C dX7_right_16 rfl rfl ?_
  refine mg_thrown C dX7_right_17 ?_
  refine r_if_ne (tgt := 27) C dX7_right_20 (by decide) (fun c20 => ?_) (fun c20 => absurd c20 (hw))
  refine r_iconst (v := 0) C dX7_right_27 (by decide) ?_
  exact hR _ _ _ _ _ rfl dX7_right_28 ⟨rfl, rfl, rfl⟩
/-- a row's place -/
theorem c_crossing {j z : Nat} (kk jj : Int32) (hj : isPat R kk → kk = nI j ∧ j < 8 ∧ R 6 j = nI z ∧ z ≤ 300) : mI G h ad yX7_crossing cX7_crossing 3 .int 2 [.int kk, .int jj] M R (fun r M' R' => R' = R ∧ ((isPat R kk ∧ ∃ i : Nat, i < z ∧ jj = nI i ∧ r = R 7 (300 * j + i) ∧ M' = va_up M 0 0) ∨ ((¬ isPat R kk ∨ ∀ i : Nat, i < z → jj ≠ nI i) ∧ r = 0 ∧ M' = va_up M 0 1))) := by
  refine mI.intro (by decide) (Nat.le_of_ble_eq_true rfl) (cat1 (xs := [kk, jj])) fun X C hR => ?_
  refine r_aload_n C dX7_crossing_0 rfl rfl ?_
  refine r_iload_n C dX7_crossing_1 rfl rfl ?_
  refine m_calli C (c_isPattern G h ad M R kk) kM_isPattern dX7_crossing_2 rfl (by decide) (by decide) (by decide) (by decide) rfl rfl (fun r M1 R1 hp => ?_)
  obtain ⟨rfl, ⟨hpat, rfl, rfl⟩ | ⟨hpat, rfl, rfl⟩⟩ := hp
  · obtain ⟨rfl, hj8, hz, hz3⟩ := hj hpat
    have j27 : (∀ i : Nat, i < z → jj ≠ nI i) → V X 0 0 27 (ent [.ref h, .int (nI j), .int jj] 3) [.ref h] (mW G h ad (va_up M 0 0) R1) := by
      intro hno
      refine r_iconst (v := 0) C dX7_crossing_27 (by decide) ?_
      refine r_iconst (v := 1) C dX7_crossing_28 (by decide) ?_
      refine m_calli C (c_right0 G h ad _ _ 1 (by decide) rfl) kM_right dX7_crossing_29 rfl (by decide) (by decide) (by decide) (by decide) rfl rfl (fun r M1 R2 hp => ?_)
      obtain ⟨rfl, rfl, rfl⟩ := hp
      refine r_if_eq (tgt := 50) C dX7_crossing_32 (by decide) (fun c32 => ?_) (fun c32 => absurd c32 ((fun q => q rfl)))
      refine r_iconst (v := 0) C dX7_crossing_50 (by decide) ?_
      exact hR _ _ _ _ _ rfl dX7_crossing_51 ⟨rfl, Or.inr ⟨Or.inr hno, rfl, up_up⟩⟩
    refine r_if_eq (tgt := 50) C dX7_crossing_5 (by decide) (fun c5 => absurd c5 ((by decide))) (fun c5 => ?_)
    refine r_aload_n C dX7_crossing_8 rfl rfl ?_
    refine r_iload_n C dX7_crossing_9 rfl rfl ?_
    refine r_if_lt (tgt := 27) C dX7_crossing_10 (by decide) (fun c10 => ?_) (fun c10 => ?_)
    · exact j27 (fun i hi e => by subst e; first | exact absurd c10 (nI_pos (by omega)) | (rw [nI_leI (by omega) (by omega)] at c20; omega))
    · refine r_iload_n C dX7_crossing_13 rfl rfl ?_
      refine r_aload_n C dX7_crossing_14 rfl rfl ?_
      refine mg_sizes C dX7_crossing_15 ?_
      refine r_iload_n C dX7_crossing_18 rfl rfl ?_
      refine ml_sizes C dX7_crossing_19 (vp_in_nI hj8 (by decide)) ?_
      rw [nI_clamp (by omega), hz]
      refine r_icmp_ge (tgt := 27) C dX7_crossing_20 (by decide) (fun c20 => ?_) (fun c20 => ?_)
      · exact j27 (fun i hi e => by subst e; first | exact absurd c10 (nI_pos (by omega)) | (rw [nI_leI (by omega) (by omega)] at c20; omega))
      · obtain ⟨i, hi31, rfl⟩ := nI_of c10
        rw [nI_leI (by omega) (by omega)] at c20
        refine r_iconst (v := 1) C dX7_crossing_23 (by decide) ?_
        refine r_goto (tgt := 28) C dX7_crossing_24 (by decide) ?_
        refine r_iconst (v := 1) C dX7_crossing_28 (by decide) ?_
        refine m_calli C (c_right1 G h ad _ _ 1 rfl) kM_right dX7_crossing_29 rfl (by decide) (by decide) (by decide) (by decide) rfl rfl (fun r M1 R2 hp => ?_)
        obtain ⟨rfl, rfl, rfl⟩ := hp
        refine r_if_eq (tgt := 50) C dX7_crossing_32 (by decide) (fun c32 => absurd c32 ((by decide))) (fun c32 => ?_)
        refine r_aload_n C dX7_crossing_35 rfl rfl ?_
        refine mg_rows C dX7_crossing_36 ?_
        refine r_sipush (v := 300) C dX7_crossing_39 (by decide) ?_
        refine r_iload_n C dX7_crossing_42 rfl rfl ?_
        refine r_imul C dX7_crossing_43 ?_
        refine r_iload_n C dX7_crossing_44 rfl rfl ?_
        refine r_iadd C dX7_crossing_45 ?_
        show V X 0 0 46 _ [.int (nI 300 * nI j + nI i), .ref (ad 7)] _
        rw [pk_mul, nI_add]
        refine ml_rows C dX7_crossing_46 (vp_in_nI (show 300 * j + i < 2400 by omega) (by decide)) ?_
        rw [nI_clamp (by omega)]
        refine r_goto (tgt := 51) C dX7_crossing_47 (by decide) ?_
        exact hR _ _ _ _ _ rfl dX7_crossing_51 ⟨rfl, Or.inl ⟨hpat, i, by omega, rfl, rfl, rfl⟩⟩
  · refine r_if_eq (tgt := 50) C dX7_crossing_5 (by decide) (fun c5 => ?_) (fun c5 => absurd c5 ((fun q => q rfl)))
    refine r_iconst (v := 0) C dX7_crossing_50 (by decide) ?_
    exact hR _ _ _ _ _ rfl dX7_crossing_51 ⟨rfl, Or.inr ⟨Or.inl hpat, rfl, rfl⟩⟩
theorem c_isPlace {j s : Nat} (pp : Int32) (hj : j < 8) (hs : R 5 j = nI s) (hs7 : s ≤ 7) (h0 : M 0 = 0) : mI G h ad yX7_isPlace cX7_isPlace 3 .boolean 1 [.int (nI j), .int pp] M R (fun r M' R' => R' = R ∧ ((∃ i : Nat, 1 ≤ i ∧ i ≤ s ∧ pp = nI i ∧ r = 1 ∧ M' = M) ∨ ((∀ i : Nat, 1 ≤ i → i ≤ s → pp ≠ nI i) ∧ r = 0 ∧ M' = va_up M 0 1))) := by
  refine mI.intro (by decide) (Nat.le_of_ble_eq_true rfl) (cat1 (xs := [nI j, pp])) fun X C hR => ?_
  have j20 : (∀ i : Nat, 1 ≤ i → i ≤ s → pp ≠ nI i) → V X 0 0 20 (ent [.ref h, .int (nI j), .int pp] 3) [.ref h] (mW G h ad M R) := by
    intro hno
    refine r_iconst (v := 0) C dX7_isPlace_20 (by decide) ?_
    refine r_iconst (v := 1) C dX7_isPlace_21 (by decide) ?_
    refine m_calli C (c_right0 G h ad _ _ 1 (by decide) h0) kM_right dX7_isPlace_22 rfl (by decide) (by decide) (by decide) (by decide) rfl rfl (fun r M1 R2 hp => ?_)
    obtain ⟨rfl, rfl, rfl⟩ := hp
    exact hR _ _ _ _ _ rfl dX7_isPlace_25 ⟨rfl, Or.inr ⟨hno, rfl, rfl⟩⟩
  have c1 : (1 : Int32) = nI 1 := rfl
  refine r_aload_n C dX7_isPlace_0 rfl rfl ?_
  refine r_iload_n C dX7_isPlace_1 rfl rfl ?_
  refine r_iconst (v := 1) C dX7_isPlace_2 (by decide) ?_
  refine r_icmp_lt (tgt := 20) C dX7_isPlace_3 (by decide) (fun c3 => ?_) (fun c3 => ?_)
  · exact j20 (fun i hi1 hi2 e => by subst e; first | (rw [c1, nI_ltI (by omega) (by omega)] at c3; omega) | (rw [nI_ltI (by omega) (by omega)] at c13; omega))
  · refine r_iload_n C dX7_isPlace_6 rfl rfl ?_
    refine r_aload_n C dX7_isPlace_7 rfl rfl ?_
    refine mg_straws C dX7_isPlace_8 ?_
    refine r_iload_n C dX7_isPlace_11 rfl rfl ?_
    refine ml_straws C dX7_isPlace_12 (vp_in_nI hj (by decide)) ?_
    rw [nI_clamp (by omega), hs]
    refine r_icmp_gt (tgt := 20) C dX7_isPlace_13 (by decide) (fun c13 => ?_) (fun c13 => ?_)
    · exact j20 (fun i hi1 hi2 e => by subst e; first | (rw [c1, nI_ltI (by omega) (by omega)] at c3; omega) | (rw [nI_ltI (by omega) (by omega)] at c13; omega))
    · obtain ⟨i, hi31, rfl⟩ := nI_of (x := pp) (fun q => c3 (Int32.lt_of_lt_of_le q (by decide)))
      rw [c1, nI_ltI (by omega) (by omega)] at c3
      rw [nI_ltI (by omega) (by omega)] at c13
      refine r_iconst (v := 1) C dX7_isPlace_16 (by decide) ?_
      refine r_goto (tgt := 21) C dX7_isPlace_17 (by decide) ?_
      refine r_iconst (v := 1) C dX7_isPlace_21 (by decide) ?_
      refine m_calli C (c_right1 G h ad _ _ 1 h0) kM_right dX7_isPlace_22 rfl (by decide) (by decide) (by decide) (by decide) rfl rfl (fun r M1 R2 hp => ?_)
      obtain ⟨rfl, rfl, rfl⟩ := hp
      exact hR _ _ _ _ _ rfl dX7_isPlace_25 ⟨rfl, Or.inl ⟨i, by omega, by omega, rfl, rfl, rfl⟩⟩
def okB (b : Nat) (f w q : Int32) : Prop := b ≠ 40 ∧ ¬ f < 0 ∧ ¬ 31 < f ∧ ¬ w < 1 ∧ ¬ 9 < w ∧ ¬ q < 1 ∧ q ≤ 5000
theorem c_bundle {b : Nat} (f w q : Int32) (hb : M 28 = nI b) (hb40 : b ≤ 40) : mI G h ad yX7_bundle cX7_bundle 4 .int 0 [.int f, .int w, .int q] M R (fun r M' R' => (okB b f w q ∧ r = nI b ∧ M' = va_up (va_up M 0 0) 28 (nI (b + 1)) ∧ R' = va_up (va_up (va_up R 31 (upd (R 31) b f)) 32 (upd (R 32) b w)) 33 (upd (R 33) b q)) ∨ (¬ okB b f w q ∧ r = -1 ∧ M' = va_up M 0 0 ∧ R' = R)) := by
  refine mI.intro (by decide) (Nat.le_of_ble_eq_true rfl) (cat1 (xs := [f, w, q])) fun X C hR => ?_
  have j47 : ¬ okB b f w q → V X 0 0 47 (ent [.ref h, .int f, .int w, .int q] 4) [] (mW G h ad (va_up M 0 0) R) := by
    intro hno
    refine r_iconst (v := -1) C dX7_bundle_47 (by decide) ?_
    exact hR _ _ _ _ _ rfl dX7_bundle_48 (Or.inr ⟨hno, rfl, rfl, rfl⟩)
  have hcl : (va_up M 0 0 28).toNatClampNeg = b := by show (M 28).toNatClampNeg = b; rw [hb, nI_clamp (by omega)]
  refine r_aload_n C dX7_bundle_0 rfl rfl ?_
  refine r_iconst (v := 0) C dX7_bundle_1 (by decide) ?_
  refine mp_thrown C dX7_bundle_2 ?_
  refine r_aload_n C dX7_bundle_5 rfl rfl ?_
  refine mg_bundles C dX7_bundle_6 ?_
  show V X 0 0 9 _ [.int (M 28)] _
  rw [hb]
  refine r_bipush (v := 40) C dX7_bundle_9 (by decide) ?_
  refine r_icmp_eq (tgt := 47) C dX7_bundle_11 (by decide) (fun c11 => ?_) (fun c11 => ?_)
  · exact j47 (fun o => by first | exact o.1 (by have e : nI b = nI 40 := c11; rw [nI_eq (by omega) (by omega)] at e; exact e) | exact o.2.1 c15 | exact o.2.2.1 c21 | exact o.2.2.2.1 c26 | exact o.2.2.2.2.1 c32 | exact o.2.2.2.2.2.1 c37 | exact c44 o.2.2.2.2.2.2)
  · have hb' : b ≠ 40 := fun e => c11 (by rw [e]; rfl)
    refine r_iload_n C dX7_bundle_14 rfl rfl ?_
    refine r_if_lt (tgt := 47) C dX7_bundle_15 (by decide) (fun c15 => ?_) (fun c15 => ?_)
    · exact j47 (fun o => by first | exact o.1 (by have e : nI b = nI 40 := c11; rw [nI_eq (by omega) (by omega)] at e; exact e) | exact o.2.1 c15 | exact o.2.2.1 c21 | exact o.2.2.2.1 c26 | exact o.2.2.2.2.1 c32 | exact o.2.2.2.2.2.1 c37 | exact c44 o.2.2.2.2.2.2)
    · refine r_iload_n C dX7_bundle_18 rfl rfl ?_
      refine r_bipush (v := 31) C dX7_bundle_19 (by decide) ?_
      refine r_icmp_gt (tgt := 47) C dX7_bundle_21 (by decide) (fun c21 => ?_) (fun c21 => ?_)
      · exact j47 (fun o => by first | exact o.1 (by have e : nI b = nI 40 := c11; rw [nI_eq (by omega) (by omega)] at e; exact e) | exact o.2.1 c15 | exact o.2.2.1 c21 | exact o.2.2.2.1 c26 | exact o.2.2.2.2.1 c32 | exact o.2.2.2.2.2.1 c37 | exact c44 o.2.2.2.2.2.2)
      · refine r_iload_n C dX7_bundle_24 rfl rfl ?_
        refine r_iconst (v := 1) C dX7_bundle_25 (by decide) ?_
        refine r_icmp_lt (tgt := 47) C dX7_bundle_26 (by decide) (fun c26 => ?_) (fun c26 => ?_)
        · exact j47 (fun o => by first | exact o.1 (by have e : nI b = nI 40 := c11; rw [nI_eq (by omega) (by omega)] at e; exact e) | exact o.2.1 c15 | exact o.2.2.1 c21 | exact o.2.2.2.1 c26 | exact o.2.2.2.2.1 c32 | exact o.2.2.2.2.2.1 c37 | exact c44 o.2.2.2.2.2.2)
        · refine r_iload_n C dX7_bundle_29 rfl rfl ?_
          refine r_bipush (v := 9) C dX7_bundle_30 (by decide) ?_
          refine r_icmp_gt (tgt := 47) C dX7_bundle_32 (by decide) (fun c32 => ?_) (fun c32 => ?_)
          · exact j47 (fun o => by first | exact o.1 (by have e : nI b = nI 40 := c11; rw [nI_eq (by omega) (by omega)] at e; exact e) | exact o.2.1 c15 | exact o.2.2.1 c21 | exact o.2.2.2.1 c26 | exact o.2.2.2.2.1 c32 | exact o.2.2.2.2.2.1 c37 | exact c44 o.2.2.2.2.2.2)
          · refine r_iload_n C dX7_bundle_35 rfl rfl ?_
            refine r_iconst (v := 1) C dX7_bundle_36 (by decide) ?_
            refine r_icmp_lt (tgt := 47) C dX7_bundle_37 (by decide) (fun c37 => ?_) (fun c37 => ?_)
            · exact j47 (fun o => by first | exact o.1 (by have e : nI b = nI 40 := c11; rw [nI_eq (by omega) (by omega)] at e; exact e) | exact o.2.1 c15 | exact o.2.2.1 c21 | exact o.2.2.2.1 c26 | exact o.2.2.2.2.1 c32 | exact o.2.2.2.2.2.1 c37 | exact c44 o.2.2.2.2.2.2)
            · refine r_iload_n C dX7_bundle_40 rfl rfl ?_
              refine r_sipush (v := 5000) C dX7_bundle_41 (by decide) ?_
              refine r_icmp_le (tgt := 49) C dX7_bundle_44 (by decide) (fun c44 => ?_) (fun c44 => ?_)
              · refine r_aload_n C dX7_bundle_49 rfl rfl ?_
                refine mg_field C dX7_bundle_50 ?_
                refine r_aload_n C dX7_bundle_53 rfl rfl ?_
                refine mg_bundles C dX7_bundle_54 ?_
                refine r_iload_n C dX7_bundle_57 rfl rfl ?_
                refine ms_field C dX7_bundle_58 (by show vp_in (M 28) 40; rw [hb]; exact vp_in_nI (by omega) (by decide)) ?_
                refine r_aload_n C dX7_bundle_59 rfl rfl ?_
                refine mg_bundleWidth C dX7_bundle_60 ?_
                refine r_aload_n C dX7_bundle_63 rfl rfl ?_
                refine mg_bundles C dX7_bundle_64 ?_
                refine r_iload_n C dX7_bundle_67 rfl rfl ?_
                refine ms_bundleWidth C dX7_bundle_68 (by show vp_in (M 28) 40; rw [hb]; exact vp_in_nI (by omega) (by decide)) ?_
                refine r_aload_n C dX7_bundle_69 rfl rfl ?_
                refine mg_leftOf C dX7_bundle_70 ?_
                refine r_aload_n C dX7_bundle_73 rfl rfl ?_
                refine mg_bundles C dX7_bundle_74 ?_
                refine r_iload_n C dX7_bundle_77 rfl rfl ?_
                refine ms_leftOf C dX7_bundle_78 (by show vp_in (M 28) 40; rw [hb]; exact vp_in_nI (by omega) (by decide)) ?_
                rw [hcl]
                show V X 0 0 79 _ _ (mW G h ad (va_up M 0 0) (va_up (va_up (va_up R 31 (upd (R 31) b f)) 32 (upd (R 32) b w)) 33 (upd (R 33) b q)))
                refine r_aload_n C dX7_bundle_79 rfl rfl ?_
                refine r_dup C dX7_bundle_80 rfl ?_
                refine mg_bundles C dX7_bundle_81 ?_
                refine r_iconst (v := 1) C dX7_bundle_84 (by decide) ?_
                refine r_iadd C dX7_bundle_85 ?_
                show V X 0 0 86 _ [.int (M 28 + 1), .ref h] _
                rw [hb, nI_1]
                refine mp_bundles C dX7_bundle_86 ?_
                refine r_aload_n C dX7_bundle_89 rfl rfl ?_
                refine mg_bundles C dX7_bundle_90 ?_
                refine r_iconst (v := 1) C dX7_bundle_93 (by decide) ?_
                refine r_isub C dX7_bundle_94 ?_
                show V X 0 0 95 _ [.int (nI (b + 1) - 1)] _
                rw [nI_pred]
                exact hR _ _ _ _ _ rfl dX7_bundle_95 (Or.inl ⟨⟨hb', c15, c21, c26, c32, c37, c44⟩, rfl, rfl, rfl⟩)
              · exact j47 (fun o => by first | exact o.1 (by have e : nI b = nI 40 := c11; rw [nI_eq (by omega) (by omega)] at e; exact e) | exact o.2.1 c15 | exact o.2.2.1 c21 | exact o.2.2.2.1 c26 | exact o.2.2.2.2.1 c32 | exact o.2.2.2.2.2.1 c37 | exact c44 o.2.2.2.2.2.2)
theorem c_left {b : Nat} (x : Int32) (hb : M 28 = nI b) (hb40 : b ≤ 40) : mI G h ad yX7_left cX7_left 2 .int 1 [.int x] M R (fun r M' R' => R' = R ∧ ((∃ i : Nat, i < b ∧ x = nI i ∧ r = R 33 i ∧ M' = va_up M 0 0) ∨ ((∀ i : Nat, i < b → x ≠ nI i) ∧ r = 0 ∧ M' = va_up M 0 1))) := by
  refine mI.intro (by decide) (Nat.le_of_ble_eq_true rfl) (cat1 (xs := [x])) fun X C hR => ?_
  have j22 : (∀ i : Nat, i < b → x ≠ nI i) → V X 0 0 22 (ent [.ref h, .int x] 2) [.ref h] (mW G h ad (va_up M 0 0) R) := by
    intro hno
    refine r_iconst (v := 0) C dX7_left_22 (by decide) ?_
    refine r_iconst (v := 1) C dX7_left_23 (by decide) ?_
    refine m_calli C (c_right0 G h ad _ _ 1 (by decide) rfl) kM_right dX7_left_24 rfl (by decide) (by decide) (by decide) (by decide) rfl rfl (fun r M1 R2 hp => ?_)
    obtain ⟨rfl, rfl, rfl⟩ := hp
    refine r_if_eq (tgt := 39) C dX7_left_27 (by decide) (fun c27 => ?_) (fun c27 => absurd c27 ((fun q => q rfl)))
    refine r_iconst (v := 0) C dX7_left_39 (by decide) ?_
    exact hR _ _ _ _ _ rfl dX7_left_40 ⟨rfl, Or.inr ⟨hno, rfl, up_up⟩⟩
  refine r_aload_n C dX7_left_0 rfl rfl ?_
  refine r_iconst (v := 0) C dX7_left_1 (by decide) ?_
  refine mp_thrown C dX7_left_2 ?_
  refine r_aload_n C dX7_left_5 rfl rfl ?_
  refine r_iload_n C dX7_left_6 rfl rfl ?_
  refine r_if_lt (tgt := 22) C dX7_left_7 (by decide) (fun c7 => ?_) (fun c7 => ?_)
  · exact j22 (fun i hi e => by subst e; first | exact absurd c7 (nI_pos (by omega)) | (rw [nI_leI (by omega) (by omega)] at c15; omega))
  · refine r_iload_n C dX7_left_10 rfl rfl ?_
    refine r_aload_n C dX7_left_11 rfl rfl ?_
    refine mg_bundles C dX7_left_12 ?_
    show V X 0 0 15 _ [.int (M 28), .int x, .ref h] _
    rw [hb]
    refine r_icmp_ge (tgt := 22) C dX7_left_15 (by decide) (fun c15 => ?_) (fun c15 => ?_)
    · exact j22 (fun i hi e => by subst e; first | exact absurd c7 (nI_pos (by omega)) | (rw [nI_leI (by omega) (by omega)] at c15; omega))
    · obtain ⟨i, hi31, rfl⟩ := nI_of c7
      rw [nI_leI (by omega) (by omega)] at c15
      refine r_iconst (v := 1) C dX7_left_18 (by decide) ?_
      refine r_goto (tgt := 23) C dX7_left_19 (by decide) ?_
      refine r_iconst (v := 1) C dX7_left_23 (by decide) ?_
      refine m_calli C (c_right1 G h ad _ _ 1 rfl) kM_right dX7_left_24 rfl (by decide) (by decide) (by decide) (by decide) rfl rfl (fun r M1 R2 hp => ?_)
      obtain ⟨rfl, rfl, rfl⟩ := hp
      refine r_if_eq (tgt := 39) C dX7_left_27 (by decide) (fun c27 => absurd c27 ((by decide))) (fun c27 => ?_)
      refine r_aload_n C dX7_left_30 rfl rfl ?_
      refine mg_leftOf C dX7_left_31 ?_
      refine r_iload_n C dX7_left_34 rfl rfl ?_
      refine ml_leftOf C dX7_left_35 (vp_in_nI (show i < 40 by omega) (by decide)) ?_
      rw [nI_clamp (by omega)]
      refine r_goto (tgt := 40) C dX7_left_36 (by decide) ?_
      exact hR _ _ _ _ _ rfl dX7_left_40 ⟨rfl, Or.inl ⟨i, by omega, rfl, rfl, rfl⟩⟩
end M3
end
section
/-! numbers, places, crossings; the reference: get, goesTo -/
def keepM : List Bool → List (Option Value) → List (Option Value)
  | b :: bs, o :: t => (if b = true then o else none) :: keepM bs t
  | _, _ => []
theorem keepM_at : ∀ (bs : List Bool) (L : List (Option Value)) (i : Nat) (v : Value), (keepM bs L)[i]? = some (some v) → L[i]? = some (some v)
  | [], L, i, v => by intro h; simp [keepM] at h
  | b :: bs, [], i, v => by intro h; simp [keepM] at h
  | b :: bs, o :: t, 0, v => by
    intro h
    simp only [keepM, List.getElem?_cons_zero] at h ⊢
    cases b
    · simp at h
    · simpa using h
  | b :: bs, o :: t, i + 1, v => by
    intro h
    simp only [keepM, List.getElem?_cons_succ] at h ⊢
    exact keepM_at bs t i v h
theorem V.keep {X : Fx} {k n pc : Nat} {L : List (Option Value)} {st : List Value} {ws : va_W} (bs : List Bool) (kk : V X k n pc (keepM bs L) st ws) : V X k n pc L st ws := V.forget (keepM_at bs L) kk
/-- a crossing's number; whether a row's crossing is one of s straws -/
def ai (c : Int32) : Nat := c.toInt.natAbs
def okC (s : Nat) (c : Int32) : Prop := ∃ i : Nat, 1 ≤ i ∧ i < s ∧ (c = nI i ∨ c = -nI i)
theorem neg_toInt {i : Nat} (h : i < 2 ^ 31) : (-nI i).toInt = -(i : Int) := sb_negT h
theorem ai_nI {i : Nat} (h : i < 2 ^ 31) : ai (nI i) = i := by unfold ai; rw [nI_toInt h]; rfl
theorem ai_neg {i : Nat} (h : i < 2 ^ 31) : ai (-nI i) = i := by unfold ai; rw [neg_toInt h]; omega
theorem pos_nI {i : Nat} (h1 : 1 ≤ i) (h : i < 2 ^ 31) : (0 : Int32) < nI i := nI_lt (a := 0) h1 h
theorem neg_lt0 {i : Nat} (h1 : 1 ≤ i) (h : i < 2 ^ 31) : -nI i < 0 := by
  rw [Int32.lt_iff_toInt_lt, neg_toInt h]
  have : (0 : Int32).toInt = 0 := rfl
  omega
theorem neg_npos {i : Nat} (h1 : 1 ≤ i) (h : i < 2 ^ 31) : ¬ (0 : Int32) < -nI i := by
  rw [Int32.lt_iff_toInt_lt, neg_toInt h]
  have : (0 : Int32).toInt = 0 := rfl
  omega
def sw (i x : Nat) : Nat := if x = i then i + 1 else if x = i + 1 then i else x
theorem sw_l (i : Nat) : sw i i = i + 1 := by simp [sw]
theorem sw_r (i : Nat) : sw i (i + 1) = i := by simp [sw]
theorem sw_n {i x : Nat} (h1 : x ≠ i) (h2 : x ≠ i + 1) : sw i x = x := by simp [sw, h1, h2]
theorem sw_sw (i x : Nat) : sw i (sw i x) = x := by
  unfold sw
  split <;> (try split) <;> (try split) <;> omega
theorem sw_in {i x s : Nat} (h1 : 1 ≤ i) (h2 : i < s) (hx : 1 ≤ x) (hx2 : x ≤ s) : 1 ≤ sw i x ∧ sw i x ≤ s := by
  unfold sw
  split <;> (try split) <;> omega
/-- where the straw of p comes, behind the first z crossings -/
def gT (c : Nat → Int32) : Nat → Nat → Nat
  | 0, p => p
  | z + 1, p => sw (ai (c z)) (gT c z p)
theorem okC_ai {s : Nat} {c : Int32} (h : okC s c) (hs : s ≤ 7) : 1 ≤ ai c ∧ ai c < s := by
  obtain ⟨i, h1, h2, rfl | rfl⟩ := h
  · rw [ai_nI (by omega)]; exact ⟨h1, h2⟩
  · rw [ai_neg (by omega)]; exact ⟨h1, h2⟩
theorem gT_in {c : Nat → Int32} {s p : Nat} (hs : s ≤ 7) (hp : 1 ≤ p) (hp2 : p ≤ s) : ∀ z : Nat, (∀ i, i < z → okC s (c i)) → 1 ≤ gT c z p ∧ gT c z p ≤ s
  | 0, _ => ⟨hp, hp2⟩
  | z + 1, h => by
    have ih := gT_in (c := c) hs hp hp2 z (fun i hi => h i (by omega))
    have h1 := okC_ai (h z (by omega)) hs
    exact sw_in h1.1 h1.2 ih.1 ih.2
def rowOf (R : Rt) (j : Nat) : Nat → Int32 := fun i => R 7 (300 * j + i)
/-- pattern j is there: s straws, z crossings -/
def PatOK (R : Rt) (j s z : Nat) : Prop := R 5 j = nI s ∧ 2 ≤ s ∧ s ≤ 7 ∧ R 6 j = nI z ∧ z ≤ 300 ∧ ∀ i, i < z → okC s (rowOf R j i)
section M4
variable (G : Gx) (h : Nat) (ad : Nat → Nat) (M : Mt) (R : Rt)
theorem c_get (f x : Nat) (hf : f ≤ 600) (hx : x ≤ 7) : mI G h ad yX7_get cX7_get 3 .int 0 [.int (nI f), .int (nI x)] M R (fun r M' R' => r = R 18 (8 * f + x) ∧ M' = M ∧ R' = R) := by
  refine mI.intro (by decide) (Nat.le_of_ble_eq_true rfl) (cat1 (xs := [nI f, nI x])) fun X C hR => ?_
  refine r_aload_n C dX7_get_0 rfl rfl ?_
  refine mg_perm C dX7_get_1 ?_
  refine r_bipush (v := 8) C dX7_get_4 (by decide) ?_
  refine r_iload_n C dX7_get_6 rfl rfl ?_
  refine r_imul C dX7_get_7 ?_
  refine r_iload_n C dX7_get_8 rfl rfl ?_
  refine r_iadd C dX7_get_9 ?_
  show V X 0 0 10 _ [.int (nI 8 * nI f + nI x), .ref (ad 18)] _
  rw [pk_mul, nI_add]
  refine ml_perm C dX7_get_10 (vp_in_nI (show 8 * f + x < 4808 by omega) (by decide)) ?_
  rw [nI_clamp (by omega)]
  exact hR _ _ _ _ _ rfl dX7_get_11 ⟨rfl, rfl, rfl⟩
theorem c_goesTo {j s z p : Nat} (hj : j < 8) (hp : PatOK R j s z) (h1 : 1 ≤ p) (h2 : p ≤ s) : mI G h ad yX7_goesTo cX7_goesTo 7 .int 0 [.int (nI j), .int (nI p)] M R (fun r M' R' => r = nI (gT (rowOf R j) z p) ∧ M' = M ∧ R' = R) := by
  refine mI.intro (by decide) (Nat.le_of_ble_eq_true rfl) (cat1 (xs := [nI j, nI p])) fun X C hR => ?_
  obtain ⟨hs5, hs2, hs7, hz, hz3, hok⟩ := hp
  have key : ∀ (f i : Nat), i + f = z → V X 0 0 5 [some (.ref h), some (.int (nI j)), some (.int (nI p)), some (.int (nI (gT (rowOf R j) i p))), some (.int (nI i)), none, none] [] (mW G h ad M R) := by
    intro f
    induction f with
    | zero =>
      intro i hi
      have hiz : i = z := by omega
      subst hiz
      refine r_iload C dX7_goesTo_5 rfl ?_
      refine r_aload_n C dX7_goesTo_7 rfl rfl ?_
      refine mg_sizes C dX7_goesTo_8 ?_
      refine r_iload_n C dX7_goesTo_11 rfl rfl ?_
      refine ml_sizes C dX7_goesTo_12 (vp_in_nI hj (by decide)) ?_
      rw [nI_clamp (by omega), hz]
      refine r_icmp_ge (tgt := 80) C dX7_goesTo_13 (by decide) (fun c13 => ?_) (fun c13 => absurd c13 ((fun q => q (nI_le (by omega) (by omega)))))
      refine r_iload_n C dX7_goesTo_80 rfl rfl ?_
      exact hR _ _ _ _ _ rfl dX7_goesTo_81 ⟨rfl, rfl, rfl⟩
    | succ f ih =>
      intro i hi
      obtain ⟨g, hg⟩ : ∃ g, g = gT (rowOf R j) i p := ⟨_, rfl⟩
      have hgi := gT_in (c := rowOf R j) hs7 h1 h2 i (fun q hq => hok q (by omega))
      obtain ⟨i0, hi1, hi2, hc⟩ := hok i (by omega)
      have hai : ai (rowOf R j i) = i0 := by rcases hc with hc | hc <;> rw [hc] <;> first | exact ai_nI (by omega) | exact ai_neg (by omega)
      have hgT : gT (rowOf R j) (i + 1) p = sw i0 g := by show sw (ai (rowOf R j i)) _ = _; rw [hai, hg]
      have nx := ih (i + 1) (by omega)
      rw [hgT] at nx
      rw [← hg] at hgi ⊢
      have j46 : ∀ cv : Int32, V X 0 0 46 [some (.ref h), some (.int (nI j)), some (.int (nI p)), some (.int (nI g)), some (.int (nI i)), some (.int cv), some (.int (nI i0))] [] (mW G h ad M R) := by
        intro cv
        refine r_iload_n C dX7_goesTo_46 rfl rfl ?_
        refine r_iload C dX7_goesTo_47 rfl ?_
        refine r_icmp_ne (tgt := 59) C dX7_goesTo_49 (by decide) (fun c49 => ?_) (fun c49 => ?_)
        · rw [nI_eq (by omega) (by omega)] at c49
          refine r_iload_n C dX7_goesTo_59 rfl rfl ?_
          refine r_iload C dX7_goesTo_60 rfl ?_
          refine r_iconst (v := 1) C dX7_goesTo_62 (by decide) ?_
          refine r_iadd C dX7_goesTo_63 ?_
          rw [nI_1]
          refine r_icmp_ne (tgt := 72) C dX7_goesTo_64 (by decide) (fun c64 => ?_) (fun c64 => ?_)
          · rw [nI_eq (by omega) (by omega)] at c64
            refine r_iload_n C dX7_goesTo_72 rfl rfl ?_
            refine r_istore_n C dX7_goesTo_73 rfl (by decide) ?_
            refine r_iinc (v := _ + 1) C dX7_goesTo_74 rfl (by rfl) (by decide) ?_
            rw [nI_1]
            refine r_goto (tgt := 5) C dX7_goesTo_77 (by decide) ?_
            exact V.keep [true, true, true, true, true, false, false] (by first | (rw [c49, sw_l] at nx; exact nx) | (rw [c64, sw_r] at nx; exact nx) | (rw [sw_n c49 c64] at nx; exact nx))
          · rw [nI_eq (by omega) (by omega)] at c64
            refine r_iload C dX7_goesTo_67 rfl ?_
            refine r_goto (tgt := 73) C dX7_goesTo_69 (by decide) ?_
            refine r_istore_n C dX7_goesTo_73 rfl (by decide) ?_
            refine r_iinc (v := _ + 1) C dX7_goesTo_74 rfl (by rfl) (by decide) ?_
            rw [nI_1]
            refine r_goto (tgt := 5) C dX7_goesTo_77 (by decide) ?_
            exact V.keep [true, true, true, true, true, false, false] (by first | (rw [c49, sw_l] at nx; exact nx) | (rw [c64, sw_r] at nx; exact nx) | (rw [sw_n c49 c64] at nx; exact nx))
        · rw [nI_eq (by omega) (by omega)] at c49
          refine r_iload C dX7_goesTo_52 rfl ?_
          refine r_iconst (v := 1) C dX7_goesTo_54 (by decide) ?_
          refine r_iadd C dX7_goesTo_55 ?_
          rw [nI_1]
          refine r_goto (tgt := 73) C dX7_goesTo_56 (by decide) ?_
          refine r_istore_n C dX7_goesTo_73 rfl (by decide) ?_
          refine r_iinc (v := _ + 1) C dX7_goesTo_74 rfl (by rfl) (by decide) ?_
          rw [nI_1]
          refine r_goto (tgt := 5) C dX7_goesTo_77 (by decide) ?_
          exact V.keep [true, true, true, true, true, false, false] (by first | (rw [c49, sw_l] at nx; exact nx) | (rw [c64, sw_r] at nx; exact nx) | (rw [sw_n c49 c64] at nx; exact nx))
      refine r_iload C dX7_goesTo_5 rfl ?_
      refine r_aload_n C dX7_goesTo_7 rfl rfl ?_
      refine mg_sizes C dX7_goesTo_8 ?_
      refine r_iload_n C dX7_goesTo_11 rfl rfl ?_
      refine ml_sizes C dX7_goesTo_12 (vp_in_nI hj (by decide)) ?_
      rw [nI_clamp (by omega), hz]
      refine r_icmp_ge (tgt := 80) C dX7_goesTo_13 (by decide) (fun c13 => absurd c13 ((nI_ge (by omega) (by omega)))) (fun c13 => ?_)
      refine r_aload_n C dX7_goesTo_16 rfl rfl ?_
      refine mg_rows C dX7_goesTo_17 ?_
      refine r_sipush (v := 300) C dX7_goesTo_20 (by decide) ?_
      refine r_iload_n C dX7_goesTo_23 rfl rfl ?_
      refine r_imul C dX7_goesTo_24 ?_
      refine r_iload C dX7_goesTo_25 rfl ?_
      refine r_iadd C dX7_goesTo_27 ?_
      show V X 0 0 28 _ [.int (nI 300 * nI j + nI i), .ref (ad 7)] _
      rw [pk_mul, nI_add]
      refine ml_rows C dX7_goesTo_28 (vp_in_nI (show 300 * j + i < 2400 by omega) (by decide)) ?_
      rw [nI_clamp (by omega)]
      show V X 0 0 29 _ [.int (rowOf R j i)] _
      rcases hc with hc | hc <;> rw [hc]
      · refine r_istore C dX7_goesTo_29 (by decide) ?_
        refine r_iload C dX7_goesTo_31 rfl ?_
        refine r_if_le (tgt := 41) C dX7_goesTo_33 (by decide) (fun c33 => absurd c33 ((Int32.not_le.mpr (pos_nI hi1 (by omega))))) (fun c33 => ?_)
        refine r_iload C dX7_goesTo_36 rfl ?_
        refine r_goto (tgt := 44) C dX7_goesTo_38 (by decide) ?_
        refine r_istore C dX7_goesTo_44 (by decide) ?_
        exact j46 _
      · refine r_istore C dX7_goesTo_29 (by decide) ?_
        refine r_iload C dX7_goesTo_31 rfl ?_
        refine r_if_le (tgt := 41) C dX7_goesTo_33 (by decide) (fun c33 => ?_) (fun c33 => absurd c33 ((fun q => q (Int32.le_of_lt (neg_lt0 hi1 (by omega))))))
        refine r_iload C dX7_goesTo_41 rfl ?_
        refine r_ineg C dX7_goesTo_43 ?_
        rw [Int32.neg_neg]
        refine r_istore C dX7_goesTo_44 (by decide) ?_
        exact j46 _
  refine r_iload_n C dX7_goesTo_0 rfl rfl ?_
  refine r_istore_n C dX7_goesTo_1 rfl (by decide) ?_
  refine r_iconst (v := 0) C dX7_goesTo_2 (by decide) ?_
  refine r_istore C dX7_goesTo_3 (by decide) ?_
  exact key z 0 (by omega)
end M4
end
section
/-! the reference: scored, sewn, count, hat -/
def cl (x : Int32) : Nat := x.toNatClampNeg
theorem cl_nI {n : Nat} (h : n < 2 ^ 31) : cl (nI n) = n := nI_clamp h
/-- numbers of a row, none below 0, none above B -/
def NumOK (f : Nat → Int32) (n B : Nat) : Prop := ∀ i, i < n → f i = nI (cl (f i)) ∧ cl (f i) ≤ B
def sumW (W Lf : Nat → Int32) (w : Int32) : Nat → Nat
  | 0 => 0
  | i + 1 => sumW W Lf w i + if W i = w then cl (Lf i) else 0
theorem sumW_le {W Lf : Nat → Int32} {w : Int32} {n B : Nat} (h : NumOK Lf n B) : ∀ i, i ≤ n → sumW W Lf w i ≤ i * B
  | 0, _ => by simp [sumW]
  | i + 1, hi => by
    have ih := sumW_le (W := W) (w := w) h i (by omega)
    have h1 := (h i (by omega)).2
    have e : (i + 1) * B = i * B + B := Nat.succ_mul i B
    unfold sumW
    split <;> omega
def sumA (Lf : Nat → Int32) : Nat → Nat
  | 0 => 0
  | i + 1 => sumA Lf i + cl (Lf i)
theorem sumA_le {Lf : Nat → Int32} {n B : Nat} (h : NumOK Lf n B) : ∀ i, i ≤ n → sumA Lf i ≤ i * B
  | 0, _ => by simp [sumA]
  | i + 1, hi => by
    have ih := sumA_le h i (by omega)
    have h1 := (h i (by omega)).2
    have e : (i + 1) * B = i * B + B := Nat.succ_mul i B
    unfold sumA
    omega
abbrev TkT : Type := (Nat → Int32) × Nat × Int32 × Int32
def tkS (W F : Nat → Int32) (w : Int32) (s : Nat) (q : TkT) : TkT :=
  if 0 < q.2.1 ∧ W s = w ∧ q.1 s ≠ 0 then (upd q.1 s (nI (cl (q.1 s) - min (cl (q.1 s)) q.2.1)), q.2.1 - min (cl (q.1 s)) q.2.1, q.2.2.1 ||| F s, if s < 31 then q.2.2.2 ||| ((1 : Int32) <<< (nI s &&& 31)) else q.2.2.2) else q
def tk (W F : Nat → Int32) (w : Int32) (lf : Nat → Int32) (need : Nat) : Nat → TkT
  | 0 => (lf, need, 0, 0)
  | s + 1 => tkS W F w s (tk W F w lf need s)
theorem tk_stop {W F : Nat → Int32} {w : Int32} {lf : Nat → Int32} {need s : Nat} (h : (tk W F w lf need s).2.1 = 0) : ∀ n, tk W F w lf need (s + n) = tk W F w lf need s
  | 0 => rfl
  | n + 1 => by
    show tkS W F w (s + n) (tk W F w lf need (s + n)) = _
    rw [tk_stop h n]
    unfold tkS
    rw [if_neg (by omega)]
theorem tk_ok {W F : Nat → Int32} {w : Int32} {lf : Nat → Int32} {need n B : Nat} (hB : B < 2 ^ 31) (h : NumOK lf n B) : ∀ s, NumOK (tk W F w lf need s).1 n B ∧ (tk W F w lf need s).2.1 ≤ need
  | 0 => ⟨h, Nat.le_refl _⟩
  | s + 1 => by
    have ih := tk_ok (W := W) (F := F) (w := w) (need := need) hB h s
    show NumOK (tkS W F w s (tk W F w lf need s)).1 n B ∧ (tkS W F w s (tk W F w lf need s)).2.1 ≤ need
    unfold tkS
    split
    · refine ⟨fun i hi => ?_, by dsimp only; omega⟩
      show upd _ s _ i = _ ∧ _
      have h1 := ih.1 i hi
      by_cases e : i = s
      · subst e
        simp only [upd, if_pos]
        rw [cl_nI (by omega)]
        exact ⟨rfl, by omega⟩
      · simp only [upd, if_neg e]
        exact h1
    · exact ih
def hatNeed (w : Nat) : Nat → Nat
  | 0 => 0
  | t + 1 => hatNeed w t + (710 * (2 * (t + 1) - 1) * w / 226 + 1)
theorem hatNeed_le {w : Nat} (hw : w ≤ 9) : ∀ t, t ≤ 400 → hatNeed w t ≤ t * 22592
  | 0, _ => by simp [hatNeed]
  | t + 1, h => by
    have ih := hatNeed_le hw t (by omega)
    unfold hatNeed
    have h1 : 710 * (2 * (t + 1) - 1) * w ≤ 710 * 799 * 9 := Nat.mul_le_mul (Nat.mul_le_mul_left _ (by omega)) hw
    have h2 : 710 * (2 * (t + 1) - 1) * w / 226 ≤ 22591 := by omega
    omega
theorem hatNeed_ge {w : Nat} : ∀ t, t ≤ hatNeed w t
  | 0 => Nat.le_refl _
  | t + 1 => by
    have ih := hatNeed_ge (w := w) t
    unfold hatNeed
    omega
def scQ (R : Rt) (i : Nat) (w : Int32) : Int32 := if w = 0 then R 34 i else if w = 1 then R 35 i else if w = 2 then R 36 i else if w = 3 then R 37 i else R 38 i
def haQ (R : Rt) (i : Nat) (w : Int32) : Int32 := if w = 0 then R 39 i else if w = 1 then R 40 i else if w = 2 then R 41 i else R 42 i
section M5
variable (G : Gx) (h : Nat) (ad : Nat → Nat) (M : Mt) (R : Rt)
theorem c_scored {b : Nat} (x w : Int32) (hb : M 29 = nI b) (hb60 : b ≤ 60) : mI G h ad yX7_scored cX7_scored 3 .int 1 [.int x, .int w] M R (fun r M' R' => R' = R ∧ ((∃ i : Nat, i < b ∧ x = nI i ∧ ¬ w < 0 ∧ ¬ 4 < w ∧ r = scQ R i w ∧ M' = va_up M 0 0) ∨ (((∀ i : Nat, i < b → x ≠ nI i) ∨ w < 0 ∨ 4 < w) ∧ r = 0 ∧ M' = va_up M 0 1))) := by
  refine mI.intro (by decide) (Nat.le_of_ble_eq_true rfl) (cat1 (xs := [x, w])) fun X C hR => ?_
  have j31 : ((∀ i : Nat, i < b → x ≠ nI i) ∨ w < 0 ∨ 4 < w) → V X 0 0 31 (ent [.ref h, .int x, .int w] 3) [.ref h] (mW G h ad (va_up M 0 0) R) := by
    intro hno
    refine r_iconst (v := 0) C dX7_scored_31 (by decide) ?_
    refine r_iconst (v := 1) C dX7_scored_32 (by decide) ?_
    refine m_calli C (c_right0 G h ad _ _ 1 (by decide) rfl) kM_right dX7_scored_33 rfl (by decide) (by decide) (by decide) (by decide) rfl rfl (fun r M1 R2 hp => ?_)
    obtain ⟨rfl, rfl, rfl⟩ := hp
    refine r_if_ne (tgt := 41) C dX7_scored_36 (by decide) (fun c36 => absurd c36 ((fun q => q rfl))) (fun c36 => ?_)
    refine r_iconst (v := 0) C dX7_scored_39 (by decide) ?_
    exact hR _ _ _ _ _ rfl dX7_scored_40 ⟨rfl, Or.inr ⟨hno, rfl, up_up⟩⟩
  refine r_aload_n C dX7_scored_0 rfl rfl ?_
  refine r_iconst (v := 0) C dX7_scored_1 (by decide) ?_
  refine mp_thrown C dX7_scored_2 ?_
  refine r_aload_n C dX7_scored_5 rfl rfl ?_
  refine r_iload_n C dX7_scored_6 rfl rfl ?_
  refine r_if_lt (tgt := 31) C dX7_scored_7 (by decide) (fun c7 => ?_) (fun c7 => ?_)
  · exact j31 (by first | exact Or.inr (Or.inl c19) | exact Or.inr (Or.inr c24) | exact Or.inl (fun i hi e => by subst e; first | exact absurd c7 (nI_pos (by omega)) | (rw [nI_leI (by omega) (by omega)] at c15; omega)))
  · refine r_iload_n C dX7_scored_10 rfl rfl ?_
    refine r_aload_n C dX7_scored_11 rfl rfl ?_
    refine mg_scores C dX7_scored_12 ?_
    show V X 0 0 15 _ [.int (M 29), .int x, .ref h] _
    rw [hb]
    refine r_icmp_ge (tgt := 31) C dX7_scored_15 (by decide) (fun c15 => ?_) (fun c15 => ?_)
    · exact j31 (by first | exact Or.inr (Or.inl c19) | exact Or.inr (Or.inr c24) | exact Or.inl (fun i hi e => by subst e; first | exact absurd c7 (nI_pos (by omega)) | (rw [nI_leI (by omega) (by omega)] at c15; omega)))
    · obtain ⟨i, hi31, rfl⟩ := nI_of c7
      rw [nI_leI (by omega) (by omega)] at c15
      refine r_iload_n C dX7_scored_18 rfl rfl ?_
      refine r_if_lt (tgt := 31) C dX7_scored_19 (by decide) (fun c19 => ?_) (fun c19 => ?_)
      · exact j31 (by first | exact Or.inr (Or.inl c19) | exact Or.inr (Or.inr c24) | exact Or.inl (fun i hi e => by subst e; first | exact absurd c7 (nI_pos (by omega)) | (rw [nI_leI (by omega) (by omega)] at c15; omega)))
      · refine r_iload_n C dX7_scored_22 rfl rfl ?_
        refine r_iconst (v := 4) C dX7_scored_23 (by decide) ?_
        refine r_icmp_gt (tgt := 31) C dX7_scored_24 (by decide) (fun c24 => ?_) (fun c24 => ?_)
        · exact j31 (by first | exact Or.inr (Or.inl c19) | exact Or.inr (Or.inr c24) | exact Or.inl (fun i hi e => by subst e; first | exact absurd c7 (nI_pos (by omega)) | (rw [nI_leI (by omega) (by omega)] at c15; omega)))
        · refine r_iconst (v := 1) C dX7_scored_27 (by decide) ?_
          refine r_goto (tgt := 32) C dX7_scored_28 (by decide) ?_
          refine r_iconst (v := 1) C dX7_scored_32 (by decide) ?_
          refine m_calli C (c_right1 G h ad _ _ 1 rfl) kM_right dX7_scored_33 rfl (by decide) (by decide) (by decide) (by decide) rfl rfl (fun r M1 R2 hp => ?_)
          obtain ⟨rfl, rfl, rfl⟩ := hp
          refine r_if_ne (tgt := 41) C dX7_scored_36 (by decide) (fun c36 => ?_) (fun c36 => absurd c36 ((by decide)))
          refine r_iload_n C dX7_scored_41 rfl rfl ?_
          refine r_if_ne (tgt := 54) C dX7_scored_42 (by decide) (fun c42 => ?_) (fun c42 => ?_)
          · refine r_iload_n C dX7_scored_54 rfl rfl ?_
            refine r_iconst (v := 1) C dX7_scored_55 (by decide) ?_
            refine r_icmp_ne (tgt := 68) C dX7_scored_56 (by decide) (fun c56 => ?_) (fun c56 => ?_)
            · refine r_iload_n C dX7_scored_68 rfl rfl ?_
              refine r_iconst (v := 2) C dX7_scored_69 (by decide) ?_
              refine r_icmp_ne (tgt := 82) C dX7_scored_70 (by decide) (fun c70 => ?_) (fun c70 => ?_)
              · refine r_iload_n C dX7_scored_82 rfl rfl ?_
                refine r_iconst (v := 3) C dX7_scored_83 (by decide) ?_
                refine r_icmp_ne (tgt := 96) C dX7_scored_84 (by decide) (fun c84 => ?_) (fun c84 => ?_)
                · refine r_aload_n C dX7_scored_96 rfl rfl ?_
                  refine mg_scoreStraws C dX7_scored_97 ?_
                  refine r_iload_n C dX7_scored_100 rfl rfl ?_
                  refine ml_scoreStraws C dX7_scored_101 (vp_in_nI (show i < 60 by omega) (by decide)) ?_
                  rw [nI_clamp (by omega)]
                  exact hR _ _ _ _ _ rfl dX7_scored_102 ⟨rfl, Or.inl ⟨i, by omega, rfl, c19, c24, by simp_all [scQ], rfl⟩⟩
                · refine r_aload_n C dX7_scored_87 rfl rfl ?_
                  refine mg_scoreFields C dX7_scored_88 ?_
                  refine r_iload_n C dX7_scored_91 rfl rfl ?_
                  refine ml_scoreFields C dX7_scored_92 (vp_in_nI (show i < 60 by omega) (by decide)) ?_
                  refine r_goto (tgt := 102) C dX7_scored_93 (by decide) ?_
                  rw [nI_clamp (by omega)]
                  exact hR _ _ _ _ _ rfl dX7_scored_102 ⟨rfl, Or.inl ⟨i, by omega, rfl, c19, c24, by simp_all [scQ], rfl⟩⟩
              · refine r_aload_n C dX7_scored_73 rfl rfl ?_
                refine mg_scoreWidth C dX7_scored_74 ?_
                refine r_iload_n C dX7_scored_77 rfl rfl ?_
                refine ml_scoreWidth C dX7_scored_78 (vp_in_nI (show i < 60 by omega) (by decide)) ?_
                refine r_goto (tgt := 102) C dX7_scored_79 (by decide) ?_
                rw [nI_clamp (by omega)]
                exact hR _ _ _ _ _ rfl dX7_scored_102 ⟨rfl, Or.inl ⟨i, by omega, rfl, c19, c24, by simp_all [scQ], rfl⟩⟩
            · refine r_aload_n C dX7_scored_59 rfl rfl ?_
              refine mg_lengthLeft C dX7_scored_60 ?_
              refine r_iload_n C dX7_scored_63 rfl rfl ?_
              refine ml_lengthLeft C dX7_scored_64 (vp_in_nI (show i < 60 by omega) (by decide)) ?_
              refine r_goto (tgt := 102) C dX7_scored_65 (by decide) ?_
              rw [nI_clamp (by omega)]
              exact hR _ _ _ _ _ rfl dX7_scored_102 ⟨rfl, Or.inl ⟨i, by omega, rfl, c19, c24, by simp_all [scQ], rfl⟩⟩
          · refine r_aload_n C dX7_scored_45 rfl rfl ?_
            refine mg_length C dX7_scored_46 ?_
            refine r_iload_n C dX7_scored_49 rfl rfl ?_
            refine ml_length C dX7_scored_50 (vp_in_nI (show i < 60 by omega) (by decide)) ?_
            refine r_goto (tgt := 102) C dX7_scored_51 (by decide) ?_
            rw [nI_clamp (by omega)]
            exact hR _ _ _ _ _ rfl dX7_scored_102 ⟨rfl, Or.inl ⟨i, by omega, rfl, c19, c24, by simp_all [scQ], rfl⟩⟩
theorem c_sewn {b : Nat} (x w : Int32) (hb : M 30 = nI b) (hb60 : b ≤ 60) : mI G h ad yX7_sewn cX7_sewn 3 .int 1 [.int x, .int w] M R (fun r M' R' => R' = R ∧ ((∃ i : Nat, i < b ∧ x = nI i ∧ ¬ w < 0 ∧ ¬ 3 < w ∧ r = haQ R i w ∧ M' = va_up M 0 0) ∨ (((∀ i : Nat, i < b → x ≠ nI i) ∨ w < 0 ∨ 3 < w) ∧ r = 0 ∧ M' = va_up M 0 1))) := by
  refine mI.intro (by decide) (Nat.le_of_ble_eq_true rfl) (cat1 (xs := [x, w])) fun X C hR => ?_
  have j31 : ((∀ i : Nat, i < b → x ≠ nI i) ∨ w < 0 ∨ 3 < w) → V X 0 0 31 (ent [.ref h, .int x, .int w] 3) [.ref h] (mW G h ad (va_up M 0 0) R) := by
    intro hno
    refine r_iconst (v := 0) C dX7_sewn_31 (by decide) ?_
    refine r_iconst (v := 1) C dX7_sewn_32 (by decide) ?_
    refine m_calli C (c_right0 G h ad _ _ 1 (by decide) rfl) kM_right dX7_sewn_33 rfl (by decide) (by decide) (by decide) (by decide) rfl rfl (fun r M1 R2 hp => ?_)
    obtain ⟨rfl, rfl, rfl⟩ := hp
    refine r_if_ne (tgt := 41) C dX7_sewn_36 (by decide) (fun c36 => absurd c36 ((fun q => q rfl))) (fun c36 => ?_)
    refine r_iconst (v := 0) C dX7_sewn_39 (by decide) ?_
    exact hR _ _ _ _ _ rfl dX7_sewn_40 ⟨rfl, Or.inr ⟨hno, rfl, up_up⟩⟩
  refine r_aload_n C dX7_sewn_0 rfl rfl ?_
  refine r_iconst (v := 0) C dX7_sewn_1 (by decide) ?_
  refine mp_thrown C dX7_sewn_2 ?_
  refine r_aload_n C dX7_sewn_5 rfl rfl ?_
  refine r_iload_n C dX7_sewn_6 rfl rfl ?_
  refine r_if_lt (tgt := 31) C dX7_sewn_7 (by decide) (fun c7 => ?_) (fun c7 => ?_)
  · exact j31 (by first | exact Or.inr (Or.inl c19) | exact Or.inr (Or.inr c24) | exact Or.inl (fun i hi e => by subst e; first | exact absurd c7 (nI_pos (by omega)) | (rw [nI_leI (by omega) (by omega)] at c15; omega)))
  · refine r_iload_n C dX7_sewn_10 rfl rfl ?_
    refine r_aload_n C dX7_sewn_11 rfl rfl ?_
    refine mg_hats C dX7_sewn_12 ?_
    show V X 0 0 15 _ [.int (M 30), .int x, .ref h] _
    rw [hb]
    refine r_icmp_ge (tgt := 31) C dX7_sewn_15 (by decide) (fun c15 => ?_) (fun c15 => ?_)
    · exact j31 (by first | exact Or.inr (Or.inl c19) | exact Or.inr (Or.inr c24) | exact Or.inl (fun i hi e => by subst e; first | exact absurd c7 (nI_pos (by omega)) | (rw [nI_leI (by omega) (by omega)] at c15; omega)))
    · obtain ⟨i, hi31, rfl⟩ := nI_of c7
      rw [nI_leI (by omega) (by omega)] at c15
      refine r_iload_n C dX7_sewn_18 rfl rfl ?_
      refine r_if_lt (tgt := 31) C dX7_sewn_19 (by decide) (fun c19 => ?_) (fun c19 => ?_)
      · exact j31 (by first | exact Or.inr (Or.inl c19) | exact Or.inr (Or.inr c24) | exact Or.inl (fun i hi e => by subst e; first | exact absurd c7 (nI_pos (by omega)) | (rw [nI_leI (by omega) (by omega)] at c15; omega)))
      · refine r_iload_n C dX7_sewn_22 rfl rfl ?_
        refine r_iconst (v := 3) C dX7_sewn_23 (by decide) ?_
        refine r_icmp_gt (tgt := 31) C dX7_sewn_24 (by decide) (fun c24 => ?_) (fun c24 => ?_)
        · exact j31 (by first | exact Or.inr (Or.inl c19) | exact Or.inr (Or.inr c24) | exact Or.inl (fun i hi e => by subst e; first | exact absurd c7 (nI_pos (by omega)) | (rw [nI_leI (by omega) (by omega)] at c15; omega)))
        · refine r_iconst (v := 1) C dX7_sewn_27 (by decide) ?_
          refine r_goto (tgt := 32) C dX7_sewn_28 (by decide) ?_
          refine r_iconst (v := 1) C dX7_sewn_32 (by decide) ?_
          refine m_calli C (c_right1 G h ad _ _ 1 rfl) kM_right dX7_sewn_33 rfl (by decide) (by decide) (by decide) (by decide) rfl rfl (fun r M1 R2 hp => ?_)
          obtain ⟨rfl, rfl, rfl⟩ := hp
          refine r_if_ne (tgt := 41) C dX7_sewn_36 (by decide) (fun c36 => ?_) (fun c36 => absurd c36 ((by decide)))
          refine r_iload_n C dX7_sewn_41 rfl rfl ?_
          refine r_if_ne (tgt := 54) C dX7_sewn_42 (by decide) (fun c42 => ?_) (fun c42 => ?_)
          · refine r_iload_n C dX7_sewn_54 rfl rfl ?_
            refine r_iconst (v := 1) C dX7_sewn_55 (by decide) ?_
            refine r_icmp_ne (tgt := 68) C dX7_sewn_56 (by decide) (fun c56 => ?_) (fun c56 => ?_)
            · refine r_iload_n C dX7_sewn_68 rfl rfl ?_
              refine r_iconst (v := 2) C dX7_sewn_69 (by decide) ?_
              refine r_icmp_ne (tgt := 82) C dX7_sewn_70 (by decide) (fun c70 => ?_) (fun c70 => ?_)
              · refine r_aload_n C dX7_sewn_82 rfl rfl ?_
                refine mg_hatScores C dX7_sewn_83 ?_
                refine r_iload_n C dX7_sewn_86 rfl rfl ?_
                refine ml_hatScores C dX7_sewn_87 (vp_in_nI (show i < 60 by omega) (by decide)) ?_
                rw [nI_clamp (by omega)]
                exact hR _ _ _ _ _ rfl dX7_sewn_88 ⟨rfl, Or.inl ⟨i, by omega, rfl, c19, c24, by simp_all [haQ], rfl⟩⟩
              · refine r_aload_n C dX7_sewn_73 rfl rfl ?_
                refine mg_hatFields C dX7_sewn_74 ?_
                refine r_iload_n C dX7_sewn_77 rfl rfl ?_
                refine ml_hatFields C dX7_sewn_78 (vp_in_nI (show i < 60 by omega) (by decide)) ?_
                refine r_goto (tgt := 88) C dX7_sewn_79 (by decide) ?_
                rw [nI_clamp (by omega)]
                exact hR _ _ _ _ _ rfl dX7_sewn_88 ⟨rfl, Or.inl ⟨i, by omega, rfl, c19, c24, by simp_all [haQ], rfl⟩⟩
            · refine r_aload_n C dX7_sewn_59 rfl rfl ?_
              refine mg_hatTurns C dX7_sewn_60 ?_
              refine r_iload_n C dX7_sewn_63 rfl rfl ?_
              refine ml_hatTurns C dX7_sewn_64 (vp_in_nI (show i < 60 by omega) (by decide)) ?_
              refine r_goto (tgt := 88) C dX7_sewn_65 (by decide) ?_
              rw [nI_clamp (by omega)]
              exact hR _ _ _ _ _ rfl dX7_sewn_88 ⟨rfl, Or.inl ⟨i, by omega, rfl, c19, c24, by simp_all [haQ], rfl⟩⟩
          · refine r_aload_n C dX7_sewn_45 rfl rfl ?_
            refine mg_hatLength C dX7_sewn_46 ?_
            refine r_iload_n C dX7_sewn_49 rfl rfl ?_
            refine ml_hatLength C dX7_sewn_50 (vp_in_nI (show i < 60 by omega) (by decide)) ?_
            refine r_goto (tgt := 88) C dX7_sewn_51 (by decide) ?_
            rw [nI_clamp (by omega)]
            exact hR _ _ _ _ _ rfl dX7_sewn_88 ⟨rfl, Or.inl ⟨i, by omega, rfl, c19, c24, by simp_all [haQ], rfl⟩⟩
theorem c_count {b : Nat} (w : Int32) (hb : M 28 = nI b) (hb40 : b ≤ 40) (hL : NumOK (R 33) b 5000) : mI G h ad yX7_count cX7_count 4 .int 1 [.int w] M R (fun r M' R' => R' = R ∧ ((w = 0 ∧ r = M 28 ∧ M' = va_up M 0 0) ∨ (w = 1 ∧ r = M 29 ∧ M' = va_up M 0 0) ∨ (w = 2 ∧ r = M 30 ∧ M' = va_up M 0 0) ∨ (w = 3 ∧ r = M 2 ∧ M' = va_up M 0 0) ∨ (w = 4 ∧ r = nI (sumA (R 33) b) ∧ M' = va_up M 0 0) ∨ ((w < 0 ∨ 4 < w) ∧ r = 0 ∧ M' = va_up M 0 1))) := by
  refine mI.intro (by decide) (Nat.le_of_ble_eq_true rfl) (cat1 (xs := [w])) fun X C hR => ?_
  have j19 : (w < 0 ∨ 4 < w) → V X 0 0 19 (ent [.ref h, .int w] 4) [.ref h] (mW G h ad (va_up M 0 0) R) := by
    intro hno
    refine r_iconst (v := 0) C dX7_count_19 (by decide) ?_
    refine r_iconst (v := 1) C dX7_count_20 (by decide) ?_
    refine m_calli C (c_right0 G h ad _ _ 1 (by decide) rfl) kM_right dX7_count_21 rfl (by decide) (by decide) (by decide) (by decide) rfl rfl (fun r M1 R2 hp => ?_)
    obtain ⟨rfl, rfl, rfl⟩ := hp
    refine r_if_ne (tgt := 29) C dX7_count_24 (by decide) (fun c24 => absurd c24 ((fun q => q rfl))) (fun c24 => ?_)
    refine r_iconst (v := 0) C dX7_count_27 (by decide) ?_
    exact hR _ _ _ _ _ rfl dX7_count_28 ⟨rfl, by simp [hno, up_up]⟩
  have key : w = 4 → ∀ (f i : Nat), i + f = b → V X 0 0 84 [some (.ref h), some (.int w), some (.int (nI (sumA (R 33) i))), some (.int (nI i))] [] (mW G h ad (va_up M 0 0) R) := by
    intro hw f
    induction f with
    | zero =>
      intro i hi
      have hib : i = b := by omega
      subst hib
      refine r_iload_n C dX7_count_84 rfl rfl ?_
      refine r_aload_n C dX7_count_85 rfl rfl ?_
      refine mg_bundles C dX7_count_86 ?_
      show V X 0 0 89 _ [.int (M 28), .int (nI i)] _
      rw [hb]
      refine r_icmp_ge (tgt := 107) C dX7_count_89 (by decide) (fun c89 => ?_) (fun c89 => absurd c89 ((fun q => q (nI_le (by omega) (by omega)))))
      refine r_iload_n C dX7_count_107 rfl rfl ?_
      exact hR _ _ _ _ _ rfl dX7_count_108 ⟨rfl, Or.inr (Or.inr (Or.inr (Or.inr (Or.inl ⟨hw, rfl, rfl⟩))))⟩
    | succ f ih =>
      intro i hi
      have hi2 := hL i (by omega)
      refine r_iload_n C dX7_count_84 rfl rfl ?_
      refine r_aload_n C dX7_count_85 rfl rfl ?_
      refine mg_bundles C dX7_count_86 ?_
      show V X 0 0 89 _ [.int (M 28), .int (nI i)] _
      rw [hb]
      refine r_icmp_ge (tgt := 107) C dX7_count_89 (by decide) (fun c89 => absurd c89 ((nI_ge (by omega) (by omega)))) (fun c89 => ?_)
      refine r_iload_n C dX7_count_92 rfl rfl ?_
      refine r_aload_n C dX7_count_93 rfl rfl ?_
      refine mg_leftOf C dX7_count_94 ?_
      refine r_iload_n C dX7_count_97 rfl rfl ?_
      refine ml_leftOf C dX7_count_98 (vp_in_nI (show i < 40 by omega) (by decide)) ?_
      rw [nI_clamp (by omega), hi2.1]
      refine r_iadd C dX7_count_99 ?_
      rw [nI_add]
      refine r_istore_n C dX7_count_100 rfl (by decide) ?_
      refine r_iinc (v := _ + 1) C dX7_count_101 rfl (by rfl) (by decide) ?_
      rw [nI_1]
      refine r_goto (tgt := 84) C dX7_count_104 (by decide) ?_
      exact ih (i + 1) (by omega)
  refine r_aload_n C dX7_count_0 rfl rfl ?_
  refine r_iconst (v := 0) C dX7_count_1 (by decide) ?_
  refine mp_thrown C dX7_count_2 ?_
  refine r_aload_n C dX7_count_5 rfl rfl ?_
  refine r_iload_n C dX7_count_6 rfl rfl ?_
  refine r_if_lt (tgt := 19) C dX7_count_7 (by decide) (fun c7 => ?_) (fun c7 => ?_)
  · exact j19 (by first | exact Or.inl c7 | exact Or.inr c12)
  · refine r_iload_n C dX7_count_10 rfl rfl ?_
    refine r_iconst (v := 4) C dX7_count_11 (by decide) ?_
    refine r_icmp_gt (tgt := 19) C dX7_count_12 (by decide) (fun c12 => ?_) (fun c12 => ?_)
    · exact j19 (by first | exact Or.inl c7 | exact Or.inr c12)
    · refine r_iconst (v := 1) C dX7_count_15 (by decide) ?_
      refine r_goto (tgt := 20) C dX7_count_16 (by decide) ?_
      refine r_iconst (v := 1) C dX7_count_20 (by decide) ?_
      refine m_calli C (c_right1 G h ad _ _ 1 rfl) kM_right dX7_count_21 rfl (by decide) (by decide) (by decide) (by decide) rfl rfl (fun r M1 R2 hp => ?_)
      obtain ⟨rfl, rfl, rfl⟩ := hp
      refine r_if_ne (tgt := 29) C dX7_count_24 (by decide) (fun c24 => ?_) (fun c24 => absurd c24 ((by decide)))
      refine r_iload_n C dX7_count_29 rfl rfl ?_
      refine r_tab C dX7_count_30 (by decide) (by decide) (fun i30 off30 ho30 hx30 => ?_) (fun hx30 => ⟨80, by decide, ?_⟩)
      · have hi30 : i30 < 4 := (Array.getElem?_eq_some_iff.mp ho30).1
        rcases (show i30 = 0 ∨ i30 = 1 ∨ i30 = 2 ∨ i30 = 3 by omega) with rfl | rfl | rfl | rfl
        · cases ho30
          refine ⟨60, by decide, ?_⟩
          refine r_aload_n C dX7_count_60 rfl rfl ?_
          refine mg_bundles C dX7_count_61 ?_
          exact hR _ _ _ _ _ rfl dX7_count_64 ⟨rfl, Or.inl ⟨hx30, rfl, rfl⟩⟩
        · cases ho30
          refine ⟨65, by decide, ?_⟩
          refine r_aload_n C dX7_count_65 rfl rfl ?_
          refine mg_scores C dX7_count_66 ?_
          exact hR _ _ _ _ _ rfl dX7_count_69 ⟨rfl, Or.inr (Or.inl ⟨hx30, rfl, rfl⟩)⟩
        · cases ho30
          refine ⟨70, by decide, ?_⟩
          refine r_aload_n C dX7_count_70 rfl rfl ?_
          refine mg_hats C dX7_count_71 ?_
          exact hR _ _ _ _ _ rfl dX7_count_74 ⟨rfl, Or.inr (Or.inr (Or.inl ⟨hx30, rfl, rfl⟩))⟩
        · cases ho30
          refine ⟨75, by decide, ?_⟩
          refine r_aload_n C dX7_count_75 rfl rfl ?_
          refine mg_taped C dX7_count_76 ?_
          exact hR _ _ _ _ _ rfl dX7_count_79 ⟨rfl, Or.inr (Or.inr (Or.inr (Or.inl ⟨hx30, rfl, rfl⟩)))⟩
      · have hw4 : w = 4 := by
          obtain ⟨i, hi, rfl⟩ := nI_of2 (n := 4) (by decide) c7 (Int32.not_lt.mp c12)
          rcases (show i = 0 ∨ i = 1 ∨ i = 2 ∨ i = 3 ∨ i = 4 by omega) with rfl | rfl | rfl | rfl | rfl
          · exact absurd rfl (hx30 0 (by decide))
          · exact absurd rfl (hx30 1 (by decide))
          · exact absurd rfl (hx30 2 (by decide))
          · exact absurd rfl (hx30 3 (by decide))
          · rfl
        refine r_iconst (v := 0) C dX7_count_80 (by decide) ?_
        refine r_istore_n C dX7_count_81 rfl (by decide) ?_
        refine r_iconst (v := 0) C dX7_count_82 (by decide) ?_
        refine r_istore_n C dX7_count_83 rfl (by decide) ?_
        exact key hw4 b 0 (by omega)
end M5
end
section
/-! the reference: hat -/
def okH (nh : Nat) (w r : Int32) (wn rn : Nat) : Prop := nh ≠ 60 ∧ w = nI wn ∧ r = nI rn ∧ 1 ≤ wn ∧ wn ≤ 9 ∧ 1 ≤ rn ∧ rn ≤ 400 ∧ rn % wn = 0
def hatR (R : Rt) (w : Int32) (nh ns wn rn : Nat) : Rt :=
  va_up (va_up (va_up (va_up (va_up R 35 (tk (R 36) (R 37) w (R 35) (hatNeed wn (rn / wn)) ns).1) 39 (upd (R 39) nh (nI (hatNeed wn (rn / wn))))) 40 (upd (R 40) nh (nI (rn / wn)))) 41 (upd (R 41) nh (tk (R 36) (R 37) w (R 35) (hatNeed wn (rn / wn)) ns).2.2.1)) 42 (upd (R 42) nh (tk (R 36) (R 37) w (R 35) (hatNeed wn (rn / wn)) ns).2.2.2)
section M6
variable (G : Gx) (h : Nat) (ad : Nat → Nat) (M : Mt) (R : Rt)
theorem c_hat {nh ns : Nat} (w r : Int32) (hh : M 30 = nI nh) (hh60 : nh ≤ 60) (hs : M 29 = nI ns) (hs60 : ns ≤ 60) (hL : NumOK (R 35) ns 120000) : mI G h ad yX7_hat cX7_hat 10 .int 0 [.int w, .int r] M R (fun a M' R' => (((∀ wn rn : Nat, ¬ okH nh w r wn rn) ∨ (∃ wn rn : Nat, okH nh w r wn rn ∧ sumW (R 36) (R 35) w ns < hatNeed wn (rn / wn))) ∧ a = -1 ∧ M' = va_up M 0 0 ∧ R' = R) ∨ (∃ wn rn : Nat, okH nh w r wn rn ∧ hatNeed wn (rn / wn) ≤ sumW (R 36) (R 35) w ns ∧ a = nI nh ∧ M' = va_up (va_up M 0 0) 30 (nI (nh + 1)) ∧ R' = hatR R w nh ns wn rn)) := by
  refine mI.intro (by decide) (Nat.le_of_ble_eq_true rfl) (cat1 (xs := [w, r])) fun X C hR => ?_
  have j43 : (∀ wn rn : Nat, ¬ okH nh w r wn rn) → V X 0 0 43 (ent [.ref h, .int w, .int r] 10) [] (mW G h ad (va_up M 0 0) R) := by
    intro hno
    refine r_iconst (v := -1) C dX7_hat_43 (by decide) ?_
    exact hR _ _ _ _ _ rfl dX7_hat_44 (Or.inl ⟨Or.inl hno, rfl, rfl, rfl⟩)
  have c1 : (1 : Int32) = nI 1 := rfl
  have j45 : ∀ wn rn : Nat, okH nh w r wn rn → V X 0 0 45 (ent [.ref h, .int w, .int r] 10) [] (mW G h ad (va_up M 0 0) R) := by
    intro wn rn hok
    obtain ⟨hn60, rfl, rfl, hw1, hw9, hr1, hr4, hmod⟩ := id hok
    have hrw : nI rn / nI wn = nI (rn / wn) := pk_div (by omega) (by omega) (by omega)
    have hw0 : ¬ nI wn = 0 := nI_ne0 (by omega) (by omega)
    have hq4 : rn / wn ≤ 400 := Nat.le_trans (Nat.div_le_self _ _) hr4
    obtain ⟨need, hneed⟩ : ∃ q, q = hatNeed wn (rn / wn) := ⟨_, rfl⟩
    have hn1 := hatNeed_le (w := wn) hw9 (rn / wn) hq4
    have hsum := sumW_le (W := R 36) (w := nI wn) hL ns (Nat.le_refl _)
    have hcl : (M 30).toNatClampNeg = nh := by rw [hh, nI_clamp (by omega)]
    have fin : need ≤ sumW (R 36) (R 35) (nI wn) ns → V X 0 0 266 [some (.ref h), some (.int (nI wn)), some (.int (nI rn)), some (.int (nI need)), none, some (.int (tk (R 36) (R 37) (nI wn) (R 35) need ns).2.2.1), some (.int (tk (R 36) (R 37) (nI wn) (R 35) need ns).2.2.2), none, none, none] [] (mW G h ad (va_up M 0 0) (va_up R 35 (tk (R 36) (R 37) (nI wn) (R 35) need ns).1)) := by
      intro hle
      have hbd : vp_in (M 30) 60 := by rw [hh]; exact vp_in_nI (by omega) (by decide)
      refine r_aload_n C dX7_hat_266 rfl rfl ?_
      refine mg_hatLength C dX7_hat_267 ?_
      refine r_aload_n C dX7_hat_270 rfl rfl ?_
      refine mg_hats C dX7_hat_271 ?_
      refine r_iload_n C dX7_hat_274 rfl rfl ?_
      refine ms_hatLength C dX7_hat_275 (hbd) ?_
      refine r_aload_n C dX7_hat_276 rfl rfl ?_
      refine mg_hatTurns C dX7_hat_277 ?_
      refine r_aload_n C dX7_hat_280 rfl rfl ?_
      refine mg_hats C dX7_hat_281 ?_
      refine r_iload_n C dX7_hat_284 rfl rfl ?_
      refine r_iload_n C dX7_hat_285 rfl rfl ?_
      refine r_idiv C dX7_hat_286 (hw0) ?_
      rw [hrw]
      refine ms_hatTurns C dX7_hat_287 (hbd) ?_
      refine r_aload_n C dX7_hat_288 rfl rfl ?_
      refine mg_hatFields C dX7_hat_289 ?_
      refine r_aload_n C dX7_hat_292 rfl rfl ?_
      refine mg_hats C dX7_hat_293 ?_
      refine r_iload C dX7_hat_296 rfl ?_
      refine ms_hatFields C dX7_hat_298 (hbd) ?_
      refine r_aload_n C dX7_hat_299 rfl rfl ?_
      refine mg_hatScores C dX7_hat_300 ?_
      refine r_aload_n C dX7_hat_303 rfl rfl ?_
      refine mg_hats C dX7_hat_304 ?_
      refine r_iload C dX7_hat_307 rfl ?_
      refine ms_hatScores C dX7_hat_309 (hbd) ?_
      show V X 0 0 310 _ _ (mW G h ad (va_up M 0 0) (va_up (va_up (va_up (va_up (va_up R 35 (tk (R 36) (R 37) (nI wn) (R 35) need ns).1) 39 (upd (R 39) (M 30).toNatClampNeg (nI need))) 40 (upd (R 40) (M 30).toNatClampNeg (nI (rn / wn)))) 41 (upd (R 41) (M 30).toNatClampNeg (tk (R 36) (R 37) (nI wn) (R 35) need ns).2.2.1)) 42 (upd (R 42) (M 30).toNatClampNeg (tk (R 36) (R 37) (nI wn) (R 35) need ns).2.2.2)))
      rw [hcl]
      refine r_aload_n C dX7_hat_310 rfl rfl ?_
      refine r_dup C dX7_hat_311 rfl ?_
      refine mg_hats C dX7_hat_312 ?_
      refine r_iconst (v := 1) C dX7_hat_315 (by decide) ?_
      refine r_iadd C dX7_hat_316 ?_
      show V X 0 0 317 _ [.int (M 30 + 1), .ref h] _
      rw [hh, nI_1]
      refine mp_hats C dX7_hat_317 ?_
      refine r_aload_n C dX7_hat_320 rfl rfl ?_
      refine mg_hats C dX7_hat_321 ?_
      refine r_iconst (v := 1) C dX7_hat_324 (by decide) ?_
      refine r_isub C dX7_hat_325 ?_
      show V X 0 0 326 _ [.int (nI (nh + 1) - 1)] _
      rw [nI_pred]
      exact hR _ _ _ _ _ rfl dX7_hat_326 (Or.inr ⟨wn, rn, hok, by rw [← hneed]; exact hle, rfl, rfl, by rw [hneed]; rfl⟩)
    have k3 : need ≤ sumW (R 36) (R 35) (nI wn) ns → ∀ (f s : Nat), s + f = ns → V X 0 0 149 [some (.ref h), some (.int (nI wn)), some (.int (nI rn)), some (.int (nI need)), none, some (.int (tk (R 36) (R 37) (nI wn) (R 35) need s).2.2.1), some (.int (tk (R 36) (R 37) (nI wn) (R 35) need s).2.2.2), some (.int (nI (tk (R 36) (R 37) (nI wn) (R 35) need s).2.1)), some (.int (nI s)), none] [] (mW G h ad (va_up M 0 0) (va_up R 35 (tk (R 36) (R 37) (nI wn) (R 35) need s).1)) := by
      intro hle f
      induction f with
      | zero =>
        intro s hsf
        have hsn : s = ns := by omega
        subst hsn
        refine r_iload C dX7_hat_149 rfl ?_
        refine r_aload_n C dX7_hat_151 rfl rfl ?_
        refine mg_scores C dX7_hat_152 ?_
        show V X 0 0 155 _ [.int (M 29), .int (nI s)] _
        rw [hs]
        refine r_icmp_ge (tgt := 266) C dX7_hat_155 (by decide) (fun c155 => ?_) (fun c155 => absurd c155 ((fun q => q (nI_le (by omega) (by omega)))))
        exact V.keep [true, true, true, true, true, true, true, false, false, false] (fin hle)
      | succ f ih =>
        intro s hsf
        have nx := ih (s + 1) (by omega)
        have hko := tk_ok (W := R 36) (F := R 37) (w := nI wn) (need := need) (by decide) hL s
        have hst : tk (R 36) (R 37) (nI wn) (R 35) need (s + 1) = tkS (R 36) (R 37) (nI wn) s (tk (R 36) (R 37) (nI wn) (R 35) need s) := rfl
        have hend : (tk (R 36) (R 37) (nI wn) (R 35) need s).2.1 = 0 → tk (R 36) (R 37) (nI wn) (R 35) need ns = tk (R 36) (R 37) (nI wn) (R 35) need s := by
          intro q
          have := tk_stop q (ns - s)
          rw [show s + (ns - s) = ns by omega] at this
          exact this
        have fin' := fin hle
        rw [hst] at nx
        generalize tk (R 36) (R 37) (nI wn) (R 35) need s = Q at nx hko hend ⊢
        obtain ⟨lf, more, fl, of⟩ := Q
        dsimp only at nx hko hend ⊢
        have hlf := hko.1 s (by omega)
        obtain ⟨yl, hyl⟩ : ∃ y, y = cl (lf s) := ⟨_, rfl⟩
        rw [← hyl] at hlf
        have j260 : ∀ o9 : Option Value, ¬ (0 < more ∧ R 36 s = nI wn ∧ lf s ≠ 0) → V X 0 0 260 [some (.ref h), some (.int (nI wn)), some (.int (nI rn)), some (.int (nI need)), none, some (.int fl), some (.int of), some (.int (nI more)), some (.int (nI s)), o9] [] (mW G h ad (va_up M 0 0) (va_up R 35 lf)) := by
          intro o9 hno
          unfold tkS at nx
          rw [if_neg hno] at nx
          refine r_iinc (v := _ + 1) C dX7_hat_260 rfl (by rfl) (by decide) ?_
          rw [nI_1]
          refine r_goto (tgt := 149) C dX7_hat_263 (by decide) ?_
          exact V.keep [true, true, true, true, true, true, true, true, true, false] nx
        have j213 : 0 < more → R 36 s = nI wn → lf s ≠ 0 → V X 0 0 213 [some (.ref h), some (.int (nI wn)), some (.int (nI rn)), some (.int (nI need)), none, some (.int fl), some (.int of), some (.int (nI more)), some (.int (nI s)), some (.int (nI (min yl more)))] [] (mW G h ad (va_up M 0 0) (va_up R 35 lf)) := by
          intro hm hW hl0
          unfold tkS at nx
          rw [if_pos ⟨hm, hW, hl0⟩] at nx
          dsimp only at nx
          rw [← hyl] at nx
          refine r_aload_n C dX7_hat_213 rfl rfl ?_
          refine mg_lengthLeft C dX7_hat_214 ?_
          refine r_iload C dX7_hat_217 rfl ?_
          refine r_dup2 C dX7_hat_219 rfl rfl ?_
          refine ml_lengthLeft C dX7_hat_220 (vp_in_nI (show s < 60 by omega) (by decide)) ?_
          rw [nI_clamp (by omega)]
          show V X 0 0 221 _ (.int (lf s) :: _) _
          rw [hlf.1]
          refine r_iload C dX7_hat_221 rfl ?_
          refine r_isub C dX7_hat_223 ?_
          rw [pk_sub (Nat.min_le_left _ _)]
          refine ms_lengthLeft C dX7_hat_224 (vp_in_nI (show s < 60 by omega) (by decide)) ?_
          rw [nI_clamp (by omega)]
          show V X 0 0 225 _ _ (mW G h ad _ (va_up (va_up R 35 lf) 35 (upd lf s (nI (yl - min yl more)))))
          rw [up_up]
          refine r_iload C dX7_hat_225 rfl ?_
          refine r_iload C dX7_hat_227 rfl ?_
          refine r_isub C dX7_hat_229 ?_
          rw [pk_sub (Nat.min_le_right _ _)]
          refine r_istore C dX7_hat_230 (by decide) ?_
          refine r_iload C dX7_hat_232 rfl ?_
          refine r_aload_n C dX7_hat_234 rfl rfl ?_
          refine mg_scoreFields C dX7_hat_235 ?_
          refine r_iload C dX7_hat_238 rfl ?_
          refine ml_scoreFields C dX7_hat_240 (vp_in_nI (show s < 60 by omega) (by decide)) ?_
          rw [nI_clamp (by omega)]
          refine r_ior C dX7_hat_241 ?_
          refine r_istore C dX7_hat_242 (by decide) ?_
          refine r_iload C dX7_hat_244 rfl ?_
          refine r_bipush (v := 31) C dX7_hat_246 (by decide) ?_
          refine r_icmp_ge (tgt := 260) C dX7_hat_248 (by decide) (fun c248 => ?_) (fun c248 => ?_)
          · exact r_iinc (v := _ + 1) C dX7_hat_260 rfl (by rfl) (by decide) (r_goto (tgt := 149) C dX7_hat_263 (by decide) (by rw [nI_1]; first | exact V.keep [true, true, true, true, true, true, true, true, true, false] nx | (rw [show (31 : Int32) = nI 31 from rfl, nI_leI (by omega) (by omega)] at c248; rw [if_neg (by omega)] at nx; exact V.keep [true, true, true, true, true, true, true, true, true, false] nx)))
          · rw [show (31 : Int32) = nI 31 from rfl, nI_leI (by omega) (by omega)] at c248
            rw [if_pos (by omega)] at nx
            refine r_iload C dX7_hat_251 rfl ?_
            refine r_iconst (v := 1) C dX7_hat_253 (by decide) ?_
            refine r_iload C dX7_hat_254 rfl ?_
            refine r_ishl C dX7_hat_256 ?_
            refine r_ior C dX7_hat_257 ?_
            refine r_istore C dX7_hat_258 (by decide) ?_
            exact r_iinc (v := _ + 1) C dX7_hat_260 rfl (by rfl) (by decide) (r_goto (tgt := 149) C dX7_hat_263 (by decide) (by rw [nI_1]; first | exact V.keep [true, true, true, true, true, true, true, true, true, false] nx | (rw [show (31 : Int32) = nI 31 from rfl, nI_leI (by omega) (by omega)] at c248; rw [if_neg (by omega)] at nx; exact V.keep [true, true, true, true, true, true, true, true, true, false] nx)))
        refine r_iload C dX7_hat_149 rfl ?_
        refine r_aload_n C dX7_hat_151 rfl rfl ?_
        refine mg_scores C dX7_hat_152 ?_
        show V X 0 0 155 _ [.int (M 29), .int (nI s)] _
        rw [hs]
        refine r_icmp_ge (tgt := 266) C dX7_hat_155 (by decide) (fun c155 => absurd c155 ((nI_ge (by omega) (by omega)))) (fun c155 => ?_)
        refine r_iload C dX7_hat_158 rfl ?_
        refine r_if_le (tgt := 266) C dX7_hat_160 (by decide) (fun c160 => ?_) (fun c160 => ?_)
        · exact (by
            have hm0 : more = 0 := by
              rcases Nat.eq_zero_or_pos more with q | q
              · exact q
              · exact absurd c160 (nI_nle q (by omega))
            rw [hend hm0] at fin'
            exact V.keep [true, true, true, true, true, true, true, false, false, false] fin')
        · have hm : 0 < more := by
            rcases Nat.eq_zero_or_pos more with q | q
            · exact absurd (by rw [q]; decide) c160
            · exact q
          refine r_aload_n C dX7_hat_163 rfl rfl ?_
          refine mg_scoreWidth C dX7_hat_164 ?_
          refine r_iload C dX7_hat_167 rfl ?_
          refine ml_scoreWidth C dX7_hat_169 (vp_in_nI (show s < 60 by omega) (by decide)) ?_
          rw [nI_clamp (by omega)]
          refine r_iload_n C dX7_hat_170 rfl rfl ?_
          refine r_icmp_ne (tgt := 260) C dX7_hat_171 (by decide) (fun c171 => ?_) (fun c171 => ?_)
          · exact j260 _ (fun q => by first | exact c171 q.2.1 | exact q.2.2 c181)
          · refine r_aload_n C dX7_hat_174 rfl rfl ?_
            refine mg_lengthLeft C dX7_hat_175 ?_
            refine r_iload C dX7_hat_178 rfl ?_
            refine ml_lengthLeft C dX7_hat_180 (vp_in_nI (show s < 60 by omega) (by decide)) ?_
            rw [nI_clamp (by omega)]
            refine r_if_ne (tgt := 187) C dX7_hat_181 (by decide) (fun c181 => ?_) (fun c181 => ?_)
            · refine r_aload_n C dX7_hat_187 rfl rfl ?_
              refine mg_lengthLeft C dX7_hat_188 ?_
              refine r_iload C dX7_hat_191 rfl ?_
              refine ml_lengthLeft C dX7_hat_193 (vp_in_nI (show s < 60 by omega) (by decide)) ?_
              rw [nI_clamp (by omega)]
              refine r_iload C dX7_hat_194 rfl ?_
              show V X 0 0 196 _ [.int (nI more), .int (lf s)] _
              rw [hlf.1]
              refine r_icmp_ge (tgt := 209) C dX7_hat_196 (by decide) (fun c196 => ?_) (fun c196 => ?_)
              · rw [nI_leI (by omega) (by omega)] at c196
                refine r_iload C dX7_hat_209 rfl ?_
                refine r_istore C dX7_hat_211 (by decide) ?_
                exact (by
                  have q := j213 hm c171 c181
                  first | (rw [Nat.min_eq_left (by omega)] at q; exact q) | (rw [Nat.min_eq_right (by omega)] at q; exact q))
              · rw [nI_leI (by omega) (by omega)] at c196
                refine r_aload_n C dX7_hat_199 rfl rfl ?_
                refine mg_lengthLeft C dX7_hat_200 ?_
                refine r_iload C dX7_hat_203 rfl ?_
                refine ml_lengthLeft C dX7_hat_205 (vp_in_nI (show s < 60 by omega) (by decide)) ?_
                rw [nI_clamp (by omega)]
                show V X 0 0 206 _ [.int (lf s)] _
                rw [hlf.1]
                refine r_goto (tgt := 211) C dX7_hat_206 (by decide) ?_
                refine r_istore C dX7_hat_211 (by decide) ?_
                exact (by
                  have q := j213 hm c171 c181
                  first | (rw [Nat.min_eq_left (by omega)] at q; exact q) | (rw [Nat.min_eq_right (by omega)] at q; exact q))
            · refine r_goto (tgt := 260) C dX7_hat_184 (by decide) ?_
              exact j260 _ (fun q => by first | exact c171 q.2.1 | exact q.2.2 c181)
    have k2 : ∀ (f s : Nat), s + f = ns → V X 0 0 91 [some (.ref h), some (.int (nI wn)), some (.int (nI rn)), some (.int (nI need)), some (.int (nI (sumW (R 36) (R 35) (nI wn) s))), some (.int (nI s)), none, none, none, none] [] (mW G h ad (va_up M 0 0) R) := by
      intro f
      induction f with
      | zero =>
        intro s hsf
        have hsn : s = ns := by omega
        subst hsn
        refine r_iload C dX7_hat_91 rfl ?_
        refine r_aload_n C dX7_hat_93 rfl rfl ?_
        refine mg_scores C dX7_hat_94 ?_
        show V X 0 0 97 _ [.int (M 29), .int (nI s)] _
        rw [hs]
        refine r_icmp_ge (tgt := 129) C dX7_hat_97 (by decide) (fun c97 => ?_) (fun c97 => absurd c97 ((fun q => q (nI_le (by omega) (by omega)))))
        refine r_iload C dX7_hat_129 rfl ?_
        refine r_iload_n C dX7_hat_131 rfl rfl ?_
        refine r_icmp_ge (tgt := 137) C dX7_hat_132 (by decide) (fun c132 => ?_) (fun c132 => ?_)
        · rw [nI_leI (by omega) (by omega)] at c132
          refine r_iconst (v := 0) C dX7_hat_137 (by decide) ?_
          refine r_istore C dX7_hat_138 (by decide) ?_
          refine r_iconst (v := 0) C dX7_hat_140 (by decide) ?_
          refine r_istore C dX7_hat_141 (by decide) ?_
          refine r_iload_n C dX7_hat_143 rfl rfl ?_
          refine r_istore C dX7_hat_144 (by decide) ?_
          refine r_iconst (v := 0) C dX7_hat_146 (by decide) ?_
          refine r_istore C dX7_hat_147 (by decide) ?_
          exact (by
            have q := k3 c132 s 0 (by omega)
            rw [show (tk (R 36) (R 37) (nI wn) (R 35) need 0).1 = R 35 from rfl, up_same rfl] at q
            exact V.keep [true, true, true, true, false, true, true, true, true, false] q)
        · rw [nI_leI (by omega) (by omega)] at c132
          refine r_iconst (v := -1) C dX7_hat_135 (by decide) ?_
          exact hR _ _ _ _ _ rfl dX7_hat_136 (Or.inl ⟨Or.inr ⟨wn, rn, hok, by rw [← hneed]; omega⟩, rfl, rfl, rfl⟩)
      | succ f ih =>
        intro s hsf
        have nx := ih (s + 1) (by omega)
        have hLs := hL s (by omega)
        refine r_iload C dX7_hat_91 rfl ?_
        refine r_aload_n C dX7_hat_93 rfl rfl ?_
        refine mg_scores C dX7_hat_94 ?_
        show V X 0 0 97 _ [.int (M 29), .int (nI s)] _
        rw [hs]
        refine r_icmp_ge (tgt := 129) C dX7_hat_97 (by decide) (fun c97 => absurd c97 ((nI_ge (by omega) (by omega)))) (fun c97 => ?_)
        refine r_aload_n C dX7_hat_100 rfl rfl ?_
        refine mg_scoreWidth C dX7_hat_101 ?_
        refine r_iload C dX7_hat_104 rfl ?_
        refine ml_scoreWidth C dX7_hat_106 (vp_in_nI (show s < 60 by omega) (by decide)) ?_
        rw [nI_clamp (by omega)]
        refine r_iload_n C dX7_hat_107 rfl rfl ?_
        refine r_icmp_ne (tgt := 123) C dX7_hat_108 (by decide) (fun c108 => ?_) (fun c108 => ?_)
        · refine r_iinc (v := _ + 1) C dX7_hat_123 rfl (by rfl) (by decide) ?_
          rw [nI_1]
          refine r_goto (tgt := 91) C dX7_hat_126 (by decide) ?_
          exact (by
            unfold sumW at nx
            first | (rw [if_pos c108] at nx; exact nx) | (rw [if_neg c108] at nx; exact nx))
        · refine r_iload C dX7_hat_111 rfl ?_
          refine r_aload_n C dX7_hat_113 rfl rfl ?_
          refine mg_lengthLeft C dX7_hat_114 ?_
          refine r_iload C dX7_hat_117 rfl ?_
          refine ml_lengthLeft C dX7_hat_119 (vp_in_nI (show s < 60 by omega) (by decide)) ?_
          rw [nI_clamp (by omega), hLs.1]
          refine r_iadd C dX7_hat_120 ?_
          rw [nI_add]
          refine r_istore C dX7_hat_121 (by decide) ?_
          refine r_iinc (v := _ + 1) C dX7_hat_123 rfl (by rfl) (by decide) ?_
          rw [nI_1]
          refine r_goto (tgt := 91) C dX7_hat_126 (by decide) ?_
          exact (by
            unfold sumW at nx
            first | (rw [if_pos c108] at nx; exact nx) | (rw [if_neg c108] at nx; exact nx))
    have k1 : ∀ (f t : Nat), t + f = rn / wn → V X 0 0 50 [some (.ref h), some (.int (nI wn)), some (.int (nI rn)), some (.int (nI (hatNeed wn t))), some (.int (nI (t + 1))), none, none, none, none, none] [] (mW G h ad (va_up M 0 0) R) := by
      intro f
      induction f with
      | zero =>
        intro t htf
        have htn : t = rn / wn := by omega
        refine r_iload C dX7_hat_50 rfl ?_
        refine r_iload_n C dX7_hat_52 rfl rfl ?_
        refine r_iload_n C dX7_hat_53 rfl rfl ?_
        refine r_idiv C dX7_hat_54 (hw0) ?_
        rw [hrw]
        refine r_icmp_gt (tgt := 85) C dX7_hat_55 (by decide) (fun c55 => ?_) (fun c55 => absurd c55 ((fun q => q (nI_lt (by omega) (by omega)))))
        refine r_iconst (v := 0) C dX7_hat_85 (by decide) ?_
        refine r_istore C dX7_hat_86 (by decide) ?_
        refine r_iconst (v := 0) C dX7_hat_88 (by decide) ?_
        refine r_istore C dX7_hat_89 (by decide) ?_
        exact (by
          have q := k2 ns 0 (by omega)
          rw [hneed, ← htn] at q
          exact q)
      | succ f ih =>
        intro t htf
        have nx := ih (t + 1) (by omega)
        have hb1 : 710 * (2 * (t + 1) - 1) * wn ≤ 710 * 799 * 9 := Nat.mul_le_mul (Nat.mul_le_mul_left _ (by omega)) hw9
        refine r_iload C dX7_hat_50 rfl ?_
        refine r_iload_n C dX7_hat_52 rfl rfl ?_
        refine r_iload_n C dX7_hat_53 rfl rfl ?_
        refine r_idiv C dX7_hat_54 (hw0) ?_
        rw [hrw]
        refine r_icmp_gt (tgt := 85) C dX7_hat_55 (by decide) (fun c55 => absurd c55 ((nI_nlt (by omega) (by omega)))) (fun c55 => ?_)
        refine r_iload_n C dX7_hat_58 rfl rfl ?_
        refine r_sipush (v := 710) C dX7_hat_59 (by decide) ?_
        refine r_iconst (v := 2) C dX7_hat_62 (by decide) ?_
        refine r_iload C dX7_hat_63 rfl ?_
        refine r_imul C dX7_hat_65 ?_
        rw [show (2 : Int32) = nI 2 from rfl, pk_mul]
        refine r_iconst (v := 1) C dX7_hat_66 (by decide) ?_
        refine r_isub C dX7_hat_67 ?_
        rw [c1, pk_sub (by omega), show (710 : Int32) = nI 710 from rfl]
        refine r_imul C dX7_hat_68 ?_
        rw [pk_mul]
        refine r_iload_n C dX7_hat_69 rfl rfl ?_
        refine r_imul C dX7_hat_70 ?_
        rw [pk_mul]
        refine r_sipush (v := 226) C dX7_hat_71 (by decide) ?_
        rw [show (226 : Int32) = nI 226 from rfl]
        refine r_idiv C dX7_hat_74 (nI_ne0 (by decide) (by decide)) ?_
        rw [pk_div (by omega) (by decide) (by decide)]
        refine r_iconst (v := 1) C dX7_hat_75 (by decide) ?_
        refine r_iadd C dX7_hat_76 ?_
        rw [nI_1]
        refine r_iadd C dX7_hat_77 ?_
        rw [nI_add]
        refine r_istore_n C dX7_hat_78 rfl (by decide) ?_
        refine r_iinc (v := _ + 1) C dX7_hat_79 rfl (by rfl) (by decide) ?_
        rw [nI_1]
        refine r_goto (tgt := 50) C dX7_hat_82 (by decide) ?_
        exact nx
    refine r_iconst (v := 0) C dX7_hat_45 (by decide) ?_
    refine r_istore_n C dX7_hat_46 rfl (by decide) ?_
    refine r_iconst (v := 1) C dX7_hat_47 (by decide) ?_
    refine r_istore C dX7_hat_48 (by decide) ?_
    exact k1 (rn / wn) 0 (by omega)
  refine r_aload_n C dX7_hat_0 rfl rfl ?_
  refine r_iconst (v := 0) C dX7_hat_1 (by decide) ?_
  refine mp_thrown C dX7_hat_2 ?_
  refine r_aload_n C dX7_hat_5 rfl rfl ?_
  refine mg_hats C dX7_hat_6 ?_
  refine r_bipush (v := 60) C dX7_hat_9 (by decide) ?_
  show V X 0 0 11 _ [.int 60, .int (M 30)] _
  rw [hh]
  refine r_icmp_eq (tgt := 43) C dX7_hat_11 (by decide) (fun c11 => ?_) (fun c11 => ?_)
  · exact j43 (fun wn rn o => by
      obtain ⟨o1, ow, or, o2, o3, o4, o5, o6⟩ := o
      first
        | exact c40 (by rw [nI_eq (by omega) (by omega)] at ow or; rw [ow, or, o6]; rfl)
        | (subst ow; subst or; exact o1 ((nI_eq (by omega) (by omega)).mp c11))
        | (subst ow; subst or; rw [c1, nI_ltI (by omega) (by omega)] at c16; omega)
        | (subst ow; subst or; rw [show (9 : Int32) = nI 9 from rfl, nI_ltI (by omega) (by omega)] at c22; omega)
        | (subst ow; subst or; rw [c1, nI_ltI (by omega) (by omega)] at c27; omega)
        | (subst ow; subst or; rw [show (400 : Int32) = nI 400 from rfl, nI_ltI (by omega) (by omega)] at c34; omega))
  · refine r_iload_n C dX7_hat_14 rfl rfl ?_
    refine r_iconst (v := 1) C dX7_hat_15 (by decide) ?_
    refine r_icmp_lt (tgt := 43) C dX7_hat_16 (by decide) (fun c16 => ?_) (fun c16 => ?_)
    · exact j43 (fun wn rn o => by
        obtain ⟨o1, ow, or, o2, o3, o4, o5, o6⟩ := o
        first
          | exact c40 (by rw [nI_eq (by omega) (by omega)] at ow or; rw [ow, or, o6]; rfl)
          | (subst ow; subst or; exact o1 ((nI_eq (by omega) (by omega)).mp c11))
          | (subst ow; subst or; rw [c1, nI_ltI (by omega) (by omega)] at c16; omega)
          | (subst ow; subst or; rw [show (9 : Int32) = nI 9 from rfl, nI_ltI (by omega) (by omega)] at c22; omega)
          | (subst ow; subst or; rw [c1, nI_ltI (by omega) (by omega)] at c27; omega)
          | (subst ow; subst or; rw [show (400 : Int32) = nI 400 from rfl, nI_ltI (by omega) (by omega)] at c34; omega))
    · refine r_iload_n C dX7_hat_19 rfl rfl ?_
      refine r_bipush (v := 9) C dX7_hat_20 (by decide) ?_
      refine r_icmp_gt (tgt := 43) C dX7_hat_22 (by decide) (fun c22 => ?_) (fun c22 => ?_)
      · exact j43 (fun wn rn o => by
          obtain ⟨o1, ow, or, o2, o3, o4, o5, o6⟩ := o
          first
            | exact c40 (by rw [nI_eq (by omega) (by omega)] at ow or; rw [ow, or, o6]; rfl)
            | (subst ow; subst or; exact o1 ((nI_eq (by omega) (by omega)).mp c11))
            | (subst ow; subst or; rw [c1, nI_ltI (by omega) (by omega)] at c16; omega)
            | (subst ow; subst or; rw [show (9 : Int32) = nI 9 from rfl, nI_ltI (by omega) (by omega)] at c22; omega)
            | (subst ow; subst or; rw [c1, nI_ltI (by omega) (by omega)] at c27; omega)
            | (subst ow; subst or; rw [show (400 : Int32) = nI 400 from rfl, nI_ltI (by omega) (by omega)] at c34; omega))
      · refine r_iload_n C dX7_hat_25 rfl rfl ?_
        refine r_iconst (v := 1) C dX7_hat_26 (by decide) ?_
        refine r_icmp_lt (tgt := 43) C dX7_hat_27 (by decide) (fun c27 => ?_) (fun c27 => ?_)
        · exact j43 (fun wn rn o => by
            obtain ⟨o1, ow, or, o2, o3, o4, o5, o6⟩ := o
            first
              | exact c40 (by rw [nI_eq (by omega) (by omega)] at ow or; rw [ow, or, o6]; rfl)
              | (subst ow; subst or; exact o1 ((nI_eq (by omega) (by omega)).mp c11))
              | (subst ow; subst or; rw [c1, nI_ltI (by omega) (by omega)] at c16; omega)
              | (subst ow; subst or; rw [show (9 : Int32) = nI 9 from rfl, nI_ltI (by omega) (by omega)] at c22; omega)
              | (subst ow; subst or; rw [c1, nI_ltI (by omega) (by omega)] at c27; omega)
              | (subst ow; subst or; rw [show (400 : Int32) = nI 400 from rfl, nI_ltI (by omega) (by omega)] at c34; omega))
        · refine r_iload_n C dX7_hat_30 rfl rfl ?_
          refine r_sipush (v := 400) C dX7_hat_31 (by decide) ?_
          refine r_icmp_gt (tgt := 43) C dX7_hat_34 (by decide) (fun c34 => ?_) (fun c34 => ?_)
          · exact j43 (fun wn rn o => by
              obtain ⟨o1, ow, or, o2, o3, o4, o5, o6⟩ := o
              first
                | exact c40 (by rw [nI_eq (by omega) (by omega)] at ow or; rw [ow, or, o6]; rfl)
                | (subst ow; subst or; exact o1 ((nI_eq (by omega) (by omega)).mp c11))
                | (subst ow; subst or; rw [c1, nI_ltI (by omega) (by omega)] at c16; omega)
                | (subst ow; subst or; rw [show (9 : Int32) = nI 9 from rfl, nI_ltI (by omega) (by omega)] at c22; omega)
                | (subst ow; subst or; rw [c1, nI_ltI (by omega) (by omega)] at c27; omega)
                | (subst ow; subst or; rw [show (400 : Int32) = nI 400 from rfl, nI_ltI (by omega) (by omega)] at c34; omega))
          · obtain ⟨wn, hw31, rfl⟩ := nI_of (x := w) (fun q => c16 (Int32.lt_of_lt_of_le q (by decide)))
            obtain ⟨rn, hr31, rfl⟩ := nI_of (x := r) (fun q => c27 (Int32.lt_of_lt_of_le q (by decide)))
            rw [c1, nI_ltI (by omega) (by omega)] at c16 c27
            rw [show (9 : Int32) = nI 9 from rfl, nI_ltI (by omega) (by omega)] at c22
            rw [show (400 : Int32) = nI 400 from rfl, nI_ltI (by omega) (by omega)] at c34
            refine r_iload_n C dX7_hat_37 rfl rfl ?_
            refine r_iload_n C dX7_hat_38 rfl rfl ?_
            refine r_irem C dX7_hat_39 (nI_ne0 (by omega) (by omega)) ?_
            rw [pk_rem (by omega) (by omega) (by omega)]
            refine r_if_eq (tgt := 45) C dX7_hat_40 (by decide) (fun c40 => ?_) (fun c40 => ?_)
            · exact j45 wn rn ⟨fun e => c11 (by rw [e]; rfl), rfl, rfl, by omega, by omega, by omega, by omega, (nI_eq (a := rn % wn) (b := 0) (by have := Nat.mod_lt rn (show wn > 0 by omega); omega) (by decide)).mp c40⟩
            · exact j43 (fun wn rn o => by
                obtain ⟨o1, ow, or, o2, o3, o4, o5, o6⟩ := o
                first
                  | exact c40 (by rw [nI_eq (by omega) (by omega)] at ow or; rw [ow, or, o6]; rfl)
                  | (subst ow; subst or; exact o1 ((nI_eq (by omega) (by omega)).mp c11))
                  | (subst ow; subst or; rw [c1, nI_ltI (by omega) (by omega)] at c16; omega)
                  | (subst ow; subst or; rw [show (9 : Int32) = nI 9 from rfl, nI_ltI (by omega) (by omega)] at c22; omega)
                  | (subst ow; subst or; rw [c1, nI_ltI (by omega) (by omega)] at c27; omega)
                  | (subst ow; subst or; rw [show (400 : Int32) = nI 400 from rfl, nI_ltI (by omega) (by omega)] at c34; omega))
end M6
end
section
/-! the reference: levels, useOf -/
def near (a b : Nat) : Prop := a < b + 2 ∧ b < a + 2
theorem sub_ge2 {a b : Nat} (ha : a < 2 ^ 30) (hb : b < 2 ^ 30) : (2 : Int32) ≤ nI a - nI b ↔ b + 2 ≤ a := by
  rw [Int32.le_iff_toInt_le, pk_sub_toInt ha hb]
  have : (2 : Int32).toInt = 2 := rfl
  omega
def lvIn (lv : Nat → Nat) (c : Nat → Int32) (i : Nat) : Nat → Nat
  | 0 => 1
  | h + 1 => if (ai (c h) < i + 2 ∧ i < ai (c h) + 2) ∧ lvIn lv c i h ≤ lv h then lv h + 1 else lvIn lv c i h
def lvF (c : Nat → Int32) : Nat → Nat → Nat
  | 0 => fun _ => 0
  | j + 1 => fun q => if q = j then lvIn (lvF c j) c (ai (c j)) j else lvF c j q
def lvMost (c : Nat → Int32) : Nat → Nat
  | 0 => 0
  | j + 1 => max (lvMost c j) (lvIn (lvF c j) c (ai (c j)) j)
theorem lvIn_le {lv : Nat → Nat} {c : Nat → Int32} {i : Nat} : ∀ h, (∀ q, q < h → lv q ≤ q + 1) → lvIn lv c i h ≤ h + 1
  | 0, _ => Nat.le_refl _
  | h + 1, hq => by
    have ih := lvIn_le (c := c) (i := i) h (fun q hq' => hq q (by omega))
    have h1 := hq h (by omega)
    unfold lvIn
    split <;> omega
theorem lvF_le {c : Nat → Int32} : ∀ j q, q < j → lvF c j q ≤ q + 1
  | 0, q, h => by omega
  | j + 1, q, h => by
    unfold lvF
    split
    · next e => rw [e]; exact lvIn_le j (fun q' hq' => lvF_le j q' hq')
    · exact lvF_le j q (by omega)
theorem lvMost_le {c : Nat → Int32} : ∀ j, lvMost c j ≤ j
  | 0 => Nat.le_refl _
  | j + 1 => by
    have ih := lvMost_le (c := c) j
    have h1 := lvIn_le (c := c) (i := ai (c j)) j (fun q' hq' => lvF_le (c := c) j q' hq')
    unfold lvMost
    omega
/-- whether a straw at x lies over, under, at a crossing -/
def isOv (x : Nat) (c : Int32) : Prop := (x = ai c ∧ 0 < c) ∨ (x = ai c + 1 ∧ ¬ 0 < c)
def isUn (x : Nat) (c : Int32) : Prop := (x = ai c ∧ ¬ 0 < c) ∨ (x = ai c + 1 ∧ 0 < c)
noncomputable def sd (x : Nat) (c : Int32) : Nat := @ite _ (isOv x c) (Classical.propDecidable _) 1 (@ite _ (isUn x c) (Classical.propDecidable _) 2 0)
theorem sd_ov {x : Nat} {c : Int32} (h : isOv x c) : sd x c = 1 := by unfold sd; rw [if_pos h]
theorem sd_un {x : Nat} {c : Int32} (h : isUn x c) : sd x c = 2 := by
  unfold sd
  rw [if_neg, if_pos h]
  intro q
  rcases h with ⟨a, b⟩ | ⟨a, b⟩ <;> rcases q with ⟨e, f⟩ | ⟨e, f⟩ <;> first | exact absurd f b | exact absurd b f | omega
theorem sd_no {x : Nat} {c : Int32} (h1 : x ≠ ai c) (h2 : x ≠ ai c + 1) : sd x c = 0 := by
  unfold sd
  rw [if_neg, if_neg]
  · intro q
    rcases q with q | q
    · exact h1 q.1
    · exact h2 q.1
  · intro q
    rcases q with q | q
    · exact h1 q.1
    · exact h2 q.1
noncomputable def usF (c : Nat → Int32) (p : Nat) : Nat → Nat
  | 0 => 0
  | z + 1 => usF c p z + if sd (gT c z p) (c z) = 1 then 1 else 0
theorem usF_le {c : Nat → Int32} {p : Nat} : ∀ z, usF c p z ≤ z
  | 0 => Nat.le_refl _
  | z + 1 => by
    have ih := usF_le (c := c) (p := p) z
    unfold usF
    split <;> omega
section M7
variable (G : Gx) (h : Nat) (ad : Nat → Nat) (M : Mt) (R : Rt)
theorem c_levels {j s z : Nat} (hj : j < 8) (hp : PatOK R j s z) : mI G h ad yX7_levels cX7_levels 7 .int 0 [.int (nI j)] M R (fun r M' R' => r = nI (lvMost (rowOf R j) z) ∧ M' = M ∧ ∃ P, R' = va_up R 27 P) := by
  refine mI.intro (by decide) (Nat.le_of_ble_eq_true rfl) (cat1 (xs := [nI j])) fun X C hR => ?_
  obtain ⟨hs5, hs2, hs7, hz, hz3, hok⟩ := hp
  obtain ⟨c, hc⟩ : ∃ c, c = rowOf R j := ⟨_, rfl⟩
  have hrow : ∀ (i : Nat) (P : Nat → Int32), va_up R 27 P 7 (300 * j + i) = c i := fun i P => by rw [hc]; rfl
  rw [← hc] at hok hR
  have key : ∀ (f i : Nat) (P : Nat → Int32), i + f = z → (∀ q, q < i → P q = nI (lvF c i q)) → V X 0 0 4 [some (.ref h), some (.int (nI j)), some (.int (nI (lvMost c i))), some (.int (nI i)), none, none, none] [] (mW G h ad M (va_up R 27 P)) := by
    intro f
    induction f with
    | zero =>
      intro i P hi hP
      have hiz : i = z := by omega
      subst hiz
      refine r_iload_n C dX7_levels_4 rfl rfl ?_
      refine r_aload_n C dX7_levels_5 rfl rfl ?_
      refine mg_sizes C dX7_levels_6 ?_
      refine r_iload_n C dX7_levels_9 rfl rfl ?_
      refine ml_sizes C dX7_levels_10 (vp_in_nI hj (by decide)) ?_
      rw [nI_clamp (by omega)]
      show V X 0 0 11 _ [.int (R 6 j), .int (nI i)] _
      rw [hz]
      refine r_icmp_ge (tgt := 171) C dX7_levels_11 (by decide) (fun c11 => ?_) (fun c11 => absurd c11 ((fun q => q (nI_le (by omega) (by omega)))))
      refine r_iload_n C dX7_levels_171 rfl rfl ?_
      exact hR _ _ _ _ _ rfl dX7_levels_172 ⟨rfl, rfl, P, rfl⟩
    | succ f ih =>
      intro i P hi hP
      obtain ⟨i0, hi1, hi2, hci⟩ := hok i (by omega)
      have hai : ai (c i) = i0 := by rcases hci with hci | hci <;> rw [hci] <;> first | exact ai_nI (by omega) | exact ai_neg (by omega)
      have hmost := lvMost_le (c := c) i
      have j144 : ∀ (P' : Nat → Int32) (o5 o6 : Option Value), (∀ q, q < i → P' q = nI (lvF c i q)) → P' i = nI (lvIn (lvF c i) c i0 i) → V X 0 0 144 [some (.ref h), some (.int (nI j)), some (.int (nI (lvMost c i))), some (.int (nI i)), some (.int (nI i0)), o5, o6] [] (mW G h ad M (va_up R 27 P')) := by
        intro P' o5 o6 hP1 hP2
        have hle := lvIn_le (c := c) (i := i0) i (fun q' hq' => lvF_le (c := c) i q' hq')
        have nx := ih (i + 1) P' (by omega) (fun q hq => by
          show _ = nI (if q = i then lvIn (lvF c i) c (ai (c i)) i else lvF c i q)
          split
          · next e => rw [e, hai]; exact hP2
          · exact hP1 q (by omega))
        have hm : lvMost c (i + 1) = max (lvMost c i) (lvIn (lvF c i) c i0 i) := by show max _ (lvIn _ _ (ai (c i)) _) = _; rw [hai]
        rw [hm] at nx
        refine r_aload_n C dX7_levels_144 rfl rfl ?_
        refine mg_level C dX7_levels_145 ?_
        refine r_iload_n C dX7_levels_148 rfl rfl ?_
        refine ml_level C dX7_levels_149 (vp_in_nI (show i < 300 by omega) (by decide)) ?_
        rw [nI_clamp (by omega)]
        show V X 0 0 150 _ [.int (P' i)] _
        rw [hP2]
        refine r_iload_n C dX7_levels_150 rfl rfl ?_
        refine r_icmp_le (tgt := 163) C dX7_levels_151 (by decide) (fun c151 => ?_) (fun c151 => ?_)
        · rw [nI_leI (by omega) (by omega)] at c151
          refine r_iload_n C dX7_levels_163 rfl rfl ?_
          refine r_istore_n C dX7_levels_164 rfl (by decide) ?_
          refine r_iinc (v := _ + 1) C dX7_levels_165 rfl (by rfl) (by decide) ?_
          rw [nI_1]
          refine r_goto (tgt := 4) C dX7_levels_168 (by decide) ?_
          exact V.keep [true, true, true, true, false, false, false] (by first | (rw [Nat.max_eq_right (by omega)] at nx; exact nx) | (rw [Nat.max_eq_left (by omega)] at nx; exact nx))
        · rw [nI_leI (by omega) (by omega)] at c151
          refine r_aload_n C dX7_levels_154 rfl rfl ?_
          refine mg_level C dX7_levels_155 ?_
          refine r_iload_n C dX7_levels_158 rfl rfl ?_
          refine ml_level C dX7_levels_159 (vp_in_nI (show i < 300 by omega) (by decide)) ?_
          rw [nI_clamp (by omega)]
          show V X 0 0 160 _ [.int (P' i)] _
          rw [hP2]
          refine r_goto (tgt := 164) C dX7_levels_160 (by decide) ?_
          refine r_istore_n C dX7_levels_164 rfl (by decide) ?_
          refine r_iinc (v := _ + 1) C dX7_levels_165 rfl (by rfl) (by decide) ?_
          rw [nI_1]
          refine r_goto (tgt := 4) C dX7_levels_168 (by decide) ?_
          exact V.keep [true, true, true, true, false, false, false] (by first | (rw [Nat.max_eq_right (by omega)] at nx; exact nx) | (rw [Nat.max_eq_left (by omega)] at nx; exact nx))
      have inner : ∀ (f' hh : Nat) (P' : Nat → Int32) (o6 : Option Value), hh + f' = i → (∀ q, q < i → P' q = nI (lvF c i q)) → P' i = nI (lvIn (lvF c i) c i0 hh) → V X 0 0 53 [some (.ref h), some (.int (nI j)), some (.int (nI (lvMost c i))), some (.int (nI i)), some (.int (nI i0)), some (.int (nI hh)), o6] [] (mW G h ad M (va_up R 27 P')) := by
        intro f'
        induction f' with
        | zero =>
          intro hh P' o6 hf hP1 hP2
          have hhi : hh = i := by omega
          subst hhi
          refine r_iload C dX7_levels_53 rfl ?_
          refine r_iload_n C dX7_levels_55 rfl rfl ?_
          refine r_icmp_ge (tgt := 144) C dX7_levels_56 (by decide) (fun c56 => ?_) (fun c56 => absurd c56 ((fun q => q (nI_le (by omega) (by omega)))))
          exact j144 P' _ _ hP1 hP2
        | succ f' ih' =>
          intro hh P' o6 hf hP1 hP2
          obtain ⟨g0, hg1, hg2, hcg⟩ := hok hh (by omega)
          have hag : ai (c hh) = g0 := by rcases hcg with hcg | hcg <;> rw [hcg] <;> first | exact ai_nI (by omega) | exact ai_neg (by omega)
          have hle := lvIn_le (c := c) (i := i0) hh (fun q' hq' => lvF_le (c := c) i q' (by omega))
          have hle2 := lvF_le (c := c) i hh (by omega)
          have hst : lvIn (lvF c i) c i0 (hh + 1) = if (g0 < i0 + 2 ∧ i0 < g0 + 2) ∧ lvIn (lvF c i) c i0 hh ≤ lvF c i hh then lvF c i hh + 1 else lvIn (lvF c i) c i0 hh := by
            show (if (ai (c hh) < i0 + 2 ∧ i0 < ai (c hh) + 2) ∧ _ then _ else _) = _
            rw [hag]
          have j138 : ∀ o, ¬ ((g0 < i0 + 2 ∧ i0 < g0 + 2) ∧ lvIn (lvF c i) c i0 hh ≤ lvF c i hh) → V X 0 0 138 [some (.ref h), some (.int (nI j)), some (.int (nI (lvMost c i))), some (.int (nI i)), some (.int (nI i0)), some (.int (nI hh)), o] [] (mW G h ad M (va_up R 27 P')) := by
            intro o hno
            rw [if_neg hno] at hst
            refine r_iinc (v := _ + 1) C dX7_levels_138 rfl (by rfl) (by decide) ?_
            rw [nI_1]
            refine r_goto (tgt := 53) C dX7_levels_141 (by decide) ?_
            exact ih' (hh + 1) P' _ (by omega) hP1 (by rw [hst]; exact hP2)
          have j138b : ∀ o, lvIn (lvF c i) c i0 (hh + 1) = lvF c i hh + 1 → V X 0 0 138 [some (.ref h), some (.int (nI j)), some (.int (nI (lvMost c i))), some (.int (nI i)), some (.int (nI i0)), some (.int (nI hh)), o] [] (mW G h ad M (va_up R 27 (upd P' i (nI (lvF c i hh + 1))))) := by
            intro o hst
            refine r_iinc (v := _ + 1) C dX7_levels_138 rfl (by rfl) (by decide) ?_
            rw [nI_1]
            refine r_goto (tgt := 53) C dX7_levels_141 (by decide) ?_
            exact ih' (hh + 1) (upd P' i (nI (lvF c i hh + 1))) _ (by omega) (fun q hq => by rw [pk_un (by omega)]; exact hP1 q hq) (by rw [hst, pk_us])
          have j89 : V X 0 0 89 [some (.ref h), some (.int (nI j)), some (.int (nI (lvMost c i))), some (.int (nI i)), some (.int (nI i0)), some (.int (nI hh)), some (.int (nI g0))] [] (mW G h ad M (va_up R 27 P')) := by
            refine r_iload C dX7_levels_89 rfl ?_
            refine r_iload C dX7_levels_91 rfl ?_
            refine r_isub C dX7_levels_93 ?_
            refine r_iconst (v := 2) C dX7_levels_94 (by decide) ?_
            refine r_icmp_ge (tgt := 138) C dX7_levels_95 (by decide) (fun c95 => ?_) (fun c95 => ?_)
            · first
                | exact j138 _ (fun q => by rw [sub_ge2 (by omega) (by omega)] at c95; omega)
                | exact j138 _ (fun q => by rw [sub_ge2 (by omega) (by omega)] at c104; omega)
                | exact j138 _ (fun q => by rw [nI_ltI (by omega) (by omega)] at c120; omega)
                | (rw [nI_clamp (by omega)]; show V X 0 0 138 _ _ (mW G h ad M (va_up (va_up R 27 P') 27 (upd P' i (nI (lvF c i hh + 1))))); rw [up_up]; exact j138b _ hst)
            · rw [sub_ge2 (by omega) (by omega)] at c95
              refine r_iload C dX7_levels_98 rfl ?_
              refine r_iload C dX7_levels_100 rfl ?_
              refine r_isub C dX7_levels_102 ?_
              refine r_iconst (v := 2) C dX7_levels_103 (by decide) ?_
              refine r_icmp_ge (tgt := 138) C dX7_levels_104 (by decide) (fun c104 => ?_) (fun c104 => ?_)
              · first
                  | exact j138 _ (fun q => by rw [sub_ge2 (by omega) (by omega)] at c95; omega)
                  | exact j138 _ (fun q => by rw [sub_ge2 (by omega) (by omega)] at c104; omega)
                  | exact j138 _ (fun q => by rw [nI_ltI (by omega) (by omega)] at c120; omega)
                  | (rw [nI_clamp (by omega)]; show V X 0 0 138 _ _ (mW G h ad M (va_up (va_up R 27 P') 27 (upd P' i (nI (lvF c i hh + 1))))); rw [up_up]; exact j138b _ hst)
              · rw [sub_ge2 (by omega) (by omega)] at c104
                refine r_aload_n C dX7_levels_107 rfl rfl ?_
                refine mg_level C dX7_levels_108 ?_
                refine r_iload C dX7_levels_111 rfl ?_
                refine ml_level C dX7_levels_113 (vp_in_nI (show hh < 300 by omega) (by decide)) ?_
                rw [nI_clamp (by omega)]
                show V X 0 0 114 _ [.int (P' hh)] _
                rw [hP1 hh (by omega)]
                refine r_aload_n C dX7_levels_114 rfl rfl ?_
                refine mg_level C dX7_levels_115 ?_
                refine r_iload_n C dX7_levels_118 rfl rfl ?_
                refine ml_level C dX7_levels_119 (vp_in_nI (show i < 300 by omega) (by decide)) ?_
                rw [nI_clamp (by omega)]
                show V X 0 0 120 _ [.int (P' i), .int _] _
                rw [hP2]
                refine r_icmp_lt (tgt := 138) C dX7_levels_120 (by decide) (fun c120 => ?_) (fun c120 => ?_)
                · first
                    | exact j138 _ (fun q => by rw [sub_ge2 (by omega) (by omega)] at c95; omega)
                    | exact j138 _ (fun q => by rw [sub_ge2 (by omega) (by omega)] at c104; omega)
                    | exact j138 _ (fun q => by rw [nI_ltI (by omega) (by omega)] at c120; omega)
                    | (rw [nI_clamp (by omega)]; show V X 0 0 138 _ _ (mW G h ad M (va_up (va_up R 27 P') 27 (upd P' i (nI (lvF c i hh + 1))))); rw [up_up]; exact j138b _ hst)
                · rw [nI_ltI (by omega) (by omega)] at c120
                  rw [if_pos ⟨⟨by omega, by omega⟩, by omega⟩] at hst
                  refine r_aload_n C dX7_levels_123 rfl rfl ?_
                  refine mg_level C dX7_levels_124 ?_
                  refine r_iload_n C dX7_levels_127 rfl rfl ?_
                  refine r_aload_n C dX7_levels_128 rfl rfl ?_
                  refine mg_level C dX7_levels_129 ?_
                  refine r_iload C dX7_levels_132 rfl ?_
                  refine ml_level C dX7_levels_134 (vp_in_nI (show hh < 300 by omega) (by decide)) ?_
                  rw [nI_clamp (by omega)]
                  show V X 0 0 135 _ [.int (P' hh), .int _, .ref _] _
                  rw [hP1 hh (by omega)]
                  refine r_iconst (v := 1) C dX7_levels_135 (by decide) ?_
                  refine r_iadd C dX7_levels_136 ?_
                  rw [nI_1]
                  refine ms_level C dX7_levels_137 (vp_in_nI (show i < 300 by omega) (by decide)) ?_
                  first
                    | exact j138 _ (fun q => by rw [sub_ge2 (by omega) (by omega)] at c95; omega)
                    | exact j138 _ (fun q => by rw [sub_ge2 (by omega) (by omega)] at c104; omega)
                    | exact j138 _ (fun q => by rw [nI_ltI (by omega) (by omega)] at c120; omega)
                    | (rw [nI_clamp (by omega)]; show V X 0 0 138 _ _ (mW G h ad M (va_up (va_up R 27 P') 27 (upd P' i (nI (lvF c i hh + 1))))); rw [up_up]; exact j138b _ hst)
          refine r_iload C dX7_levels_53 rfl ?_
          refine r_iload_n C dX7_levels_55 rfl rfl ?_
          refine r_icmp_ge (tgt := 144) C dX7_levels_56 (by decide) (fun c56 => absurd c56 ((nI_ge (by omega) (by omega)))) (fun c56 => ?_)
          refine r_aload_n C dX7_levels_59 rfl rfl ?_
          refine mg_rows C dX7_levels_60 ?_
          refine r_sipush (v := 300) C dX7_levels_63 (by decide) ?_
          refine r_iload_n C dX7_levels_66 rfl rfl ?_
          refine r_imul C dX7_levels_67 ?_
          refine r_iload C dX7_levels_68 rfl ?_
          refine r_iadd C dX7_levels_70 ?_
          show V X 0 0 71 _ [.int (nI 300 * nI j + nI hh), .ref (ad 7)] _
          rw [pk_mul, nI_add]
          refine ml_rows C dX7_levels_71 (vp_in_nI (show 300 * j + hh < 2400 by omega) (by decide)) ?_
          rw [nI_clamp (by omega), hrow]
          rcases hcg with hcg | hcg <;> rw [hcg]
          · refine r_istore C dX7_levels_72 (by decide) ?_
            refine r_iload C dX7_levels_74 rfl ?_
            refine r_if_ge (tgt := 85) C dX7_levels_76 (by decide) (fun c76 => ?_) (fun c76 => absurd c76 ((fun q => q (nI_pos' (by omega)))))
            refine r_iload C dX7_levels_85 rfl ?_
            refine r_istore C dX7_levels_87 (by decide) ?_
            exact j89
          · refine r_istore C dX7_levels_72 (by decide) ?_
            refine r_iload C dX7_levels_74 rfl ?_
            refine r_if_ge (tgt := 85) C dX7_levels_76 (by decide) (fun c76 => absurd c76 ((Int32.not_le.mpr (neg_lt0 hg1 (by omega))))) (fun c76 => ?_)
            refine r_iload C dX7_levels_79 rfl ?_
            refine r_ineg C dX7_levels_81 ?_
            refine r_goto (tgt := 87) C dX7_levels_82 (by decide) ?_
            rw [Int32.neg_neg]
            refine r_istore C dX7_levels_87 (by decide) ?_
            exact j89
      have j43 : V X 0 0 43 [some (.ref h), some (.int (nI j)), some (.int (nI (lvMost c i))), some (.int (nI i)), some (.int (nI i0)), none, none] [] (mW G h ad M (va_up R 27 P)) := by
        refine r_aload_n C dX7_levels_43 rfl rfl ?_
        refine mg_level C dX7_levels_44 ?_
        refine r_iload_n C dX7_levels_47 rfl rfl ?_
        refine r_iconst (v := 1) C dX7_levels_48 (by decide) ?_
        refine ms_level C dX7_levels_49 (vp_in_nI (show i < 300 by omega) (by decide)) ?_
        rw [nI_clamp (by omega)]
        show V X 0 0 50 _ _ (mW G h ad M (va_up (va_up R 27 P) 27 (upd P i 1)))
        rw [up_up]
        refine r_iconst (v := 0) C dX7_levels_50 (by decide) ?_
        refine r_istore C dX7_levels_51 (by decide) ?_
        exact inner i 0 (upd P i 1) _ (by omega) (fun q hq => by rw [pk_un (by omega)]; exact hP q hq) (by rw [pk_us]; rfl)
      refine r_iload_n C dX7_levels_4 rfl rfl ?_
      refine r_aload_n C dX7_levels_5 rfl rfl ?_
      refine mg_sizes C dX7_levels_6 ?_
      refine r_iload_n C dX7_levels_9 rfl rfl ?_
      refine ml_sizes C dX7_levels_10 (vp_in_nI hj (by decide)) ?_
      rw [nI_clamp (by omega)]
      show V X 0 0 11 _ [.int (R 6 j), .int (nI i)] _
      rw [hz]
      refine r_icmp_ge (tgt := 171) C dX7_levels_11 (by decide) (fun c11 => absurd c11 ((nI_ge (by omega) (by omega)))) (fun c11 => ?_)
      refine r_aload_n C dX7_levels_14 rfl rfl ?_
      refine mg_rows C dX7_levels_15 ?_
      refine r_sipush (v := 300) C dX7_levels_18 (by decide) ?_
      refine r_iload_n C dX7_levels_21 rfl rfl ?_
      refine r_imul C dX7_levels_22 ?_
      refine r_iload_n C dX7_levels_23 rfl rfl ?_
      refine r_iadd C dX7_levels_24 ?_
      show V X 0 0 25 _ [.int (nI 300 * nI j + nI i), .ref (ad 7)] _
      rw [pk_mul, nI_add]
      refine ml_rows C dX7_levels_25 (vp_in_nI (show 300 * j + i < 2400 by omega) (by decide)) ?_
      rw [nI_clamp (by omega), hrow]
      rcases hci with hci | hci <;> rw [hci]
      · refine r_istore C dX7_levels_26 (by decide) ?_
        refine r_iload C dX7_levels_28 rfl ?_
        refine r_if_ge (tgt := 39) C dX7_levels_30 (by decide) (fun c30 => ?_) (fun c30 => absurd c30 ((fun q => q (nI_pos' (by omega)))))
        refine r_iload C dX7_levels_39 rfl ?_
        refine r_istore C dX7_levels_41 (by decide) ?_
        exact j43
      · refine r_istore C dX7_levels_26 (by decide) ?_
        refine r_iload C dX7_levels_28 rfl ?_
        refine r_if_ge (tgt := 39) C dX7_levels_30 (by decide) (fun c30 => absurd c30 ((Int32.not_le.mpr (neg_lt0 hi1 (by omega))))) (fun c30 => ?_)
        refine r_iload C dX7_levels_33 rfl ?_
        refine r_ineg C dX7_levels_35 ?_
        refine r_goto (tgt := 41) C dX7_levels_36 (by decide) ?_
        rw [Int32.neg_neg]
        refine r_istore C dX7_levels_41 (by decide) ?_
        exact j43
  have q0 := key z 0 (R 27) (by omega) (fun q hq => by omega)
  rw [up_same rfl] at q0
  refine r_iconst (v := 0) C dX7_levels_0 (by decide) ?_
  refine r_istore_n C dX7_levels_1 rfl (by decide) ?_
  refine r_iconst (v := 0) C dX7_levels_2 (by decide) ?_
  refine r_istore_n C dX7_levels_3 rfl (by decide) ?_
  exact q0
end M7
end
section
/-! the reference: useOf, isInTurn -/
abbrev ItT : Type := Nat × Nat × Nat
noncomputable def itS (cv : Int32) (q : ItT) : Option ItT := if sd q.1 cv = 0 then some q else if sd q.1 cv = q.2.2 then none else some (sw (ai cv) q.1, if q.2.1 = 0 then sd q.1 cv else q.2.1, sd q.1 cv)
noncomputable def itj (c : Nat → Int32) (q : Option ItT) : Nat → Option ItT
  | 0 => q
  | j + 1 => (itj c q j).bind (itS (c j))
noncomputable def itt (c : Nat → Int32) (z p : Nat) : Nat → Option ItT
  | 0 => some (p, 0, 0)
  | t + 1 => itj c (itt c z p t) z
def itR (o : Option ItT) : Int32 := match o with
  | none => 0
  | some q => if q.2.1 = 0 ∨ q.2.1 ≠ q.2.2 then 1 else 0
theorem itj_none {c : Nat → Int32} {q : Option ItT} {j : Nat} (h : itj c q j = none) : ∀ n, itj c q (j + n) = none
  | 0 => h
  | n + 1 => by
    show (itj c q (j + n)).bind _ = none
    rw [itj_none h n]
    rfl
theorem itj_nil {c : Nat → Int32} : ∀ j, itj c none j = none
  | 0 => rfl
  | j + 1 => by
    show (itj c none j).bind _ = none
    rw [itj_nil j]
    rfl
theorem itt_none {c : Nat → Int32} {z p t : Nat} (h : itt c z p t = none) : ∀ n, itt c z p (t + n) = none
  | 0 => h
  | n + 1 => by
    show itj c (itt c z p (t + n)) z = none
    rw [itt_none h n]
    exact itj_nil z
theorem itS_in {cv : Int32} {q q' : ItT} {s : Nat} (hc : okC s cv) (hs : s ≤ 7) (h1 : 1 ≤ q.1 ∧ q.1 ≤ s) (h2 : q.2.1 ≤ 2 ∧ q.2.2 ≤ 2) (h : itS cv q = some q') : (1 ≤ q'.1 ∧ q'.1 ≤ s) ∧ q'.2.1 ≤ 2 ∧ q'.2.2 ≤ 2 := by
  have ha := okC_ai hc hs
  have hsd : sd q.1 cv ≤ 2 := by unfold sd; split <;> (try split) <;> omega
  unfold itS at h
  split at h
  · cases h; exact ⟨h1, h2⟩
  · split at h
    · cases h
    · cases h
      refine ⟨sw_in ha.1 ha.2 h1.1 h1.2, ?_, hsd⟩
      dsimp only
      split
      · exact hsd
      · exact h2.1
section M8
variable (G : Gx) (h : Nat) (ad : Nat → Nat) (M : Mt) (R : Rt)
theorem c_useOf {j s z p : Nat} (hj : j < 8) (hp : PatOK R j s z) (h1 : 1 ≤ p) (h2 : p ≤ s) : mI G h ad yX7_useOf cX7_useOf 8 .int 1 [.int (nI j), .int (nI p)] M R (fun r M' R' => r = nI (2 * lvMost (rowOf R j) z + usF (rowOf R j) p z) ∧ M' = M ∧ ∃ P, R' = va_up R 27 P) := by
  refine mI.intro (by decide) (Nat.le_of_ble_eq_true rfl) (cat1 (xs := [nI j, nI p])) fun X C hR => ?_
  obtain ⟨hs5, hs2, hs7, hz, hz3, hok⟩ := id hp
  obtain ⟨c, hc⟩ : ∃ c, c = rowOf R j := ⟨_, rfl⟩
  have hrow : ∀ (i : Nat), R 7 (300 * j + i) = c i := fun i => by rw [hc]; rfl
  have hmost := lvMost_le (c := c) z
  have hus := usF_le (c := c) (p := p) z
  have key : ∀ (f i : Nat), i + f = z → V X 0 0 8 [some (.ref h), some (.int (nI j)), some (.int (nI p)), some (.int (nI (gT c i p))), some (.int (nI (usF c p i))), some (.int (nI i)), none, none] [] (mW G h ad M R) := by
    intro f
    induction f with
    | zero =>
      intro i hi
      have hiz : i = z := by omega
      subst hiz
      refine r_iload C dX7_useOf_8 rfl ?_
      refine r_aload_n C dX7_useOf_10 rfl rfl ?_
      refine mg_sizes C dX7_useOf_11 ?_
      refine r_iload_n C dX7_useOf_14 rfl rfl ?_
      refine ml_sizes C dX7_useOf_15 (vp_in_nI hj (by decide)) ?_
      rw [nI_clamp (by omega), hz]
      refine r_icmp_ge (tgt := 115) C dX7_useOf_16 (by decide) (fun c16 => ?_) (fun c16 => absurd c16 ((fun q => q (nI_le (by omega) (by omega)))))
      refine r_iconst (v := 2) C dX7_useOf_115 (by decide) ?_
      refine r_aload_n C dX7_useOf_116 rfl rfl ?_
      refine r_iload_n C dX7_useOf_117 rfl rfl ?_
      refine m_calli C (c_levels G h ad M R hj hp) kM_levels dX7_useOf_118 rfl (by decide) (by decide) (by decide) (by decide) rfl rfl (fun r M1 R1 hp => ?_)
      obtain ⟨rfl, rfl, P, rfl⟩ := hp
      rw [← hc]
      rw [show (2 : Int32) = nI 2 from rfl]
      refine r_imul C dX7_useOf_121 ?_
      rw [pk_mul]
      refine r_iload C dX7_useOf_122 rfl ?_
      refine r_iadd C dX7_useOf_124 ?_
      rw [nI_add]
      exact hR _ _ _ _ _ rfl dX7_useOf_125 ⟨by rw [← hc], rfl, P, rfl⟩
    | succ f ih =>
      intro i hi
      obtain ⟨g, hg⟩ : ∃ g, g = gT c i p := ⟨_, rfl⟩
      have hgi := gT_in (c := c) hs7 h1 h2 i (fun q hq => by rw [hc]; exact hok q (by omega))
      obtain ⟨i0, hi1, hi2, hci⟩ := hok i (by omega)
      rw [← hc] at hci
      have hai : ai (c i) = i0 := by rcases hci with hci | hci <;> rw [hci] <;> first | exact ai_nI (by omega) | exact ai_neg (by omega)
      have hgT : gT c (i + 1) p = sw i0 g := by show sw (ai (c i)) _ = _; rw [hai, hg]
      have huT : usF c p (i + 1) = usF c p i + if sd g (c i) = 1 then 1 else 0 := by rw [hg]; rfl
      have nx := ih (i + 1) (by omega)
      rw [hgT, huT] at nx
      rw [← hg] at hgi ⊢
      have hA : g = i0 → 0 < c i → V X 0 0 8 [some (.ref h), some (.int (nI j)), some (.int (nI p)), some (.int (nI (i0 + 1))), some (.int (nI (usF c p i + 1))), some (.int (nI (i + 1))), none, none] [] (mW G h ad M R) := by
        intro e e2
        rw [sd_ov (Or.inl ⟨by rw [hai]; exact e, e2⟩), if_pos rfl, e, sw_l] at nx
        exact nx
      have hB : g = i0 → ¬ 0 < c i → V X 0 0 8 [some (.ref h), some (.int (nI j)), some (.int (nI p)), some (.int (nI (i0 + 1))), some (.int (nI (usF c p i))), some (.int (nI (i + 1))), none, none] [] (mW G h ad M R) := by
        intro e e2
        rw [sd_un (Or.inl ⟨by rw [hai]; exact e, e2⟩), if_neg (by decide), e, sw_l] at nx
        exact nx
      have hC : g = i0 + 1 → 0 < c i → V X 0 0 8 [some (.ref h), some (.int (nI j)), some (.int (nI p)), some (.int (nI i0)), some (.int (nI (usF c p i))), some (.int (nI (i + 1))), none, none] [] (mW G h ad M R) := by
        intro e e2
        rw [sd_un (Or.inr ⟨by rw [hai]; exact e, e2⟩), if_neg (by decide), e, sw_r] at nx
        exact nx
      have hD : g = i0 + 1 → ¬ 0 < c i → V X 0 0 8 [some (.ref h), some (.int (nI j)), some (.int (nI p)), some (.int (nI i0)), some (.int (nI (usF c p i + 1))), some (.int (nI (i + 1))), none, none] [] (mW G h ad M R) := by
        intro e e2
        rw [sd_ov (Or.inr ⟨by rw [hai]; exact e, e2⟩), if_pos rfl, e, sw_r] at nx
        exact nx
      have hE : g ≠ i0 → g ≠ i0 + 1 → V X 0 0 8 [some (.ref h), some (.int (nI j)), some (.int (nI p)), some (.int (nI g)), some (.int (nI (usF c p i))), some (.int (nI (i + 1))), none, none] [] (mW G h ad M R) := by
        intro e e2
        rw [sd_no (by rw [hai]; exact e) (by rw [hai]; exact e2), if_neg (by decide), sw_n e e2] at nx
        exact nx
      have j66 : (g = i0 ∨ g = i0 + 1) → V X 0 0 66 [some (.ref h), some (.int (nI j)), some (.int (nI p)), some (.int (nI g)), some (.int (nI (usF c p i))), some (.int (nI i)), some (.int (c i)), some (.int (nI i0))] [] (mW G h ad M R) := by
        intro hor
        refine r_iload_n C dX7_useOf_66 rfl rfl ?_
        refine r_iload C dX7_useOf_67 rfl ?_
        refine r_icmp_ne (tgt := 76) C dX7_useOf_69 (by decide) (fun c69 => ?_) (fun c69 => ?_)
        · rw [nI_eq (by omega) (by omega)] at c69
          refine r_iconst (v := 0) C dX7_useOf_76 (by decide) ?_
          refine r_iload C dX7_useOf_77 rfl ?_
          refine r_if_le (tgt := 86) C dX7_useOf_79 (by decide) (fun c79 => ?_) (fun c79 => ?_)
          · refine r_iconst (v := 0) C dX7_useOf_86 (by decide) ?_
            refine r_icmp_ne (tgt := 93) C dX7_useOf_87 (by decide) (fun c87 => ?_) (fun c87 => ?_)
            · try rw [nI_1]
              refine r_iload_n C dX7_useOf_93 rfl rfl ?_
              refine r_iload C dX7_useOf_94 rfl ?_
              refine r_icmp_ne (tgt := 106) C dX7_useOf_96 (by decide) (fun c96 => ?_) (fun c96 => ?_)
              · rw [nI_eq (by omega) (by omega)] at c96
                refine r_iload C dX7_useOf_106 rfl ?_
                refine r_istore_n C dX7_useOf_108 rfl (by decide) ?_
                refine r_iinc (v := _ + 1) C dX7_useOf_109 rfl (by rfl) (by decide) ?_
                rw [nI_1]
                refine r_goto (tgt := 8) C dX7_useOf_112 (by decide) ?_
                first
                  | exact absurd rfl c87
                  | exact absurd c87 (by decide)
                  | exact absurd c96 c69
                  | exact absurd c69 c96
                  | exact V.keep [true, true, true, true, true, true, false, false] (hA c96 (Int32.not_le.mp c79))
                  | exact V.keep [true, true, true, true, true, true, false, false] (hB c96 (Int32.not_lt.mpr c79))
                  | exact V.keep [true, true, true, true, true, true, false, false] (hC (by omega) (Int32.not_le.mp c79))
                  | exact V.keep [true, true, true, true, true, true, false, false] (hD (by omega) (Int32.not_lt.mpr c79))
              · rw [nI_eq (by omega) (by omega)] at c96
                refine r_iload C dX7_useOf_99 rfl ?_
                refine r_iconst (v := 1) C dX7_useOf_101 (by decide) ?_
                refine r_iadd C dX7_useOf_102 ?_
                rw [nI_1]
                refine r_goto (tgt := 108) C dX7_useOf_103 (by decide) ?_
                refine r_istore_n C dX7_useOf_108 rfl (by decide) ?_
                refine r_iinc (v := _ + 1) C dX7_useOf_109 rfl (by rfl) (by decide) ?_
                rw [nI_1]
                refine r_goto (tgt := 8) C dX7_useOf_112 (by decide) ?_
                first
                  | exact absurd rfl c87
                  | exact absurd c87 (by decide)
                  | exact absurd c96 c69
                  | exact absurd c69 c96
                  | exact V.keep [true, true, true, true, true, true, false, false] (hA c96 (Int32.not_le.mp c79))
                  | exact V.keep [true, true, true, true, true, true, false, false] (hB c96 (Int32.not_lt.mpr c79))
                  | exact V.keep [true, true, true, true, true, true, false, false] (hC (by omega) (Int32.not_le.mp c79))
                  | exact V.keep [true, true, true, true, true, true, false, false] (hD (by omega) (Int32.not_lt.mpr c79))
            · refine r_iinc (v := _ + 1) C dX7_useOf_90 rfl (by rfl) (by decide) ?_
              try rw [nI_1]
              refine r_iload_n C dX7_useOf_93 rfl rfl ?_
              refine r_iload C dX7_useOf_94 rfl ?_
              refine r_icmp_ne (tgt := 106) C dX7_useOf_96 (by decide) (fun c96 => ?_) (fun c96 => ?_)
              · rw [nI_eq (by omega) (by omega)] at c96
                refine r_iload C dX7_useOf_106 rfl ?_
                refine r_istore_n C dX7_useOf_108 rfl (by decide) ?_
                refine r_iinc (v := _ + 1) C dX7_useOf_109 rfl (by rfl) (by decide) ?_
                rw [nI_1]
                refine r_goto (tgt := 8) C dX7_useOf_112 (by decide) ?_
                first
                  | exact absurd rfl c87
                  | exact absurd c87 (by decide)
                  | exact absurd c96 c69
                  | exact absurd c69 c96
                  | exact V.keep [true, true, true, true, true, true, false, false] (hA c96 (Int32.not_le.mp c79))
                  | exact V.keep [true, true, true, true, true, true, false, false] (hB c96 (Int32.not_lt.mpr c79))
                  | exact V.keep [true, true, true, true, true, true, false, false] (hC (by omega) (Int32.not_le.mp c79))
                  | exact V.keep [true, true, true, true, true, true, false, false] (hD (by omega) (Int32.not_lt.mpr c79))
              · rw [nI_eq (by omega) (by omega)] at c96
                refine r_iload C dX7_useOf_99 rfl ?_
                refine r_iconst (v := 1) C dX7_useOf_101 (by decide) ?_
                refine r_iadd C dX7_useOf_102 ?_
                rw [nI_1]
                refine r_goto (tgt := 108) C dX7_useOf_103 (by decide) ?_
                refine r_istore_n C dX7_useOf_108 rfl (by decide) ?_
                refine r_iinc (v := _ + 1) C dX7_useOf_109 rfl (by rfl) (by decide) ?_
                rw [nI_1]
                refine r_goto (tgt := 8) C dX7_useOf_112 (by decide) ?_
                first
                  | exact absurd rfl c87
                  | exact absurd c87 (by decide)
                  | exact absurd c96 c69
                  | exact absurd c69 c96
                  | exact V.keep [true, true, true, true, true, true, false, false] (hA c96 (Int32.not_le.mp c79))
                  | exact V.keep [true, true, true, true, true, true, false, false] (hB c96 (Int32.not_lt.mpr c79))
                  | exact V.keep [true, true, true, true, true, true, false, false] (hC (by omega) (Int32.not_le.mp c79))
                  | exact V.keep [true, true, true, true, true, true, false, false] (hD (by omega) (Int32.not_lt.mpr c79))
          · refine r_iconst (v := 1) C dX7_useOf_82 (by decide) ?_
            refine r_goto (tgt := 87) C dX7_useOf_83 (by decide) ?_
            refine r_icmp_ne (tgt := 93) C dX7_useOf_87 (by decide) (fun c87 => ?_) (fun c87 => ?_)
            · try rw [nI_1]
              refine r_iload_n C dX7_useOf_93 rfl rfl ?_
              refine r_iload C dX7_useOf_94 rfl ?_
              refine r_icmp_ne (tgt := 106) C dX7_useOf_96 (by decide) (fun c96 => ?_) (fun c96 => ?_)
              · rw [nI_eq (by omega) (by omega)] at c96
                refine r_iload C dX7_useOf_106 rfl ?_
                refine r_istore_n C dX7_useOf_108 rfl (by decide) ?_
                refine r_iinc (v := _ + 1) C dX7_useOf_109 rfl (by rfl) (by decide) ?_
                rw [nI_1]
                refine r_goto (tgt := 8) C dX7_useOf_112 (by decide) ?_
                first
                  | exact absurd rfl c87
                  | exact absurd c87 (by decide)
                  | exact absurd c96 c69
                  | exact absurd c69 c96
                  | exact V.keep [true, true, true, true, true, true, false, false] (hA c96 (Int32.not_le.mp c79))
                  | exact V.keep [true, true, true, true, true, true, false, false] (hB c96 (Int32.not_lt.mpr c79))
                  | exact V.keep [true, true, true, true, true, true, false, false] (hC (by omega) (Int32.not_le.mp c79))
                  | exact V.keep [true, true, true, true, true, true, false, false] (hD (by omega) (Int32.not_lt.mpr c79))
              · rw [nI_eq (by omega) (by omega)] at c96
                refine r_iload C dX7_useOf_99 rfl ?_
                refine r_iconst (v := 1) C dX7_useOf_101 (by decide) ?_
                refine r_iadd C dX7_useOf_102 ?_
                rw [nI_1]
                refine r_goto (tgt := 108) C dX7_useOf_103 (by decide) ?_
                refine r_istore_n C dX7_useOf_108 rfl (by decide) ?_
                refine r_iinc (v := _ + 1) C dX7_useOf_109 rfl (by rfl) (by decide) ?_
                rw [nI_1]
                refine r_goto (tgt := 8) C dX7_useOf_112 (by decide) ?_
                first
                  | exact absurd rfl c87
                  | exact absurd c87 (by decide)
                  | exact absurd c96 c69
                  | exact absurd c69 c96
                  | exact V.keep [true, true, true, true, true, true, false, false] (hA c96 (Int32.not_le.mp c79))
                  | exact V.keep [true, true, true, true, true, true, false, false] (hB c96 (Int32.not_lt.mpr c79))
                  | exact V.keep [true, true, true, true, true, true, false, false] (hC (by omega) (Int32.not_le.mp c79))
                  | exact V.keep [true, true, true, true, true, true, false, false] (hD (by omega) (Int32.not_lt.mpr c79))
            · refine r_iinc (v := _ + 1) C dX7_useOf_90 rfl (by rfl) (by decide) ?_
              try rw [nI_1]
              refine r_iload_n C dX7_useOf_93 rfl rfl ?_
              refine r_iload C dX7_useOf_94 rfl ?_
              refine r_icmp_ne (tgt := 106) C dX7_useOf_96 (by decide) (fun c96 => ?_) (fun c96 => ?_)
              · rw [nI_eq (by omega) (by omega)] at c96
                refine r_iload C dX7_useOf_106 rfl ?_
                refine r_istore_n C dX7_useOf_108 rfl (by decide) ?_
                refine r_iinc (v := _ + 1) C dX7_useOf_109 rfl (by rfl) (by decide) ?_
                rw [nI_1]
                refine r_goto (tgt := 8) C dX7_useOf_112 (by decide) ?_
                first
                  | exact absurd rfl c87
                  | exact absurd c87 (by decide)
                  | exact absurd c96 c69
                  | exact absurd c69 c96
                  | exact V.keep [true, true, true, true, true, true, false, false] (hA c96 (Int32.not_le.mp c79))
                  | exact V.keep [true, true, true, true, true, true, false, false] (hB c96 (Int32.not_lt.mpr c79))
                  | exact V.keep [true, true, true, true, true, true, false, false] (hC (by omega) (Int32.not_le.mp c79))
                  | exact V.keep [true, true, true, true, true, true, false, false] (hD (by omega) (Int32.not_lt.mpr c79))
              · rw [nI_eq (by omega) (by omega)] at c96
                refine r_iload C dX7_useOf_99 rfl ?_
                refine r_iconst (v := 1) C dX7_useOf_101 (by decide) ?_
                refine r_iadd C dX7_useOf_102 ?_
                rw [nI_1]
                refine r_goto (tgt := 108) C dX7_useOf_103 (by decide) ?_
                refine r_istore_n C dX7_useOf_108 rfl (by decide) ?_
                refine r_iinc (v := _ + 1) C dX7_useOf_109 rfl (by rfl) (by decide) ?_
                rw [nI_1]
                refine r_goto (tgt := 8) C dX7_useOf_112 (by decide) ?_
                first
                  | exact absurd rfl c87
                  | exact absurd c87 (by decide)
                  | exact absurd c96 c69
                  | exact absurd c69 c96
                  | exact V.keep [true, true, true, true, true, true, false, false] (hA c96 (Int32.not_le.mp c79))
                  | exact V.keep [true, true, true, true, true, true, false, false] (hB c96 (Int32.not_lt.mpr c79))
                  | exact V.keep [true, true, true, true, true, true, false, false] (hC (by omega) (Int32.not_le.mp c79))
                  | exact V.keep [true, true, true, true, true, true, false, false] (hD (by omega) (Int32.not_lt.mpr c79))
        · rw [nI_eq (by omega) (by omega)] at c69
          refine r_iconst (v := 1) C dX7_useOf_72 (by decide) ?_
          refine r_goto (tgt := 77) C dX7_useOf_73 (by decide) ?_
          refine r_iload C dX7_useOf_77 rfl ?_
          refine r_if_le (tgt := 86) C dX7_useOf_79 (by decide) (fun c79 => ?_) (fun c79 => ?_)
          · refine r_iconst (v := 0) C dX7_useOf_86 (by decide) ?_
            refine r_icmp_ne (tgt := 93) C dX7_useOf_87 (by decide) (fun c87 => ?_) (fun c87 => ?_)
            · try rw [nI_1]
              refine r_iload_n C dX7_useOf_93 rfl rfl ?_
              refine r_iload C dX7_useOf_94 rfl ?_
              refine r_icmp_ne (tgt := 106) C dX7_useOf_96 (by decide) (fun c96 => ?_) (fun c96 => ?_)
              · rw [nI_eq (by omega) (by omega)] at c96
                refine r_iload C dX7_useOf_106 rfl ?_
                refine r_istore_n C dX7_useOf_108 rfl (by decide) ?_
                refine r_iinc (v := _ + 1) C dX7_useOf_109 rfl (by rfl) (by decide) ?_
                rw [nI_1]
                refine r_goto (tgt := 8) C dX7_useOf_112 (by decide) ?_
                first
                  | exact absurd rfl c87
                  | exact absurd c87 (by decide)
                  | exact absurd c96 c69
                  | exact absurd c69 c96
                  | exact V.keep [true, true, true, true, true, true, false, false] (hA c96 (Int32.not_le.mp c79))
                  | exact V.keep [true, true, true, true, true, true, false, false] (hB c96 (Int32.not_lt.mpr c79))
                  | exact V.keep [true, true, true, true, true, true, false, false] (hC (by omega) (Int32.not_le.mp c79))
                  | exact V.keep [true, true, true, true, true, true, false, false] (hD (by omega) (Int32.not_lt.mpr c79))
              · rw [nI_eq (by omega) (by omega)] at c96
                refine r_iload C dX7_useOf_99 rfl ?_
                refine r_iconst (v := 1) C dX7_useOf_101 (by decide) ?_
                refine r_iadd C dX7_useOf_102 ?_
                rw [nI_1]
                refine r_goto (tgt := 108) C dX7_useOf_103 (by decide) ?_
                refine r_istore_n C dX7_useOf_108 rfl (by decide) ?_
                refine r_iinc (v := _ + 1) C dX7_useOf_109 rfl (by rfl) (by decide) ?_
                rw [nI_1]
                refine r_goto (tgt := 8) C dX7_useOf_112 (by decide) ?_
                first
                  | exact absurd rfl c87
                  | exact absurd c87 (by decide)
                  | exact absurd c96 c69
                  | exact absurd c69 c96
                  | exact V.keep [true, true, true, true, true, true, false, false] (hA c96 (Int32.not_le.mp c79))
                  | exact V.keep [true, true, true, true, true, true, false, false] (hB c96 (Int32.not_lt.mpr c79))
                  | exact V.keep [true, true, true, true, true, true, false, false] (hC (by omega) (Int32.not_le.mp c79))
                  | exact V.keep [true, true, true, true, true, true, false, false] (hD (by omega) (Int32.not_lt.mpr c79))
            · refine r_iinc (v := _ + 1) C dX7_useOf_90 rfl (by rfl) (by decide) ?_
              try rw [nI_1]
              refine r_iload_n C dX7_useOf_93 rfl rfl ?_
              refine r_iload C dX7_useOf_94 rfl ?_
              refine r_icmp_ne (tgt := 106) C dX7_useOf_96 (by decide) (fun c96 => ?_) (fun c96 => ?_)
              · rw [nI_eq (by omega) (by omega)] at c96
                refine r_iload C dX7_useOf_106 rfl ?_
                refine r_istore_n C dX7_useOf_108 rfl (by decide) ?_
                refine r_iinc (v := _ + 1) C dX7_useOf_109 rfl (by rfl) (by decide) ?_
                rw [nI_1]
                refine r_goto (tgt := 8) C dX7_useOf_112 (by decide) ?_
                first
                  | exact absurd rfl c87
                  | exact absurd c87 (by decide)
                  | exact absurd c96 c69
                  | exact absurd c69 c96
                  | exact V.keep [true, true, true, true, true, true, false, false] (hA c96 (Int32.not_le.mp c79))
                  | exact V.keep [true, true, true, true, true, true, false, false] (hB c96 (Int32.not_lt.mpr c79))
                  | exact V.keep [true, true, true, true, true, true, false, false] (hC (by omega) (Int32.not_le.mp c79))
                  | exact V.keep [true, true, true, true, true, true, false, false] (hD (by omega) (Int32.not_lt.mpr c79))
              · rw [nI_eq (by omega) (by omega)] at c96
                refine r_iload C dX7_useOf_99 rfl ?_
                refine r_iconst (v := 1) C dX7_useOf_101 (by decide) ?_
                refine r_iadd C dX7_useOf_102 ?_
                rw [nI_1]
                refine r_goto (tgt := 108) C dX7_useOf_103 (by decide) ?_
                refine r_istore_n C dX7_useOf_108 rfl (by decide) ?_
                refine r_iinc (v := _ + 1) C dX7_useOf_109 rfl (by rfl) (by decide) ?_
                rw [nI_1]
                refine r_goto (tgt := 8) C dX7_useOf_112 (by decide) ?_
                first
                  | exact absurd rfl c87
                  | exact absurd c87 (by decide)
                  | exact absurd c96 c69
                  | exact absurd c69 c96
                  | exact V.keep [true, true, true, true, true, true, false, false] (hA c96 (Int32.not_le.mp c79))
                  | exact V.keep [true, true, true, true, true, true, false, false] (hB c96 (Int32.not_lt.mpr c79))
                  | exact V.keep [true, true, true, true, true, true, false, false] (hC (by omega) (Int32.not_le.mp c79))
                  | exact V.keep [true, true, true, true, true, true, false, false] (hD (by omega) (Int32.not_lt.mpr c79))
          · refine r_iconst (v := 1) C dX7_useOf_82 (by decide) ?_
            refine r_goto (tgt := 87) C dX7_useOf_83 (by decide) ?_
            refine r_icmp_ne (tgt := 93) C dX7_useOf_87 (by decide) (fun c87 => ?_) (fun c87 => ?_)
            · try rw [nI_1]
              refine r_iload_n C dX7_useOf_93 rfl rfl ?_
              refine r_iload C dX7_useOf_94 rfl ?_
              refine r_icmp_ne (tgt := 106) C dX7_useOf_96 (by decide) (fun c96 => ?_) (fun c96 => ?_)
              · rw [nI_eq (by omega) (by omega)] at c96
                refine r_iload C dX7_useOf_106 rfl ?_
                refine r_istore_n C dX7_useOf_108 rfl (by decide) ?_
                refine r_iinc (v := _ + 1) C dX7_useOf_109 rfl (by rfl) (by decide) ?_
                rw [nI_1]
                refine r_goto (tgt := 8) C dX7_useOf_112 (by decide) ?_
                first
                  | exact absurd rfl c87
                  | exact absurd c87 (by decide)
                  | exact absurd c96 c69
                  | exact absurd c69 c96
                  | exact V.keep [true, true, true, true, true, true, false, false] (hA c96 (Int32.not_le.mp c79))
                  | exact V.keep [true, true, true, true, true, true, false, false] (hB c96 (Int32.not_lt.mpr c79))
                  | exact V.keep [true, true, true, true, true, true, false, false] (hC (by omega) (Int32.not_le.mp c79))
                  | exact V.keep [true, true, true, true, true, true, false, false] (hD (by omega) (Int32.not_lt.mpr c79))
              · rw [nI_eq (by omega) (by omega)] at c96
                refine r_iload C dX7_useOf_99 rfl ?_
                refine r_iconst (v := 1) C dX7_useOf_101 (by decide) ?_
                refine r_iadd C dX7_useOf_102 ?_
                rw [nI_1]
                refine r_goto (tgt := 108) C dX7_useOf_103 (by decide) ?_
                refine r_istore_n C dX7_useOf_108 rfl (by decide) ?_
                refine r_iinc (v := _ + 1) C dX7_useOf_109 rfl (by rfl) (by decide) ?_
                rw [nI_1]
                refine r_goto (tgt := 8) C dX7_useOf_112 (by decide) ?_
                first
                  | exact absurd rfl c87
                  | exact absurd c87 (by decide)
                  | exact absurd c96 c69
                  | exact absurd c69 c96
                  | exact V.keep [true, true, true, true, true, true, false, false] (hA c96 (Int32.not_le.mp c79))
                  | exact V.keep [true, true, true, true, true, true, false, false] (hB c96 (Int32.not_lt.mpr c79))
                  | exact V.keep [true, true, true, true, true, true, false, false] (hC (by omega) (Int32.not_le.mp c79))
                  | exact V.keep [true, true, true, true, true, true, false, false] (hD (by omega) (Int32.not_lt.mpr c79))
            · refine r_iinc (v := _ + 1) C dX7_useOf_90 rfl (by rfl) (by decide) ?_
              try rw [nI_1]
              refine r_iload_n C dX7_useOf_93 rfl rfl ?_
              refine r_iload C dX7_useOf_94 rfl ?_
              refine r_icmp_ne (tgt := 106) C dX7_useOf_96 (by decide) (fun c96 => ?_) (fun c96 => ?_)
              · rw [nI_eq (by omega) (by omega)] at c96
                refine r_iload C dX7_useOf_106 rfl ?_
                refine r_istore_n C dX7_useOf_108 rfl (by decide) ?_
                refine r_iinc (v := _ + 1) C dX7_useOf_109 rfl (by rfl) (by decide) ?_
                rw [nI_1]
                refine r_goto (tgt := 8) C dX7_useOf_112 (by decide) ?_
                first
                  | exact absurd rfl c87
                  | exact absurd c87 (by decide)
                  | exact absurd c96 c69
                  | exact absurd c69 c96
                  | exact V.keep [true, true, true, true, true, true, false, false] (hA c96 (Int32.not_le.mp c79))
                  | exact V.keep [true, true, true, true, true, true, false, false] (hB c96 (Int32.not_lt.mpr c79))
                  | exact V.keep [true, true, true, true, true, true, false, false] (hC (by omega) (Int32.not_le.mp c79))
                  | exact V.keep [true, true, true, true, true, true, false, false] (hD (by omega) (Int32.not_lt.mpr c79))
              · rw [nI_eq (by omega) (by omega)] at c96
                refine r_iload C dX7_useOf_99 rfl ?_
                refine r_iconst (v := 1) C dX7_useOf_101 (by decide) ?_
                refine r_iadd C dX7_useOf_102 ?_
                rw [nI_1]
                refine r_goto (tgt := 108) C dX7_useOf_103 (by decide) ?_
                refine r_istore_n C dX7_useOf_108 rfl (by decide) ?_
                refine r_iinc (v := _ + 1) C dX7_useOf_109 rfl (by rfl) (by decide) ?_
                rw [nI_1]
                refine r_goto (tgt := 8) C dX7_useOf_112 (by decide) ?_
                first
                  | exact absurd rfl c87
                  | exact absurd c87 (by decide)
                  | exact absurd c96 c69
                  | exact absurd c69 c96
                  | exact V.keep [true, true, true, true, true, true, false, false] (hA c96 (Int32.not_le.mp c79))
                  | exact V.keep [true, true, true, true, true, true, false, false] (hB c96 (Int32.not_lt.mpr c79))
                  | exact V.keep [true, true, true, true, true, true, false, false] (hC (by omega) (Int32.not_le.mp c79))
                  | exact V.keep [true, true, true, true, true, true, false, false] (hD (by omega) (Int32.not_lt.mpr c79))
      have j49 : V X 0 0 49 [some (.ref h), some (.int (nI j)), some (.int (nI p)), some (.int (nI g)), some (.int (nI (usF c p i))), some (.int (nI i)), some (.int (c i)), some (.int (nI i0))] [] (mW G h ad M R) := by
        refine r_iload_n C dX7_useOf_49 rfl rfl ?_
        refine r_iload C dX7_useOf_50 rfl ?_
        refine r_icmp_eq (tgt := 66) C dX7_useOf_52 (by decide) (fun c52 => ?_) (fun c52 => ?_)
        · first
            | exact j66 (Or.inl ((nI_eq (by omega) (by omega)).mp c52))
            | exact j66 (Or.inr ((nI_eq (by omega) (by omega)).mp c60))
        · rw [nI_eq (by omega) (by omega)] at c52
          refine r_iload_n C dX7_useOf_55 rfl rfl ?_
          refine r_iload C dX7_useOf_56 rfl ?_
          refine r_iconst (v := 1) C dX7_useOf_58 (by decide) ?_
          refine r_iadd C dX7_useOf_59 ?_
          rw [nI_1]
          refine r_icmp_eq (tgt := 66) C dX7_useOf_60 (by decide) (fun c60 => ?_) (fun c60 => ?_)
          · first
              | exact j66 (Or.inl ((nI_eq (by omega) (by omega)).mp c52))
              | exact j66 (Or.inr ((nI_eq (by omega) (by omega)).mp c60))
          · rw [nI_eq (by omega) (by omega)] at c60
            refine r_goto (tgt := 109) C dX7_useOf_63 (by decide) ?_
            refine r_iinc (v := _ + 1) C dX7_useOf_109 rfl (by rfl) (by decide) ?_
            rw [nI_1]
            refine r_goto (tgt := 8) C dX7_useOf_112 (by decide) ?_
            exact V.keep [true, true, true, true, true, true, false, false] (hE c52 c60)
      refine r_iload C dX7_useOf_8 rfl ?_
      refine r_aload_n C dX7_useOf_10 rfl rfl ?_
      refine mg_sizes C dX7_useOf_11 ?_
      refine r_iload_n C dX7_useOf_14 rfl rfl ?_
      refine ml_sizes C dX7_useOf_15 (vp_in_nI hj (by decide)) ?_
      rw [nI_clamp (by omega), hz]
      refine r_icmp_ge (tgt := 115) C dX7_useOf_16 (by decide) (fun c16 => absurd c16 ((nI_ge (by omega) (by omega)))) (fun c16 => ?_)
      refine r_aload_n C dX7_useOf_19 rfl rfl ?_
      refine mg_rows C dX7_useOf_20 ?_
      refine r_sipush (v := 300) C dX7_useOf_23 (by decide) ?_
      refine r_iload_n C dX7_useOf_26 rfl rfl ?_
      refine r_imul C dX7_useOf_27 ?_
      refine r_iload C dX7_useOf_28 rfl ?_
      refine r_iadd C dX7_useOf_30 ?_
      show V X 0 0 31 _ [.int (nI 300 * nI j + nI i), .ref (ad 7)] _
      rw [pk_mul, nI_add]
      refine ml_rows C dX7_useOf_31 (vp_in_nI (show 300 * j + i < 2400 by omega) (by decide)) ?_
      rw [nI_clamp (by omega), hrow]
      refine r_istore C dX7_useOf_32 (by decide) ?_
      rcases hci with hci | hci <;> rw [hci] at j49 ⊢
      · refine r_iload C dX7_useOf_34 rfl ?_
        refine r_if_le (tgt := 44) C dX7_useOf_36 (by decide) (fun c36 => absurd c36 ((Int32.not_le.mpr (pos_nI hi1 (by omega))))) (fun c36 => ?_)
        refine r_iload C dX7_useOf_39 rfl ?_
        refine r_goto (tgt := 47) C dX7_useOf_41 (by decide) ?_
        refine r_istore C dX7_useOf_47 (by decide) ?_
        exact j49
      · refine r_iload C dX7_useOf_34 rfl ?_
        refine r_if_le (tgt := 44) C dX7_useOf_36 (by decide) (fun c36 => ?_) (fun c36 => absurd c36 ((fun q => q (Int32.le_of_lt (neg_lt0 hi1 (by omega))))))
        refine r_iload C dX7_useOf_44 rfl ?_
        refine r_ineg C dX7_useOf_46 ?_
        rw [Int32.neg_neg]
        refine r_istore C dX7_useOf_47 (by decide) ?_
        exact j49
  refine r_iload_n C dX7_useOf_0 rfl rfl ?_
  refine r_istore_n C dX7_useOf_1 rfl (by decide) ?_
  refine r_iconst (v := 0) C dX7_useOf_2 (by decide) ?_
  refine r_istore C dX7_useOf_3 (by decide) ?_
  refine r_iconst (v := 0) C dX7_useOf_5 (by decide) ?_
  refine r_istore C dX7_useOf_6 (by decide) ?_
  exact key z 0 (by omega)
theorem c_isInTurn {j s z p m : Nat} (hj : j < 8) (hp : PatOK R j s z) (h1 : 1 ≤ p) (h2 : p ≤ s) (hm : m ≤ 1000) : mI G h ad yX7_isInTurn cX7_isInTurn 12 .boolean 0 [.int (nI j), .int (nI p), .int (nI m)] M R (fun r M' R' => r = itR (itt (rowOf R j) z p m) ∧ M' = M ∧ R' = R) := by
  refine mI.intro (by decide) (Nat.le_of_ble_eq_true rfl) (cat1 (xs := [nI j, nI p, nI m])) fun X C hR => ?_
  obtain ⟨hs5, hs2, hs7, hz, hz3, hok⟩ := id hp
  obtain ⟨c, hc⟩ : ∃ c, c = rowOf R j := ⟨_, rfl⟩
  have hrow : ∀ (i : Nat), R 7 (300 * j + i) = c i := fun i => by rw [hc]; rfl
  rw [← hc] at hR hok
  have key : ∀ (f t : Nat) (q : ItT), t + f = m → itt c z p t = some q → (1 ≤ q.1 ∧ q.1 ≤ s) → (q.2.1 ≤ 2 ∧ q.2.2 ≤ 2) → V X 0 0 12 [some (.ref h), some (.int (nI j)), some (.int (nI p)), some (.int (nI m)), some (.int (nI q.1)), some (.int (nI q.2.1)), some (.int (nI q.2.2)), some (.int (nI t)), none, none, none, none] [] (mW G h ad M R) := by
    intro f
    induction f with
    | zero =>
      intro t q ht hq hq1 hq2
      have htm : t = m := by omega
      subst htm
      refine r_iload C dX7_isInTurn_12 rfl ?_
      refine r_iload_n C dX7_isInTurn_14 rfl rfl ?_
      refine r_icmp_ge (tgt := 165) C dX7_isInTurn_15 (by decide) (fun c15 => ?_) (fun c15 => absurd c15 ((fun q => q (nI_le (by omega) (by omega)))))
      refine r_iload C dX7_isInTurn_165 rfl ?_
      refine r_if_eq (tgt := 177) C dX7_isInTurn_167 (by decide) (fun c167 => ?_) (fun c167 => ?_)
      · refine r_iconst (v := 1) C dX7_isInTurn_177 (by decide) ?_
        refine r_goto (tgt := 182) C dX7_isInTurn_178 (by decide) ?_
        exact hR _ _ _ _ _ rfl dX7_isInTurn_182 ⟨by
          rw [hq]
          show _ = if q.2.1 = 0 ∨ q.2.1 ≠ q.2.2 then (1 : Int32) else 0
          first
            | (rw [if_pos (Or.inl ((nI_eq (b := 0) (by omega) (by decide)).mp c167))]; done)
            | (rw [if_neg (fun o => o.elim (fun o => c167 (by rw [o]; rfl)) (fun o => o ((nI_eq (by omega) (by omega)).mp c174)))]; done)
            | (rw [if_pos (Or.inr (fun o => c174 (by rw [o])))]; done), rfl, rfl⟩
      · refine r_iload C dX7_isInTurn_170 rfl ?_
        refine r_iload C dX7_isInTurn_172 rfl ?_
        refine r_icmp_eq (tgt := 181) C dX7_isInTurn_174 (by decide) (fun c174 => ?_) (fun c174 => ?_)
        · refine r_iconst (v := 0) C dX7_isInTurn_181 (by decide) ?_
          exact hR _ _ _ _ _ rfl dX7_isInTurn_182 ⟨by
            rw [hq]
            show _ = if q.2.1 = 0 ∨ q.2.1 ≠ q.2.2 then (1 : Int32) else 0
            first
              | (rw [if_pos (Or.inl ((nI_eq (b := 0) (by omega) (by decide)).mp c167))]; done)
              | (rw [if_neg (fun o => o.elim (fun o => c167 (by rw [o]; rfl)) (fun o => o ((nI_eq (by omega) (by omega)).mp c174)))]; done)
              | (rw [if_pos (Or.inr (fun o => c174 (by rw [o])))]; done), rfl, rfl⟩
        · refine r_iconst (v := 1) C dX7_isInTurn_177 (by decide) ?_
          refine r_goto (tgt := 182) C dX7_isInTurn_178 (by decide) ?_
          exact hR _ _ _ _ _ rfl dX7_isInTurn_182 ⟨by
            rw [hq]
            show _ = if q.2.1 = 0 ∨ q.2.1 ≠ q.2.2 then (1 : Int32) else 0
            first
              | (rw [if_pos (Or.inl ((nI_eq (b := 0) (by omega) (by decide)).mp c167))]; done)
              | (rw [if_neg (fun o => o.elim (fun o => c167 (by rw [o]; rfl)) (fun o => o ((nI_eq (by omega) (by omega)).mp c174)))]; done)
              | (rw [if_pos (Or.inr (fun o => c174 (by rw [o])))]; done), rfl, rfl⟩
    | succ f ih =>
      intro t q ht hq hq1 hq2
      have inner : ∀ (f' i : Nat) (q : ItT), i + f' = z → itj c (itt c z p t) i = some q → (1 ≤ q.1 ∧ q.1 ≤ s) → (q.2.1 ≤ 2 ∧ q.2.2 ≤ 2) → V X 0 0 21 [some (.ref h), some (.int (nI j)), some (.int (nI p)), some (.int (nI m)), some (.int (nI q.1)), some (.int (nI q.2.1)), some (.int (nI q.2.2)), some (.int (nI t)), some (.int (nI i)), none, none, none] [] (mW G h ad M R) := by
        intro f'
        induction f' with
        | zero =>
          intro i q hi hq hq1 hq2
          have hiz : i = z := by omega
          subst hiz
          refine r_iload C dX7_isInTurn_21 rfl ?_
          refine r_aload_n C dX7_isInTurn_23 rfl rfl ?_
          refine mg_sizes C dX7_isInTurn_24 ?_
          refine r_iload_n C dX7_isInTurn_27 rfl rfl ?_
          refine ml_sizes C dX7_isInTurn_28 (vp_in_nI hj (by decide)) ?_
          rw [nI_clamp (by omega), hz]
          refine r_icmp_ge (tgt := 159) C dX7_isInTurn_29 (by decide) (fun c29 => ?_) (fun c29 => absurd c29 ((fun q => q (nI_le (by omega) (by omega)))))
          refine r_iinc (v := _ + 1) C dX7_isInTurn_159 rfl (by rfl) (by decide) ?_
          rw [nI_1]
          refine r_goto (tgt := 12) C dX7_isInTurn_162 (by decide) ?_
          exact V.keep [true, true, true, true, true, true, true, true, false, false, false, false] (ih (t + 1) q (by omega) hq hq1 hq2)
        | succ f' ih' =>
          intro i q hi hq hq1 hq2
          obtain ⟨i0, hi1, hi2, hci⟩ := hok i (by omega)
          have hai : ai (c i) = i0 := by rcases hci with hci | hci <;> rw [hci] <;> first | exact ai_nI (by omega) | exact ai_neg (by omega)
          have hst : itj c (itt c z p t) (i + 1) = itS (c i) q := by show (itj c (itt c z p t) i).bind (itS (c i)) = _; rw [hq]; rfl
          obtain ⟨x, fi, la⟩ := q
          dsimp only at hq hq1 hq2 hst ⊢
          have hno : itS (c i) (x, fi, la) = none → itt c z p m = none := by
            intro e
            have e1 := itj_none (hst.trans e) (z - (i + 1))
            rw [show i + 1 + (z - (i + 1)) = z by omega] at e1
            have e2 := itt_none (t := t + 1) e1 (m - (t + 1))
            rw [show t + 1 + (m - (t + 1)) = m by omega] at e2
            exact e2
          have go : ∀ (q' : ItT) (a b d e : Option Value), itS (c i) (x, fi, la) = some q' → V X 0 0 156 [some (.ref h), some (.int (nI j)), some (.int (nI p)), some (.int (nI m)), some (.int (nI q'.1)), some (.int (nI q'.2.1)), some (.int (nI q'.2.2)), some (.int (nI t)), some (.int (nI (i + 1))), a, b, d] [] (mW G h ad M R) := by
            intro q' a b d e hq'
            have hin := itS_in (hok i (by omega)) hs7 hq1 hq2 hq'
            have nx := ih' (i + 1) q' (by omega) (hst.trans hq') hin.1 hin.2
            refine r_goto (tgt := 21) C dX7_isInTurn_156 (by decide) ?_
            exact V.keep [true, true, true, true, true, true, true, true, true, false, false, false] nx
          have j113 : ∀ l : Nat, sd x (c i) = l → (l = 1 ∨ l = 2) → (x = i0 ∨ x = i0 + 1) → V X 0 0 113 [some (.ref h), some (.int (nI j)), some (.int (nI p)), some (.int (nI m)), some (.int (nI x)), some (.int (nI fi)), some (.int (nI la)), some (.int (nI t)), some (.int (nI i)), some (.int (c i)), some (.int (nI i0)), some (.int (nI l))] [] (mW G h ad M R) := by
            intro l hl hl12 hxi
            have hS : itS (c i) (x, fi, la) = if l = la then none else some (sw i0 x, if fi = 0 then l else fi, l) := by
              unfold itS
              dsimp only
              rw [hl, if_neg (by omega), hai]
            refine r_iload C dX7_isInTurn_113 rfl ?_
            refine r_iload C dX7_isInTurn_115 rfl ?_
            refine r_icmp_ne (tgt := 122) C dX7_isInTurn_117 (by decide) (fun c117 => ?_) (fun c117 => ?_)
            · rw [nI_eq (by omega) (by omega)] at c117
              rw [if_neg c117] at hS
              refine r_iload C dX7_isInTurn_122 rfl ?_
              refine r_if_ne (tgt := 131) C dX7_isInTurn_124 (by decide) (fun c124 => ?_) (fun c124 => ?_)
              · refine r_iload C dX7_isInTurn_131 rfl ?_
                refine r_istore C dX7_isInTurn_133 (by decide) ?_
                refine r_iload C dX7_isInTurn_135 rfl ?_
                refine r_iload C dX7_isInTurn_137 rfl ?_
                refine r_icmp_ne (tgt := 149) C dX7_isInTurn_139 (by decide) (fun c139 => ?_) (fun c139 => ?_)
                · rw [nI_eq (by omega) (by omega)] at c139
                  rw [show sw i0 x = i0 by rw [show x = i0 + 1 by omega, sw_r]] at hS
                  refine r_iload C dX7_isInTurn_149 rfl ?_
                  refine r_istore C dX7_isInTurn_151 (by decide) ?_
                  refine r_iinc (v := _ + 1) C dX7_isInTurn_153 rfl (by rfl) (by decide) ?_
                  rw [nI_1]
                  first
                    | exact go _ _ _ _ none hS
                    | (rw [if_neg (fun e => c124 (by rw [e]; rfl))] at hS; exact go _ _ _ _ none hS)
                · rw [nI_eq (by omega) (by omega)] at c139
                  rw [show sw i0 x = i0 + 1 by rw [c139, sw_l]] at hS
                  refine r_iload C dX7_isInTurn_142 rfl ?_
                  refine r_iconst (v := 1) C dX7_isInTurn_144 (by decide) ?_
                  refine r_iadd C dX7_isInTurn_145 ?_
                  rw [nI_1]
                  refine r_goto (tgt := 151) C dX7_isInTurn_146 (by decide) ?_
                  refine r_istore C dX7_isInTurn_151 (by decide) ?_
                  refine r_iinc (v := _ + 1) C dX7_isInTurn_153 rfl (by rfl) (by decide) ?_
                  rw [nI_1]
                  first
                    | exact go _ _ _ _ none hS
                    | (rw [if_neg (fun e => c124 (by rw [e]; rfl))] at hS; exact go _ _ _ _ none hS)
              · have hf0 : fi = 0 := (nI_eq (b := 0) (by omega) (by decide)).mp c124
                rw [if_pos hf0] at hS
                refine r_iload C dX7_isInTurn_127 rfl ?_
                refine r_istore C dX7_isInTurn_129 (by decide) ?_
                refine r_iload C dX7_isInTurn_131 rfl ?_
                refine r_istore C dX7_isInTurn_133 (by decide) ?_
                refine r_iload C dX7_isInTurn_135 rfl ?_
                refine r_iload C dX7_isInTurn_137 rfl ?_
                refine r_icmp_ne (tgt := 149) C dX7_isInTurn_139 (by decide) (fun c139 => ?_) (fun c139 => ?_)
                · rw [nI_eq (by omega) (by omega)] at c139
                  rw [show sw i0 x = i0 by rw [show x = i0 + 1 by omega, sw_r]] at hS
                  refine r_iload C dX7_isInTurn_149 rfl ?_
                  refine r_istore C dX7_isInTurn_151 (by decide) ?_
                  refine r_iinc (v := _ + 1) C dX7_isInTurn_153 rfl (by rfl) (by decide) ?_
                  rw [nI_1]
                  first
                    | exact go _ _ _ _ none hS
                    | (rw [if_neg (fun e => c124 (by rw [e]; rfl))] at hS; exact go _ _ _ _ none hS)
                · rw [nI_eq (by omega) (by omega)] at c139
                  rw [show sw i0 x = i0 + 1 by rw [c139, sw_l]] at hS
                  refine r_iload C dX7_isInTurn_142 rfl ?_
                  refine r_iconst (v := 1) C dX7_isInTurn_144 (by decide) ?_
                  refine r_iadd C dX7_isInTurn_145 ?_
                  rw [nI_1]
                  refine r_goto (tgt := 151) C dX7_isInTurn_146 (by decide) ?_
                  refine r_istore C dX7_isInTurn_151 (by decide) ?_
                  refine r_iinc (v := _ + 1) C dX7_isInTurn_153 rfl (by rfl) (by decide) ?_
                  rw [nI_1]
                  first
                    | exact go _ _ _ _ none hS
                    | (rw [if_neg (fun e => c124 (by rw [e]; rfl))] at hS; exact go _ _ _ _ none hS)
            · rw [nI_eq (by omega) (by omega)] at c117
              refine r_iconst (v := 0) C dX7_isInTurn_120 (by decide) ?_
              exact hR _ _ _ _ _ rfl dX7_isInTurn_121 ⟨by rw [hno (by rw [hS, if_pos c117])]; rfl, rfl, rfl⟩
          have j81 : (x = i0 ∨ x = i0 + 1) → V X 0 0 81 [some (.ref h), some (.int (nI j)), some (.int (nI p)), some (.int (nI m)), some (.int (nI x)), some (.int (nI fi)), some (.int (nI la)), some (.int (nI t)), some (.int (nI i)), some (.int (c i)), some (.int (nI i0)), none] [] (mW G h ad M R) := by
            intro hxi
            refine r_iload C dX7_isInTurn_81 rfl ?_
            refine r_iload C dX7_isInTurn_83 rfl ?_
            refine r_icmp_ne (tgt := 92) C dX7_isInTurn_85 (by decide) (fun c85 => ?_) (fun c85 => ?_)
            · rw [nI_eq (by omega) (by omega)] at c85
              refine r_iconst (v := 0) C dX7_isInTurn_92 (by decide) ?_
              refine r_iload C dX7_isInTurn_93 rfl ?_
              refine r_if_le (tgt := 102) C dX7_isInTurn_95 (by decide) (fun c95 => ?_) (fun c95 => ?_)
              · refine r_iconst (v := 0) C dX7_isInTurn_102 (by decide) ?_
                refine r_icmp_ne (tgt := 110) C dX7_isInTurn_103 (by decide) (fun c103 => ?_) (fun c103 => ?_)
                · refine r_iconst (v := 2) C dX7_isInTurn_110 (by decide) ?_
                  refine r_istore C dX7_isInTurn_111 (by decide) ?_
                  first
                    | exact absurd rfl c103
                    | exact absurd c103 (by decide)
                    | exact j113 1 (sd_ov (Or.inl ⟨by rw [hai]; exact c85, Int32.not_le.mp c95⟩)) (Or.inl rfl) hxi
                    | exact j113 1 (sd_ov (Or.inr ⟨by rw [hai]; omega, Int32.not_lt.mpr c95⟩)) (Or.inl rfl) hxi
                    | exact j113 2 (sd_un (Or.inl ⟨by rw [hai]; exact c85, Int32.not_lt.mpr c95⟩)) (Or.inr rfl) hxi
                    | exact j113 2 (sd_un (Or.inr ⟨by rw [hai]; omega, Int32.not_le.mp c95⟩)) (Or.inr rfl) hxi
                · refine r_iconst (v := 1) C dX7_isInTurn_106 (by decide) ?_
                  refine r_goto (tgt := 111) C dX7_isInTurn_107 (by decide) ?_
                  refine r_istore C dX7_isInTurn_111 (by decide) ?_
                  first
                    | exact absurd rfl c103
                    | exact absurd c103 (by decide)
                    | exact j113 1 (sd_ov (Or.inl ⟨by rw [hai]; exact c85, Int32.not_le.mp c95⟩)) (Or.inl rfl) hxi
                    | exact j113 1 (sd_ov (Or.inr ⟨by rw [hai]; omega, Int32.not_lt.mpr c95⟩)) (Or.inl rfl) hxi
                    | exact j113 2 (sd_un (Or.inl ⟨by rw [hai]; exact c85, Int32.not_lt.mpr c95⟩)) (Or.inr rfl) hxi
                    | exact j113 2 (sd_un (Or.inr ⟨by rw [hai]; omega, Int32.not_le.mp c95⟩)) (Or.inr rfl) hxi
              · refine r_iconst (v := 1) C dX7_isInTurn_98 (by decide) ?_
                refine r_goto (tgt := 103) C dX7_isInTurn_99 (by decide) ?_
                refine r_icmp_ne (tgt := 110) C dX7_isInTurn_103 (by decide) (fun c103 => ?_) (fun c103 => ?_)
                · refine r_iconst (v := 2) C dX7_isInTurn_110 (by decide) ?_
                  refine r_istore C dX7_isInTurn_111 (by decide) ?_
                  first
                    | exact absurd rfl c103
                    | exact absurd c103 (by decide)
                    | exact j113 1 (sd_ov (Or.inl ⟨by rw [hai]; exact c85, Int32.not_le.mp c95⟩)) (Or.inl rfl) hxi
                    | exact j113 1 (sd_ov (Or.inr ⟨by rw [hai]; omega, Int32.not_lt.mpr c95⟩)) (Or.inl rfl) hxi
                    | exact j113 2 (sd_un (Or.inl ⟨by rw [hai]; exact c85, Int32.not_lt.mpr c95⟩)) (Or.inr rfl) hxi
                    | exact j113 2 (sd_un (Or.inr ⟨by rw [hai]; omega, Int32.not_le.mp c95⟩)) (Or.inr rfl) hxi
                · refine r_iconst (v := 1) C dX7_isInTurn_106 (by decide) ?_
                  refine r_goto (tgt := 111) C dX7_isInTurn_107 (by decide) ?_
                  refine r_istore C dX7_isInTurn_111 (by decide) ?_
                  first
                    | exact absurd rfl c103
                    | exact absurd c103 (by decide)
                    | exact j113 1 (sd_ov (Or.inl ⟨by rw [hai]; exact c85, Int32.not_le.mp c95⟩)) (Or.inl rfl) hxi
                    | exact j113 1 (sd_ov (Or.inr ⟨by rw [hai]; omega, Int32.not_lt.mpr c95⟩)) (Or.inl rfl) hxi
                    | exact j113 2 (sd_un (Or.inl ⟨by rw [hai]; exact c85, Int32.not_lt.mpr c95⟩)) (Or.inr rfl) hxi
                    | exact j113 2 (sd_un (Or.inr ⟨by rw [hai]; omega, Int32.not_le.mp c95⟩)) (Or.inr rfl) hxi
            · rw [nI_eq (by omega) (by omega)] at c85
              refine r_iconst (v := 1) C dX7_isInTurn_88 (by decide) ?_
              refine r_goto (tgt := 93) C dX7_isInTurn_89 (by decide) ?_
              refine r_iload C dX7_isInTurn_93 rfl ?_
              refine r_if_le (tgt := 102) C dX7_isInTurn_95 (by decide) (fun c95 => ?_) (fun c95 => ?_)
              · refine r_iconst (v := 0) C dX7_isInTurn_102 (by decide) ?_
                refine r_icmp_ne (tgt := 110) C dX7_isInTurn_103 (by decide) (fun c103 => ?_) (fun c103 => ?_)
                · refine r_iconst (v := 2) C dX7_isInTurn_110 (by decide) ?_
                  refine r_istore C dX7_isInTurn_111 (by decide) ?_
                  first
                    | exact absurd rfl c103
                    | exact absurd c103 (by decide)
                    | exact j113 1 (sd_ov (Or.inl ⟨by rw [hai]; exact c85, Int32.not_le.mp c95⟩)) (Or.inl rfl) hxi
                    | exact j113 1 (sd_ov (Or.inr ⟨by rw [hai]; omega, Int32.not_lt.mpr c95⟩)) (Or.inl rfl) hxi
                    | exact j113 2 (sd_un (Or.inl ⟨by rw [hai]; exact c85, Int32.not_lt.mpr c95⟩)) (Or.inr rfl) hxi
                    | exact j113 2 (sd_un (Or.inr ⟨by rw [hai]; omega, Int32.not_le.mp c95⟩)) (Or.inr rfl) hxi
                · refine r_iconst (v := 1) C dX7_isInTurn_106 (by decide) ?_
                  refine r_goto (tgt := 111) C dX7_isInTurn_107 (by decide) ?_
                  refine r_istore C dX7_isInTurn_111 (by decide) ?_
                  first
                    | exact absurd rfl c103
                    | exact absurd c103 (by decide)
                    | exact j113 1 (sd_ov (Or.inl ⟨by rw [hai]; exact c85, Int32.not_le.mp c95⟩)) (Or.inl rfl) hxi
                    | exact j113 1 (sd_ov (Or.inr ⟨by rw [hai]; omega, Int32.not_lt.mpr c95⟩)) (Or.inl rfl) hxi
                    | exact j113 2 (sd_un (Or.inl ⟨by rw [hai]; exact c85, Int32.not_lt.mpr c95⟩)) (Or.inr rfl) hxi
                    | exact j113 2 (sd_un (Or.inr ⟨by rw [hai]; omega, Int32.not_le.mp c95⟩)) (Or.inr rfl) hxi
              · refine r_iconst (v := 1) C dX7_isInTurn_98 (by decide) ?_
                refine r_goto (tgt := 103) C dX7_isInTurn_99 (by decide) ?_
                refine r_icmp_ne (tgt := 110) C dX7_isInTurn_103 (by decide) (fun c103 => ?_) (fun c103 => ?_)
                · refine r_iconst (v := 2) C dX7_isInTurn_110 (by decide) ?_
                  refine r_istore C dX7_isInTurn_111 (by decide) ?_
                  first
                    | exact absurd rfl c103
                    | exact absurd c103 (by decide)
                    | exact j113 1 (sd_ov (Or.inl ⟨by rw [hai]; exact c85, Int32.not_le.mp c95⟩)) (Or.inl rfl) hxi
                    | exact j113 1 (sd_ov (Or.inr ⟨by rw [hai]; omega, Int32.not_lt.mpr c95⟩)) (Or.inl rfl) hxi
                    | exact j113 2 (sd_un (Or.inl ⟨by rw [hai]; exact c85, Int32.not_lt.mpr c95⟩)) (Or.inr rfl) hxi
                    | exact j113 2 (sd_un (Or.inr ⟨by rw [hai]; omega, Int32.not_le.mp c95⟩)) (Or.inr rfl) hxi
                · refine r_iconst (v := 1) C dX7_isInTurn_106 (by decide) ?_
                  refine r_goto (tgt := 111) C dX7_isInTurn_107 (by decide) ?_
                  refine r_istore C dX7_isInTurn_111 (by decide) ?_
                  first
                    | exact absurd rfl c103
                    | exact absurd c103 (by decide)
                    | exact j113 1 (sd_ov (Or.inl ⟨by rw [hai]; exact c85, Int32.not_le.mp c95⟩)) (Or.inl rfl) hxi
                    | exact j113 1 (sd_ov (Or.inr ⟨by rw [hai]; omega, Int32.not_lt.mpr c95⟩)) (Or.inl rfl) hxi
                    | exact j113 2 (sd_un (Or.inl ⟨by rw [hai]; exact c85, Int32.not_lt.mpr c95⟩)) (Or.inr rfl) hxi
                    | exact j113 2 (sd_un (Or.inr ⟨by rw [hai]; omega, Int32.not_le.mp c95⟩)) (Or.inr rfl) hxi
          have j62 : V X 0 0 62 [some (.ref h), some (.int (nI j)), some (.int (nI p)), some (.int (nI m)), some (.int (nI x)), some (.int (nI fi)), some (.int (nI la)), some (.int (nI t)), some (.int (nI i)), some (.int (c i)), some (.int (nI i0)), none] [] (mW G h ad M R) := by
            refine r_iload C dX7_isInTurn_62 rfl ?_
            refine r_iload C dX7_isInTurn_64 rfl ?_
            refine r_icmp_eq (tgt := 81) C dX7_isInTurn_66 (by decide) (fun c66 => ?_) (fun c66 => ?_)
            · first
                | exact j81 (Or.inl ((nI_eq (by omega) (by omega)).mp c66))
                | exact j81 (Or.inr ((nI_eq (by omega) (by omega)).mp c75))
            · rw [nI_eq (by omega) (by omega)] at c66
              refine r_iload C dX7_isInTurn_69 rfl ?_
              refine r_iload C dX7_isInTurn_71 rfl ?_
              refine r_iconst (v := 1) C dX7_isInTurn_73 (by decide) ?_
              refine r_iadd C dX7_isInTurn_74 ?_
              rw [nI_1]
              refine r_icmp_eq (tgt := 81) C dX7_isInTurn_75 (by decide) (fun c75 => ?_) (fun c75 => ?_)
              · first
                  | exact j81 (Or.inl ((nI_eq (by omega) (by omega)).mp c66))
                  | exact j81 (Or.inr ((nI_eq (by omega) (by omega)).mp c75))
              · rw [nI_eq (by omega) (by omega)] at c75
                refine r_goto (tgt := 153) C dX7_isInTurn_78 (by decide) ?_
                refine r_iinc (v := _ + 1) C dX7_isInTurn_153 rfl (by rfl) (by decide) ?_
                rw [nI_1]
                exact go (x, fi, la) _ _ _ none (by unfold itS; dsimp only; rw [sd_no (by rw [hai]; exact c66) (by rw [hai]; exact c75), if_pos rfl])
          refine r_iload C dX7_isInTurn_21 rfl ?_
          refine r_aload_n C dX7_isInTurn_23 rfl rfl ?_
          refine mg_sizes C dX7_isInTurn_24 ?_
          refine r_iload_n C dX7_isInTurn_27 rfl rfl ?_
          refine ml_sizes C dX7_isInTurn_28 (vp_in_nI hj (by decide)) ?_
          rw [nI_clamp (by omega), hz]
          refine r_icmp_ge (tgt := 159) C dX7_isInTurn_29 (by decide) (fun c29 => absurd c29 ((nI_ge (by omega) (by omega)))) (fun c29 => ?_)
          refine r_aload_n C dX7_isInTurn_32 rfl rfl ?_
          refine mg_rows C dX7_isInTurn_33 ?_
          refine r_sipush (v := 300) C dX7_isInTurn_36 (by decide) ?_
          refine r_iload_n C dX7_isInTurn_39 rfl rfl ?_
          refine r_imul C dX7_isInTurn_40 ?_
          refine r_iload C dX7_isInTurn_41 rfl ?_
          refine r_iadd C dX7_isInTurn_43 ?_
          show V X 0 0 44 _ [.int (nI 300 * nI j + nI i), .ref (ad 7)] _
          rw [pk_mul, nI_add]
          refine ml_rows C dX7_isInTurn_44 (vp_in_nI (show 300 * j + i < 2400 by omega) (by decide)) ?_
          rw [nI_clamp (by omega), hrow]
          refine r_istore C dX7_isInTurn_45 (by decide) ?_
          rcases hci with hci | hci <;> rw [hci] at j62 ⊢
          · refine r_iload C dX7_isInTurn_47 rfl ?_
            refine r_if_le (tgt := 57) C dX7_isInTurn_49 (by decide) (fun c49 => absurd c49 ((Int32.not_le.mpr (pos_nI hi1 (by omega))))) (fun c49 => ?_)
            refine r_iload C dX7_isInTurn_52 rfl ?_
            refine r_goto (tgt := 60) C dX7_isInTurn_54 (by decide) ?_
            refine r_istore C dX7_isInTurn_60 (by decide) ?_
            exact j62
          · refine r_iload C dX7_isInTurn_47 rfl ?_
            refine r_if_le (tgt := 57) C dX7_isInTurn_49 (by decide) (fun c49 => ?_) (fun c49 => absurd c49 ((fun q => q (Int32.le_of_lt (neg_lt0 hi1 (by omega))))))
            refine r_iload C dX7_isInTurn_57 rfl ?_
            refine r_ineg C dX7_isInTurn_59 ?_
            rw [Int32.neg_neg]
            refine r_istore C dX7_isInTurn_60 (by decide) ?_
            exact j62
      refine r_iload C dX7_isInTurn_12 rfl ?_
      refine r_iload_n C dX7_isInTurn_14 rfl rfl ?_
      refine r_icmp_ge (tgt := 165) C dX7_isInTurn_15 (by decide) (fun c15 => absurd c15 ((nI_ge (by omega) (by omega)))) (fun c15 => ?_)
      refine r_iconst (v := 0) C dX7_isInTurn_18 (by decide) ?_
      refine r_istore C dX7_isInTurn_19 (by decide) ?_
      exact inner z 0 q (by omega) hq hq1 hq2
  refine r_iload_n C dX7_isInTurn_0 rfl rfl ?_
  refine r_istore C dX7_isInTurn_1 (by decide) ?_
  refine r_iconst (v := 0) C dX7_isInTurn_3 (by decide) ?_
  refine r_istore C dX7_isInTurn_4 (by decide) ?_
  refine r_iconst (v := 0) C dX7_isInTurn_6 (by decide) ?_
  refine r_istore C dX7_isInTurn_7 (by decide) ?_
  refine r_iconst (v := 0) C dX7_isInTurn_9 (by decide) ?_
  refine r_istore C dX7_isInTurn_10 (by decide) ?_
  exact key m 0 (p, 0, 0) (by omega) rfl ⟨h1, h2⟩ ⟨Nat.zero_le _, Nat.zero_le _⟩
end M8
end
section
/-! permutations of 1 .. s: iterates, home -/
def itr (g : Nat → Nat) : Nat → Nat → Nat
  | 0, p => p
  | m + 1, p => g (itr g m p)
def PermOn (g : Nat → Nat) (s : Nat) : Prop := (∀ p, 1 ≤ p → p ≤ s → 1 ≤ g p ∧ g p ≤ s) ∧ ∀ p q, 1 ≤ p → p ≤ s → 1 ≤ q → q ≤ s → g p = g q → p = q
theorem itr_in {g : Nat → Nat} {s p : Nat} (h : PermOn g s) (h1 : 1 ≤ p) (h2 : p ≤ s) : ∀ m, 1 ≤ itr g m p ∧ itr g m p ≤ s
  | 0 => ⟨h1, h2⟩
  | m + 1 => by
    have ih := itr_in h h1 h2 m
    exact h.1 _ ih.1 ih.2
theorem itr_add (g : Nat → Nat) (m p : Nat) : ∀ n, itr g (m + n) p = itr g n (itr g m p)
  | 0 => rfl
  | n + 1 => by
    show g (itr g (m + n) p) = g (itr g n (itr g m p))
    rw [itr_add g m p n]
theorem itr_succ' (g : Nat → Nat) (m p : Nat) : itr g (m + 1) p = itr g m (g p) := by
  rw [Nat.add_comm, itr_add]
  rfl
theorem itr_cancel {g : Nat → Nat} {s p q : Nat} (h : PermOn g s) (h1 : 1 ≤ p) (h2 : p ≤ s) (h3 : 1 ≤ q) (h4 : q ≤ s) : ∀ m, itr g m p = itr g m q → p = q
  | 0, e => e
  | m + 1, e => by
    have a := itr_in h h1 h2 m
    have b := itr_in h h3 h4 m
    exact itr_cancel h h1 h2 h3 h4 m (h.2 _ _ a.1 a.2 b.1 b.2 e)
theorem pigeon : ∀ (s : Nat) (f : Nat → Nat), (∀ a, a ≤ s → 1 ≤ f a ∧ f a ≤ s) → ∃ a b, a < b ∧ b ≤ s ∧ f a = f b
  | 0, f, h => by have := h 0 (Nat.le_refl _); omega
  | s + 1, f, h => by
    by_cases hv : ∃ a, a ≤ s ∧ f a = f (s + 1)
    · obtain ⟨a, ha, e⟩ := hv
      exact ⟨a, s + 1, by omega, Nat.le_refl _, e⟩
    · have hv' : ∀ a, a ≤ s → f a ≠ f (s + 1) := fun a ha e => hv ⟨a, ha, e⟩
      obtain ⟨a, b, hab, hb, e⟩ := pigeon s (fun a => if f a = s + 1 then f (s + 1) else f a) (fun a ha => by
        have h1 := h a (by omega)
        have h2 := h (s + 1) (Nat.le_refl _)
        have h3 := hv' a ha
        try dsimp only
        split <;> omega)
      refine ⟨a, b, hab, by omega, ?_⟩
      have h3 := hv' a (by omega)
      have h4 := hv' b hb
      try dsimp only at e
      split at e <;> split at e <;> omega
theorem itr_cyc {g : Nat → Nat} {s p : Nat} (h : PermOn g s) (h1 : 1 ≤ p) (h2 : p ≤ s) : ∃ k, 1 ≤ k ∧ k ≤ s ∧ itr g k p = p := by
  obtain ⟨a, b, hab, hb, e⟩ := pigeon s (fun a => itr g a p) (fun a _ => itr_in h h1 h2 a)
  refine ⟨b - a, by omega, by omega, ?_⟩
  have hi := itr_in h h1 h2 (b - a)
  refine (itr_cancel h h1 h2 hi.1 hi.2 a ?_).symm
  rw [← itr_add, show b - a + a = b by omega]
  exact e
theorem itr_mul {g : Nat → Nat} {k p : Nat} (h : itr g k p = p) : ∀ n, itr g (k * n) p = p
  | 0 => rfl
  | n + 1 => by
    rw [Nat.mul_succ, itr_add, itr_mul h n]
    exact h
theorem itr_420 {g : Nat → Nat} {s p : Nat} (h : PermOn g s) (hs : s ≤ 7) (h1 : 1 ≤ p) (h2 : p ≤ s) : itr g 420 p = p := by
  obtain ⟨k, hk1, hk2, e⟩ := itr_cyc h h1 h2
  rcases (show k = 1 ∨ k = 2 ∨ k = 3 ∨ k = 4 ∨ k = 5 ∨ k = 6 ∨ k = 7 by omega) with rfl | rfl | rfl | rfl | rfl | rfl | rfl
  · exact itr_mul e 420
  · exact itr_mul e 210
  · exact itr_mul e 140
  · exact itr_mul e 105
  · exact itr_mul e 84
  · exact itr_mul e 70
  · exact itr_mul e 60
def homeAt (g : Nat → Nat) (s m : Nat) : Prop := ∀ p, 1 ≤ p → p ≤ s → itr g m p = p
def isHome (g : Nat → Nat) (s m : Nat) : Prop := 1 ≤ m ∧ homeAt g s m ∧ ∀ m', 1 ≤ m' → m' < m → ¬ homeAt g s m'
theorem home_ex {g : Nat → Nat} {s : Nat} (h : PermOn g s) (hs : s ≤ 7) : ∃ m, m ≤ 420 ∧ isHome g s m := by
  obtain ⟨m, hm, hl⟩ := pk_least (fun m => 1 ≤ m ∧ homeAt g s m) ⟨420, by decide, fun p h1 h2 => itr_420 h hs h1 h2⟩
  refine ⟨m, ?_, hm.1, hm.2, fun m' h1 h2 h3 => hl m' h2 ⟨h1, h3⟩⟩
  rcases Nat.lt_or_ge 420 m with q | q
  · exact absurd ⟨by decide, fun p h1 h2 => itr_420 h hs h1 h2⟩ (hl 420 q)
  · exact q
theorem home_uniq {g : Nat → Nat} {s m m' : Nat} (h : isHome g s m) (h' : isHome g s m') : m = m' := by
  rcases Nat.lt_trichotomy m m' with q | q | q
  · exact absurd h.2.1 (h'.2.2 m h.1 q)
  · exact q
  · exact absurd h'.2.1 (h.2.2 m' h'.1 q)
theorem sw_inj {i x y : Nat} (h : sw i x = sw i y) : x = y := by
  have := congrArg (sw i) h
  rw [sw_sw, sw_sw] at this
  exact this
theorem gT_perm {c : Nat → Int32} {s z : Nat} (hs : s ≤ 7) (h : ∀ i, i < z → okC s (c i)) : PermOn (gT c z) s := by
  refine ⟨fun p h1 h2 => gT_in hs h1 h2 z h, fun p q _ _ _ _ e => ?_⟩
  have : ∀ n, gT c n p = gT c n q → p = q := by
    intro n
    induction n with
    | zero => exact fun e => e
    | succ n ih => exact fun e => ih (sw_inj e)
  exact this z e
/-- the least of the places through which p comes in n steps -/
def lst (g : Nat → Nat) (p : Nat) : Nat → Nat
  | 0 => p
  | n + 1 => min (lst g p n) (itr g (n + 1) p)
def isMin (g : Nat → Nat) (p : Nat) : Prop := ∀ k, p ≤ itr g k p
theorem lst_le (g : Nat → Nat) (p : Nat) : ∀ n, lst g p n ≤ p
  | 0 => Nat.le_refl _
  | n + 1 => Nat.le_trans (Nat.min_le_left _ _) (lst_le g p n)
theorem lst_min {g : Nat → Nat} {p : Nat} : ∀ n k, k ≤ n → lst g p n ≤ itr g k p
  | 0, k, h => by
    have : k = 0 := by omega
    subst this
    exact Nat.le_refl _
  | n + 1, k, h => by
    rcases Nat.lt_or_ge k (n + 1) with q | q
    · exact Nat.le_trans (Nat.min_le_left _ _) (lst_min n k (by omega))
    · have : k = n + 1 := by omega
      subst this
      exact Nat.min_le_right _ _
theorem lst_at {g : Nat → Nat} {p : Nat} : ∀ n, ∃ k, k ≤ n ∧ lst g p n = itr g k p
  | 0 => ⟨0, Nat.le_refl _, rfl⟩
  | n + 1 => by
    obtain ⟨k, hk, e⟩ := lst_at (g := g) (p := p) n
    rcases Nat.le_total (lst g p n) (itr g (n + 1) p) with q | q
    · exact ⟨k, by omega, by show min _ _ = _; rw [Nat.min_eq_left q]; exact e⟩
    · exact ⟨n + 1, Nat.le_refl _, by show min _ _ = _; rw [Nat.min_eq_right q]⟩
theorem itr_mod {g : Nat → Nat} {p k : Nat} (h : itr g k p = p) (n : Nat) : itr g n p = itr g (n % k) p := by
  have e := itr_add g (k * (n / k)) p (n % k)
  rw [itr_mul h, Nat.div_add_mod] at e
  exact e
theorem lst_isMin {g : Nat → Nat} {p k : Nat} (hk : 1 ≤ k) (h : itr g k p = p) : lst g p (k - 1) = p ↔ isMin g p := by
  constructor
  · intro e n
    rw [itr_mod h n]
    have := lst_min (g := g) (p := p) (k - 1) (n % k) (by have := Nat.mod_lt n (show k > 0 by omega); omega)
    omega
  · intro hm
    obtain ⟨q, -, e⟩ := lst_at (g := g) (p := p) (k - 1)
    have h1 := hm q
    have h2 := lst_le g p (k - 1)
    omega
noncomputable def rgN (g : Nat → Nat) : Nat → Nat
  | 0 => 0
  | p + 1 => rgN g p + @ite _ (isMin g (p + 1)) (Classical.propDecidable _) 1 0
theorem rgN_le (g : Nat → Nat) : ∀ p, rgN g p ≤ p
  | 0 => Nat.le_refl _
  | p + 1 => by
    have ih := rgN_le g p
    unfold rgN
    split <;> omega
end
section
/-! the reference: home, rings -/
section M9
variable (G : Gx) (h : Nat) (ad : Nat → Nat) (M : Mt) (R : Rt)
theorem c_home {j s z : Nat} (hj : j < 8) (hp : PatOK R j s z) : mI G h ad yX7_home cX7_home 5 .int 1 [.int (nI j)] M R (fun r M' R' => (∃ m, isHome (gT (rowOf R j) z) s m ∧ m ≤ 420 ∧ r = nI m) ∧ M' = M ∧ ∃ P, R' = va_up R 26 P) := by
  refine mI.intro (by decide) (Nat.le_of_ble_eq_true rfl) (cat1 (xs := [nI j])) fun X C hR => ?_
  obtain ⟨hs5, hs2, hs7, hz, hz3, hok⟩ := id hp
  obtain ⟨g, hg⟩ : ∃ g, g = gT (rowOf R j) z := ⟨_, rfl⟩
  have hperm : PermOn g s := by rw [hg]; exact gT_perm hs7 hok
  obtain ⟨H, hH4, hH⟩ := home_ex hperm hs7
  rw [← hg] at hR
  have hst : ∀ P : Nat → Int32, va_up R 26 P 5 j = nI s := fun P => hs5
  have outer : ∀ (f m : Nat) (P : Nat → Int32) (o4 : Option Value), m + f = H → (∀ q, 1 ≤ q → q ≤ s → P q = nI (itr g m q)) → ∀ is : Int32, ((m = H ∧ is = 1) ∨ (m < H ∧ is = 0)) → V X 0 0 33 [some (.ref h), some (.int (nI j)), some (.int (nI m)), some (.int is), o4] [] (mW G h ad M (va_up R 26 P)) := by
    intro f
    induction f with
    | zero =>
      intro m P o4 hm hP is his
      have hmH : m = H := by omega
      have hi1 : is = 1 := by rcases his with q | q <;> first | exact q.2 | omega
      subst hi1; subst hmH
      refine r_iload_n C dX7_home_33 rfl rfl ?_
      refine r_if_ne (tgt := 106) C dX7_home_34 (by decide) (fun c34 => ?_) (fun c34 => absurd c34 ((by decide)))
      refine r_iload_n C dX7_home_106 rfl rfl ?_
      exact hR _ _ _ _ _ rfl dX7_home_107 ⟨⟨m, hH, hH4, rfl⟩, rfl, P, rfl⟩
    | succ f ih =>
      intro m P o4 hm hP is his
      have hi0 : is = 0 := by rcases his with q | q <;> first | exact q.2 | omega
      subst hi0
      have inner : ∀ (f' p : Nat) (P : Nat → Int32) (is : Int32), p + f' = s + 1 → 1 ≤ p → (∀ q, 1 ≤ q → q < p → P q = nI (itr g (m + 1) q)) → (∀ q, p ≤ q → q ≤ s → P q = nI (itr g m q)) → ((is = 1 ∧ ∀ q, 1 ≤ q → q < p → itr g (m + 1) q = q) ∨ (is = 0 ∧ ∃ q, 1 ≤ q ∧ q < p ∧ itr g (m + 1) q ≠ q)) → V X 0 0 45 [some (.ref h), some (.int (nI j)), some (.int (nI (m + 1))), some (.int is), some (.int (nI p))] [] (mW G h ad M (va_up R 26 P)) := by
        intro f'
        induction f' with
        | zero =>
          intro p P is hpf hp1 hPa hPb his
          have hps : p = s + 1 := by omega
          subst hps
          have nx := ih (m + 1) P (some (.int (nI (s + 1)))) (by omega) (fun q h1 h2 => hPa q h1 (by omega)) is (by
            rcases his with ⟨e, q⟩ | ⟨e, q, q1, q2, q3⟩
            · left
              refine ⟨?_, e⟩
              rcases Nat.lt_or_ge (m + 1) H with w | w
              · exact absurd (fun p h1 h2 => q p h1 (by omega)) (hH.2.2 (m + 1) (by omega) w)
              · omega
            · right
              refine ⟨?_, e⟩
              rcases Nat.lt_or_ge (m + 1) H with w | w
              · exact w
              · exact absurd (hH.2.1 q q1 (by omega)) (by rw [show H = m + 1 by omega]; exact q3))
          refine r_iload C dX7_home_45 rfl ?_
          refine r_aload_n C dX7_home_47 rfl rfl ?_
          refine mg_straws C dX7_home_48 ?_
          refine r_iload_n C dX7_home_51 rfl rfl ?_
          refine ml_straws C dX7_home_52 (vp_in_nI hj (by decide)) ?_
          rw [nI_clamp (by omega), hst]
          refine r_icmp_gt (tgt := 103) C dX7_home_53 (by decide) (fun c53 => ?_) (fun c53 => absurd c53 ((fun q => q (nI_lt (by omega) (by omega)))))
          refine r_goto (tgt := 33) C dX7_home_103 (by decide) ?_
          exact nx
        | succ f' ih' =>
          intro p P is hpf hp1 hPa hPb his
          have hin := itr_in hperm hp1 (by omega : p ≤ s) m
          have hin1 := itr_in hperm hp1 (by omega : p ≤ s) (m + 1)
          have hgg : gT (rowOf R j) z (itr g m p) = itr g (m + 1) p := by rw [← hg]; rfl
          have nx : ∀ is' : Int32, ((is' = 1 ∧ ∀ q, 1 ≤ q → q < p + 1 → itr g (m + 1) q = q) ∨ (is' = 0 ∧ ∃ q, 1 ≤ q ∧ q < p + 1 ∧ itr g (m + 1) q ≠ q)) → V X 0 0 97 [some (.ref h), some (.int (nI j)), some (.int (nI (m + 1))), some (.int is'), some (.int (nI p))] [] (mW G h ad M (va_up R 26 (upd P p (nI (itr g (m + 1) p))))) := by
            intro is' his'
            refine r_iinc (v := _ + 1) C dX7_home_97 rfl (by rfl) (by decide) ?_
            rw [nI_1]
            refine r_goto (tgt := 45) C dX7_home_100 (by decide) ?_
            exact ih' (p + 1) (upd P p (nI (itr g (m + 1) p))) is' (by omega) (by omega) (fun q h1 h2 => by
              by_cases e : q = p
              · subst e; exact pk_us
              · rw [pk_un e]; exact hPa q h1 (by omega)) (fun q h1 h2 => by rw [pk_un (by omega)]; exact hPb q (by omega) h2) his'
          refine r_iload C dX7_home_45 rfl ?_
          refine r_aload_n C dX7_home_47 rfl rfl ?_
          refine mg_straws C dX7_home_48 ?_
          refine r_iload_n C dX7_home_51 rfl rfl ?_
          refine ml_straws C dX7_home_52 (vp_in_nI hj (by decide)) ?_
          rw [nI_clamp (by omega), hst]
          refine r_icmp_gt (tgt := 103) C dX7_home_53 (by decide) (fun c53 => absurd c53 ((nI_nlt (by omega) (by omega)))) (fun c53 => ?_)
          refine r_aload_n C dX7_home_56 rfl rfl ?_
          refine mg_place C dX7_home_57 ?_
          refine r_iload C dX7_home_60 rfl ?_
          refine r_aload_n C dX7_home_62 rfl rfl ?_
          refine r_iload_n C dX7_home_63 rfl rfl ?_
          refine r_aload_n C dX7_home_64 rfl rfl ?_
          refine mg_place C dX7_home_65 ?_
          refine r_iload C dX7_home_68 rfl ?_
          refine ml_place C dX7_home_70 (vp_in_nI (show p < 8 by omega) (by decide)) ?_
          rw [nI_clamp (by omega)]
          show V X 0 0 71 _ (.int (P p) :: _) _
          rw [hPb p (Nat.le_refl _) (by omega)]
          refine m_calli C (c_goesTo G h ad M (va_up R 26 P) hj (s := s) (z := z) hp hin.1 hin.2) kM_goesTo dX7_home_71 rfl (by decide) (by decide) (by decide) (Nat.le_of_ble_eq_true rfl) rfl rfl (fun r M1 R1 hq => ?_)
          obtain ⟨rfl, rfl, rfl⟩ := hq
          rw [show rowOf (va_up R 26 P) j = rowOf R j from rfl, hgg]
          refine ms_place C dX7_home_74 (vp_in_nI (show p < 8 by omega) (by decide)) ?_
          rw [nI_clamp (by omega)]
          show V X 0 0 75 _ _ (mW G h ad _ (va_up (va_up R 26 P) 26 (upd P p (nI (itr g (m + 1) p)))))
          rw [up_up]
          refine r_iload_n C dX7_home_75 rfl rfl ?_
          refine r_if_eq (tgt := 95) C dX7_home_76 (by decide) (fun c76 => ?_) (fun c76 => ?_)
          · refine r_iconst (v := 0) C dX7_home_95 (by decide) ?_
            refine r_istore_n C dX7_home_96 rfl (by decide) ?_
            first
              | exact nx 0 (Or.inr ⟨rfl, p, hp1, by omega, fun e => c88 (by rw [e])⟩)
              | exact nx 0 (Or.inr ⟨rfl, by rcases his with ⟨e, -⟩ | ⟨-, q, q1, q2, q3⟩; exact absurd (e ▸ c76) (by decide); exact ⟨q, q1, by omega, q3⟩⟩)
              | exact nx 1 (Or.inl ⟨rfl, fun q h1 h2 => by
                  rcases his with ⟨-, e⟩ | ⟨e, -⟩
                  · by_cases e2 : q = p
                    · subst e2; exact c88
                    · exact e q h1 (by omega)
                  · exact absurd e c76⟩)
          · refine r_aload_n C dX7_home_79 rfl rfl ?_
            refine mg_place C dX7_home_80 ?_
            refine r_iload C dX7_home_83 rfl ?_
            refine ml_place C dX7_home_85 (vp_in_nI (show p < 8 by omega) (by decide)) ?_
            rw [nI_clamp (by omega)]
            show V X 0 0 86 _ [.int (upd P p (nI (itr g (m + 1) p)) p)] _
            rw [pk_us]
            refine r_iload C dX7_home_86 rfl ?_
            refine r_icmp_ne (tgt := 95) C dX7_home_88 (by decide) (fun c88 => ?_) (fun c88 => ?_)
            · refine r_iconst (v := 0) C dX7_home_95 (by decide) ?_
              refine r_istore_n C dX7_home_96 rfl (by decide) ?_
              first
                | exact nx 0 (Or.inr ⟨rfl, p, hp1, by omega, fun e => c88 (by rw [e])⟩)
                | exact nx 0 (Or.inr ⟨rfl, by rcases his with ⟨e, -⟩ | ⟨-, q, q1, q2, q3⟩; exact absurd (e ▸ c76) (by decide); exact ⟨q, q1, by omega, q3⟩⟩)
                | exact nx 1 (Or.inl ⟨rfl, fun q h1 h2 => by
                    rcases his with ⟨-, e⟩ | ⟨e, -⟩
                    · by_cases e2 : q = p
                      · subst e2; exact c88
                      · exact e q h1 (by omega)
                    · exact absurd e c76⟩)
            · rw [nI_eq (by omega) (by omega)] at c88
              refine r_iconst (v := 1) C dX7_home_91 (by decide) ?_
              refine r_goto (tgt := 96) C dX7_home_92 (by decide) ?_
              refine r_istore_n C dX7_home_96 rfl (by decide) ?_
              first
                | exact nx 0 (Or.inr ⟨rfl, p, hp1, by omega, fun e => c88 (by rw [e])⟩)
                | exact nx 0 (Or.inr ⟨rfl, by rcases his with ⟨e, -⟩ | ⟨-, q, q1, q2, q3⟩; exact absurd (e ▸ c76) (by decide); exact ⟨q, q1, by omega, q3⟩⟩)
                | exact nx 1 (Or.inl ⟨rfl, fun q h1 h2 => by
                    rcases his with ⟨-, e⟩ | ⟨e, -⟩
                    · by_cases e2 : q = p
                      · subst e2; exact c88
                      · exact e q h1 (by omega)
                    · exact absurd e c76⟩)
      refine r_iload_n C dX7_home_33 rfl rfl ?_
      refine r_if_ne (tgt := 106) C dX7_home_34 (by decide) (fun c34 => absurd c34 ((fun q => q rfl))) (fun c34 => ?_)
      refine r_iinc (v := _ + 1) C dX7_home_37 rfl (by rfl) (by decide) ?_
      rw [nI_1]
      refine r_iconst (v := 1) C dX7_home_40 (by decide) ?_
      refine r_istore_n C dX7_home_41 rfl (by decide) ?_
      refine r_iconst (v := 1) C dX7_home_42 (by decide) ?_
      refine r_istore C dX7_home_43 (by decide) ?_
      exact inner s 1 P 1 (by omega) (Nat.le_refl _) (fun q h1 h2 => by omega) (fun q h1 h2 => hP q h1 h2) (Or.inl ⟨rfl, fun q h1 h2 => by omega⟩)
  have init : ∀ (f p : Nat) (P : Nat → Int32), p + f = s + 1 → 1 ≤ p → (∀ q, 1 ≤ q → q < p → P q = nI q) → V X 0 0 7 [some (.ref h), some (.int (nI j)), some (.int 0), some (.int 0), some (.int (nI p))] [] (mW G h ad M (va_up R 26 P)) := by
    intro f
    induction f with
    | zero =>
      intro p P hpf hp1 hP
      have hps : p = s + 1 := by omega
      subst hps
      refine r_iload C dX7_home_7 rfl ?_
      refine r_aload_n C dX7_home_9 rfl rfl ?_
      refine mg_straws C dX7_home_10 ?_
      refine r_iload_n C dX7_home_13 rfl rfl ?_
      refine ml_straws C dX7_home_14 (vp_in_nI hj (by decide)) ?_
      rw [nI_clamp (by omega), hst]
      refine r_icmp_gt (tgt := 33) C dX7_home_15 (by decide) (fun c15 => ?_) (fun c15 => absurd c15 ((fun q => q (nI_lt (by omega) (by omega)))))
      exact outer H 0 P _ (by omega) (fun q h1 h2 => hP q h1 (by omega)) 0 (Or.inr ⟨hH.1, rfl⟩)
    | succ f ih =>
      intro p P hpf hp1 hP
      refine r_iload C dX7_home_7 rfl ?_
      refine r_aload_n C dX7_home_9 rfl rfl ?_
      refine mg_straws C dX7_home_10 ?_
      refine r_iload_n C dX7_home_13 rfl rfl ?_
      refine ml_straws C dX7_home_14 (vp_in_nI hj (by decide)) ?_
      rw [nI_clamp (by omega), hst]
      refine r_icmp_gt (tgt := 33) C dX7_home_15 (by decide) (fun c15 => absurd c15 ((nI_nlt (by omega) (by omega)))) (fun c15 => ?_)
      refine r_aload_n C dX7_home_18 rfl rfl ?_
      refine mg_place C dX7_home_19 ?_
      refine r_iload C dX7_home_22 rfl ?_
      refine r_iload C dX7_home_24 rfl ?_
      refine ms_place C dX7_home_26 (vp_in_nI (show p < 8 by omega) (by decide)) ?_
      rw [nI_clamp (by omega)]
      show V X 0 0 27 _ _ (mW G h ad _ (va_up (va_up R 26 P) 26 (upd P p (nI p))))
      rw [up_up]
      refine r_iinc (v := _ + 1) C dX7_home_27 rfl (by rfl) (by decide) ?_
      rw [nI_1]
      refine r_goto (tgt := 7) C dX7_home_30 (by decide) ?_
      exact ih (p + 1) (upd P p (nI p)) (by omega) (by omega) (fun q h1 h2 => by
        by_cases e : q = p
        · subst e; exact pk_us
        · rw [pk_un e]; exact hP q h1 (by omega))
  have q0 := init s 1 (R 26) (by omega) (Nat.le_refl _) (fun q h1 h2 => by omega)
  rw [up_same rfl] at q0
  refine r_iconst (v := 0) C dX7_home_0 (by decide) ?_
  refine r_istore_n C dX7_home_1 rfl (by decide) ?_
  refine r_iconst (v := 0) C dX7_home_2 (by decide) ?_
  refine r_istore_n C dX7_home_3 rfl (by decide) ?_
  refine r_iconst (v := 1) C dX7_home_4 (by decide) ?_
  refine r_istore C dX7_home_5 (by decide) ?_
  exact q0
theorem c_rings {j s z : Nat} (hj : j < 8) (hp : PatOK R j s z) : mI G h ad yX7_rings cX7_rings 6 .int 1 [.int (nI j)] M R (fun r M' R' => r = nI (rgN (gT (rowOf R j) z) s) ∧ M' = M ∧ R' = R) := by
  refine mI.intro (by decide) (Nat.le_of_ble_eq_true rfl) (cat1 (xs := [nI j])) fun X C hR => ?_
  obtain ⟨hs5, hs2, hs7, hz, hz3, hok⟩ := id hp
  obtain ⟨g, hg⟩ : ∃ g, g = gT (rowOf R j) z := ⟨_, rfl⟩
  have hperm : PermOn g s := by rw [hg]; exact gT_perm hs7 hok
  rw [← hg] at hR
  have key : ∀ (f p : Nat) (o4 o5 : Option Value), p + f = s → V X 0 0 4 [some (.ref h), some (.int (nI j)), some (.int (nI (rgN g p))), some (.int (nI (p + 1))), o4, o5] [] (mW G h ad M R) := by
    intro f
    induction f with
    | zero =>
      intro p o4 o5 hpf
      have hps : p = s := by omega
      subst hps
      refine r_iload_n C dX7_rings_4 rfl rfl ?_
      refine r_aload_n C dX7_rings_5 rfl rfl ?_
      refine mg_straws C dX7_rings_6 ?_
      refine r_iload_n C dX7_rings_9 rfl rfl ?_
      refine ml_straws C dX7_rings_10 (vp_in_nI hj (by decide)) ?_
      rw [nI_clamp (by omega), hs5]
      refine r_icmp_gt (tgt := 74) C dX7_rings_11 (by decide) (fun c11 => ?_) (fun c11 => absurd c11 ((fun q => q (nI_lt (by omega) (by omega)))))
      refine r_iload_n C dX7_rings_74 rfl rfl ?_
      exact hR _ _ _ _ _ rfl dX7_rings_75 ⟨rfl, rfl, rfl⟩
    | succ f ih =>
      intro p o4 o5 hpf
      have hrg := rgN_le g p
      obtain ⟨k, hk, hkl⟩ := pk_least (fun k => 1 ≤ k ∧ itr g k (p + 1) = p + 1) (by
        obtain ⟨k, a, -, b⟩ := itr_cyc hperm (show 1 ≤ p + 1 by omega) (by omega)
        exact ⟨k, a, b⟩)
      have nx := fun o4 o5 => ih (p + 1) o4 o5 (by omega)
      have hrs : rgN g (p + 1) = rgN g p + @ite _ (isMin g (p + 1)) (Classical.propDecidable _) 1 0 := rfl
      have inner : ∀ (f' n : Nat), n + f' = k → 1 ≤ n → V X 0 0 25 [some (.ref h), some (.int (nI j)), some (.int (nI (rgN g p))), some (.int (nI (p + 1))), some (.int (nI (lst g (p + 1) (n - 1)))), some (.int (nI (itr g n (p + 1))))] [] (mW G h ad M R) := by
        intro f'
        induction f' with
        | zero =>
          intro n hn hn1
          have hnk : n = k := by omega
          subst hnk
          have hl1 := lst_le g (p + 1) (n - 1)
          rw [hk.2]
          refine r_iload C dX7_rings_25 rfl ?_
          refine r_iload_n C dX7_rings_27 rfl rfl ?_
          refine r_icmp_eq (tgt := 59) C dX7_rings_28 (by decide) (fun c28 => ?_) (fun c28 => absurd c28 ((fun q => q rfl)))
          refine r_iload C dX7_rings_59 rfl ?_
          refine r_iload_n C dX7_rings_61 rfl rfl ?_
          refine r_icmp_ne (tgt := 68) C dX7_rings_62 (by decide) (fun c62 => ?_) (fun c62 => ?_)
          · try rw [nI_1]
            refine r_iinc (v := _ + 1) C dX7_rings_68 rfl (by rfl) (by decide) ?_
            rw [nI_1]
            refine r_goto (tgt := 4) C dX7_rings_71 (by decide) ?_
            first
              | (rw [hrs] at nx; exact nx _ _)
              | (rw [nI_eq (by omega) (by omega)] at c62; rw [if_neg (fun e => c62 ((lst_isMin hn1 hk.2).mpr e))] at hrs; rw [hrs] at nx; exact nx _ _)
          · rw [nI_eq (by omega) (by omega)] at c62
            rw [if_pos ((lst_isMin hn1 hk.2).mp c62)] at hrs
            refine r_iinc (v := _ + 1) C dX7_rings_65 rfl (by rfl) (by decide) ?_
            try rw [nI_1]
            refine r_iinc (v := _ + 1) C dX7_rings_68 rfl (by rfl) (by decide) ?_
            rw [nI_1]
            refine r_goto (tgt := 4) C dX7_rings_71 (by decide) ?_
            first
              | (rw [hrs] at nx; exact nx _ _)
              | (rw [nI_eq (by omega) (by omega)] at c62; rw [if_neg (fun e => c62 ((lst_isMin hn1 hk.2).mpr e))] at hrs; rw [hrs] at nx; exact nx _ _)
        | succ f' ih' =>
          intro n hn hn1
          have hne : itr g n (p + 1) ≠ p + 1 := fun e => hkl n (by omega) ⟨hn1, e⟩
          have hin := itr_in hperm (show 1 ≤ p + 1 by omega) (show p + 1 ≤ s by omega) n
          have hl1 := lst_le g (p + 1) (n - 1)
          have hls : lst g (p + 1) n = min (lst g (p + 1) (n - 1)) (itr g n (p + 1)) := by
            have : n = (n - 1) + 1 := by omega
            rw [this]
            rfl
          have hgg : gT (rowOf R j) z (itr g n (p + 1)) = itr g (n + 1) (p + 1) := by rw [← hg]; rfl
          have nx2 := ih' (n + 1) (by omega) (by omega)
          rw [Nat.add_sub_cancel, hls] at nx2
          refine r_iload C dX7_rings_25 rfl ?_
          refine r_iload_n C dX7_rings_27 rfl rfl ?_
          refine r_icmp_eq (tgt := 59) C dX7_rings_28 (by decide) (fun c28 => absurd c28 ((fun e => hne ((nI_eq (by omega) (by omega)).mp e)))) (fun c28 => ?_)
          refine r_iload C dX7_rings_31 rfl ?_
          refine r_iload C dX7_rings_33 rfl ?_
          refine r_icmp_ge (tgt := 43) C dX7_rings_35 (by decide) (fun c35 => ?_) (fun c35 => ?_)
          · rw [nI_leI (by omega) (by omega)] at c35
            rw [Nat.min_eq_left (by omega)] at nx2
            refine r_iload C dX7_rings_43 rfl ?_
            refine r_istore C dX7_rings_45 (by decide) ?_
            refine r_aload_n C dX7_rings_47 rfl rfl ?_
            refine r_iload_n C dX7_rings_48 rfl rfl ?_
            refine r_iload C dX7_rings_49 rfl ?_
            refine m_calli C (c_goesTo G h ad M R hj (s := s) (z := z) hp hin.1 hin.2) kM_goesTo dX7_rings_51 rfl (by decide) (by decide) (by decide) (Nat.le_of_ble_eq_true rfl) rfl rfl (fun r M1 R1 hq => ?_)
            obtain ⟨rfl, rfl, rfl⟩ := hq
            rw [hgg]
            refine r_istore C dX7_rings_54 (by decide) ?_
            refine r_goto (tgt := 25) C dX7_rings_56 (by decide) ?_
            exact nx2
          · rw [nI_leI (by omega) (by omega)] at c35
            rw [Nat.min_eq_right (by omega)] at nx2
            refine r_iload C dX7_rings_38 rfl ?_
            refine r_goto (tgt := 45) C dX7_rings_40 (by decide) ?_
            refine r_istore C dX7_rings_45 (by decide) ?_
            refine r_aload_n C dX7_rings_47 rfl rfl ?_
            refine r_iload_n C dX7_rings_48 rfl rfl ?_
            refine r_iload C dX7_rings_49 rfl ?_
            refine m_calli C (c_goesTo G h ad M R hj (s := s) (z := z) hp hin.1 hin.2) kM_goesTo dX7_rings_51 rfl (by decide) (by decide) (by decide) (Nat.le_of_ble_eq_true rfl) rfl rfl (fun r M1 R1 hq => ?_)
            obtain ⟨rfl, rfl, rfl⟩ := hq
            rw [hgg]
            refine r_istore C dX7_rings_54 (by decide) ?_
            refine r_goto (tgt := 25) C dX7_rings_56 (by decide) ?_
            exact nx2
      have hg1 : gT (rowOf R j) z (p + 1) = itr g 1 (p + 1) := by rw [← hg]; rfl
      refine r_iload_n C dX7_rings_4 rfl rfl ?_
      refine r_aload_n C dX7_rings_5 rfl rfl ?_
      refine mg_straws C dX7_rings_6 ?_
      refine r_iload_n C dX7_rings_9 rfl rfl ?_
      refine ml_straws C dX7_rings_10 (vp_in_nI hj (by decide)) ?_
      rw [nI_clamp (by omega), hs5]
      refine r_icmp_gt (tgt := 74) C dX7_rings_11 (by decide) (fun c11 => absurd c11 ((nI_nlt (by omega) (by omega)))) (fun c11 => ?_)
      refine r_iload_n C dX7_rings_14 rfl rfl ?_
      refine r_istore C dX7_rings_15 (by decide) ?_
      refine r_aload_n C dX7_rings_17 rfl rfl ?_
      refine r_iload_n C dX7_rings_18 rfl rfl ?_
      refine r_iload_n C dX7_rings_19 rfl rfl ?_
      refine m_calli C (c_goesTo G h ad M R hj (s := s) (z := z) hp (by omega) (by omega)) kM_goesTo dX7_rings_20 rfl (by decide) (by decide) (by decide) (Nat.le_of_ble_eq_true rfl) rfl rfl (fun r M1 R1 hq => ?_)
      obtain ⟨rfl, rfl, rfl⟩ := hq
      rw [hg1]
      refine r_istore C dX7_rings_23 (by decide) ?_
      exact inner (k - 1) 1 (by omega) (Nat.le_refl _)
  refine r_iconst (v := 0) C dX7_rings_0 (by decide) ?_
  refine r_istore_n C dX7_rings_1 rfl (by decide) ?_
  refine r_iconst (v := 1) C dX7_rings_2 (by decide) ?_
  refine r_istore_n C dX7_rings_3 rfl (by decide) ?_
  exact key s 0 _ _ (by omega)
end M9
end
section
/-! the reference: holds, twine, goes, use -/
def thereIs (c : Nat → Int32) (z i : Nat) : Prop := ∃ j, j < z ∧ (c j = nI i ∨ c j = -nI i)
def HoldsP (c : Nat → Int32) (z s : Nat) : Prop := (∀ i, 1 ≤ i → i < s → thereIs c z i) ∧ ∃ m, isHome (gT c z) s m ∧ ∀ p, 1 ≤ p → p ≤ s → itR (itt c z p m) = 1
theorem itR_01 (o : Option ItT) : itR o = 1 ∨ itR o = 0 := by
  cases o with
  | none => exact Or.inr rfl
  | some q =>
    show (if q.2.1 = 0 ∨ q.2.1 ≠ q.2.2 then (1 : Int32) else 0) = 1 ∨ _
    by_cases e : q.2.1 = 0 ∨ q.2.1 ≠ q.2.2
    · exact Or.inl (if_pos e)
    · exact Or.inr (if_neg e)
abbrev TwT : Type := Nat × Nat × Int32
def twS (cv : Int32) (q : TwT) : TwT := (sw (ai cv) q.1, sw (ai cv) q.2.1, if (q.1 = ai cv ∨ q.1 = ai cv + 1) ∧ (q.2.1 = ai cv ∨ q.2.1 = ai cv + 1) then q.2.2 + (if 0 < cv then 1 else -1) else q.2.2)
def twj (c : Nat → Int32) (q : TwT) : Nat → TwT
  | 0 => q
  | j + 1 => twS (c j) (twj c q j)
def twt (c : Nat → Int32) (z a b : Nat) : Nat → TwT
  | 0 => (a, b, 0)
  | t + 1 => twj c (twt c z a b t) z
theorem twj_in {c : Nat → Int32} {q : TwT} {s : Nat} (hs : s ≤ 7) (h1 : 1 ≤ q.1 ∧ q.1 ≤ s) (h2 : 1 ≤ q.2.1 ∧ q.2.1 ≤ s) : ∀ j, (∀ i, i < j → okC s (c i)) → (1 ≤ (twj c q j).1 ∧ (twj c q j).1 ≤ s) ∧ 1 ≤ (twj c q j).2.1 ∧ (twj c q j).2.1 ≤ s
  | 0, _ => ⟨h1, h2⟩
  | j + 1, h => by
    have ih := twj_in (c := c) hs h1 h2 j (fun i hi => h i (by omega))
    have ha := okC_ai (h j (by omega)) hs
    exact ⟨sw_in ha.1 ha.2 ih.1.1 ih.1.2, sw_in ha.1 ha.2 ih.2.1 ih.2.2⟩
theorem twt_in {c : Nat → Int32} {z a b s : Nat} (hs : s ≤ 7) (h1 : 1 ≤ a ∧ a ≤ s) (h2 : 1 ≤ b ∧ b ≤ s) (h : ∀ i, i < z → okC s (c i)) : ∀ t, (1 ≤ (twt c z a b t).1 ∧ (twt c z a b t).1 ≤ s) ∧ 1 ≤ (twt c z a b t).2.1 ∧ (twt c z a b t).2.1 ≤ s
  | 0 => ⟨h1, h2⟩
  | t + 1 => by
    have ih := twt_in hs h1 h2 h t
    exact twj_in hs ih.1 ih.2 z h
section M10
variable (G : Gx) (h : Nat) (ad : Nat → Nat) (M : Mt) (R : Rt)
theorem c_holds {j s z : Nat} (hj : j < 8) (hp : PatOK R j s z) : mI G h ad yX7_holds cX7_holds 6 .boolean 2 [.int (nI j)] M R (fun r M' R' => ((r = 1 ∧ HoldsP (rowOf R j) z s) ∨ (r = 0 ∧ ¬ HoldsP (rowOf R j) z s)) ∧ M' = M ∧ ∃ P, R' = va_up R 26 P) := by
  refine mI.intro (by decide) (Nat.le_of_ble_eq_true rfl) (cat1 (xs := [nI j])) fun X C hR => ?_
  obtain ⟨hs5, hs2, hs7, hz, hz3, hok⟩ := id hp
  obtain ⟨c, hc⟩ : ∃ c, c = rowOf R j := ⟨_, rfl⟩
  have hrow : ∀ (i : Nat), R 7 (300 * j + i) = c i := fun i => by rw [hc]; rfl
  rw [← hc] at hR hok
  have loop2 : ∀ (m : Nat) (P : Nat → Int32), isHome (gT c z) s m → m ≤ 420 → (∀ i, 1 ≤ i → i < s → thereIs c z i) → ∀ (f p : Nat) (is : Int32) (o5 : Option Value), p + f = s + 1 → 1 ≤ p → ((is = 1 ∧ ∀ q, 1 ≤ q → q < p → itR (itt c z q m) = 1) ∨ (is = 0 ∧ ¬ HoldsP c z s)) → V X 0 0 122 [some (.ref h), some (.int (nI j)), some (.int is), some (.int (nI m)), some (.int (nI p)), o5] [] (mW G h ad M (va_up R 26 P)) := by
    intro m P hm hm4 hall f
    induction f with
    | zero =>
      intro p is o5 hpf hp1 his
      have hps : p = s + 1 := by omega
      subst hps
      have hfin : (is = 1 ∧ HoldsP c z s) ∨ (is = 0 ∧ ¬ HoldsP c z s) := by
        rcases his with ⟨e, q⟩ | q
        · exact Or.inl ⟨e, hall, m, hm, fun p h1 h2 => q p h1 (by omega)⟩
        · exact Or.inr q
      refine r_iload C dX7_holds_122 rfl ?_
      refine r_aload_n C dX7_holds_124 rfl rfl ?_
      refine mg_straws C dX7_holds_125 ?_
      refine r_iload_n C dX7_holds_128 rfl rfl ?_
      refine ml_straws C dX7_holds_129 (vp_in_nI hj (by decide)) ?_
      rw [nI_clamp (by omega), show va_up R 26 P 5 j = nI s from hs5]
      refine r_icmp_gt (tgt := 152) C dX7_holds_130 (by decide) (fun c130 => ?_) (fun c130 => absurd c130 ((fun q => q (nI_lt (by omega) (by omega)))))
      refine r_iload_n C dX7_holds_152 rfl rfl ?_
      exact hR _ _ _ _ _ (by rcases hfin with q | q <;> rw [q.1] <;> rfl) dX7_holds_153 ⟨hfin, rfl, P, rfl⟩
    | succ f ih =>
      intro p is o5 hpf hp1 his
      refine r_iload C dX7_holds_122 rfl ?_
      refine r_aload_n C dX7_holds_124 rfl rfl ?_
      refine mg_straws C dX7_holds_125 ?_
      refine r_iload_n C dX7_holds_128 rfl rfl ?_
      refine ml_straws C dX7_holds_129 (vp_in_nI hj (by decide)) ?_
      rw [nI_clamp (by omega), show va_up R 26 P 5 j = nI s from hs5]
      refine r_icmp_gt (tgt := 152) C dX7_holds_130 (by decide) (fun c130 => absurd c130 ((nI_nlt (by omega) (by omega)))) (fun c130 => ?_)
      refine r_iload_n C dX7_holds_133 rfl rfl ?_
      refine r_if_eq (tgt := 152) C dX7_holds_134 (by decide) (fun c134 => ?_) (fun c134 => ?_)
      · refine r_iload_n C dX7_holds_152 rfl rfl ?_
        exact hR _ _ _ _ _ (by rw [c134]; rfl) dX7_holds_153 ⟨Or.inr ⟨c134, by rcases his with q | q; exact absurd (q.1.symm.trans c134) (by decide); exact q.2⟩, rfl, P, rfl⟩
      · refine r_aload_n C dX7_holds_137 rfl rfl ?_
        refine r_iload_n C dX7_holds_138 rfl rfl ?_
        refine r_iload C dX7_holds_139 rfl ?_
        refine r_iload_n C dX7_holds_141 rfl rfl ?_
        refine m_calli C (c_isInTurn G h ad M (va_up R 26 P) hj (s := s) (z := z) (m := m) hp hp1 (by omega) (by omega)) kM_isInTurn dX7_holds_142 rfl (by decide) (by decide) (by decide) (Nat.le_of_ble_eq_true rfl) rfl rfl (fun r M1 R1 hq => ?_)
        obtain ⟨hr, rfl, rfl⟩ := hq
        rw [show rowOf (va_up R 26 P) j = c from hc.symm] at hr
        refine r_istore_n C dX7_holds_145 rfl (by decide) ?_
        refine r_iinc (v := _ + 1) C dX7_holds_146 rfl (by rfl) (by decide) ?_
        rw [nI_1]
        refine r_goto (tgt := 122) C dX7_holds_149 (by decide) ?_
        exact ih (p + 1) _ _ (by omega) (by omega) (by
          rcases his with ⟨e, q⟩ | ⟨e, -⟩
          · rcases itR_01 (itt c z p m) with w | w
            · exact Or.inl ⟨by rw [hr, w], fun q' h1 h2 => by
                by_cases e2 : q' = p
                · subst e2; exact w
                · exact q q' h1 (by omega)⟩
            · exact Or.inr ⟨by rw [hr, w], fun ⟨_, m', hm', hq'⟩ => by
                have := home_uniq hm hm'
                subst this
                exact absurd ((hq' p hp1 (by omega)).symm.trans w) (by decide)⟩
          · exact absurd e c134)
  have loop1 : ∀ (f i : Nat) (is : Int32) (o4 o5 : Option Value), i + f = s → 1 ≤ i → ((is = 1 ∧ ∀ q, 1 ≤ q → q < i → thereIs c z q) ∨ (is = 0 ∧ ∃ q, 1 ≤ q ∧ q < s ∧ ¬ thereIs c z q)) → V X 0 0 4 [some (.ref h), some (.int (nI j)), some (.int is), some (.int (nI i)), o4, o5] [] (mW G h ad M R) := by
    intro f
    induction f with
    | zero =>
      intro i is o4 o5 hif hi1 his
      have his2 : i = s := by omega
      subst his2
      have jz : is = 0 → ∀ o5, V X 0 0 122 [some (.ref h), some (.int (nI j)), some (.int is), some (.int 0), some (.int 1), o5] [] (mW G h ad M R) := by
        intro e o5
        subst e
        have hnot : ¬ HoldsP c z i := his.elim (fun q => absurd q.1 (by decide)) (fun ⟨_, q, q1, q2, q3⟩ w => q3 (w.1 q q1 q2))
        refine r_iload C dX7_holds_122 rfl ?_
        refine r_aload_n C dX7_holds_124 rfl rfl ?_
        refine mg_straws C dX7_holds_125 ?_
        refine r_iload_n C dX7_holds_128 rfl rfl ?_
        refine ml_straws C dX7_holds_129 (vp_in_nI hj (by decide)) ?_
        rw [nI_clamp (by omega), hs5]
        refine r_icmp_gt (tgt := 152) C dX7_holds_130 (by decide) (fun c130 => ?_) (fun c130 => ?_)
        · refine r_iload_n C dX7_holds_152 rfl rfl ?_
          exact hR _ _ _ _ _ rfl dX7_holds_153 ⟨Or.inr ⟨rfl, hnot⟩, rfl, R 26, (up_same rfl).symm⟩
        · refine r_iload_n C dX7_holds_133 rfl rfl ?_
          refine r_if_eq (tgt := 152) C dX7_holds_134 (by decide) (fun c134 => ?_) (fun c134 => absurd c134 ((fun q => q rfl)))
          refine r_iload_n C dX7_holds_152 rfl rfl ?_
          exact hR _ _ _ _ _ rfl dX7_holds_153 ⟨Or.inr ⟨rfl, hnot⟩, rfl, R 26, (up_same rfl).symm⟩
      refine r_iload_n C dX7_holds_4 rfl rfl ?_
      refine r_aload_n C dX7_holds_5 rfl rfl ?_
      refine mg_straws C dX7_holds_6 ?_
      refine r_iload_n C dX7_holds_9 rfl rfl ?_
      refine ml_straws C dX7_holds_10 (vp_in_nI hj (by decide)) ?_
      rw [nI_clamp (by omega), hs5]
      refine r_icmp_ge (tgt := 105) C dX7_holds_11 (by decide) (fun c11 => ?_) (fun c11 => absurd c11 ((fun q => q (nI_le (by omega) (by omega)))))
      refine r_iload_n C dX7_holds_105 rfl rfl ?_
      refine r_if_eq (tgt := 117) C dX7_holds_106 (by decide) (fun c106 => ?_) (fun c106 => ?_)
      · refine r_iconst (v := 0) C dX7_holds_117 (by decide) ?_
        refine r_istore_n C dX7_holds_118 rfl (by decide) ?_
        refine r_iconst (v := 1) C dX7_holds_119 (by decide) ?_
        refine r_istore C dX7_holds_120 (by decide) ?_
        first
          | exact loop2 m P hm hm4 (by rcases his with q | q; exact q.2; exact absurd q.1 c106) i 1 is _ (by omega) (Nat.le_refl _) (Or.inl ⟨by rcases his with q | q; exact q.1; exact absurd q.1 c106, fun q h1 h2 => by omega⟩)
          | exact jz c106 _
      · refine r_aload_n C dX7_holds_109 rfl rfl ?_
        refine r_iload_n C dX7_holds_110 rfl rfl ?_
        refine m_calli C (c_home G h ad M R hj hp) kM_home dX7_holds_111 rfl (by decide) (by decide) (by decide) (Nat.le_of_ble_eq_true rfl) rfl rfl (fun r M1 R1 hq => ?_)
        obtain ⟨⟨m, hm, hm4, rfl⟩, rfl, P, rfl⟩ := hq
        rw [← hc] at hm
        refine r_goto (tgt := 118) C dX7_holds_114 (by decide) ?_
        refine r_istore_n C dX7_holds_118 rfl (by decide) ?_
        refine r_iconst (v := 1) C dX7_holds_119 (by decide) ?_
        refine r_istore C dX7_holds_120 (by decide) ?_
        first
          | exact loop2 m P hm hm4 (by rcases his with q | q; exact q.2; exact absurd q.1 c106) i 1 is _ (by omega) (Nat.le_refl _) (Or.inl ⟨by rcases his with q | q; exact q.1; exact absurd q.1 c106, fun q h1 h2 => by omega⟩)
          | exact jz c106 _
    | succ f ih =>
      intro i is o4 o5 hif hi1 his
      have fin : ∀ (th : Int32) (o5 : Option Value), ((th = 1 ∧ thereIs c z i) ∨ (th = 0 ∧ ¬ thereIs c z i)) → V X 0 0 84 [some (.ref h), some (.int (nI j)), some (.int is), some (.int (nI i)), some (.int th), o5] [] (mW G h ad M R) := by
        intro th o5 hth
        refine r_iload_n C dX7_holds_84 rfl rfl ?_
        refine r_if_eq (tgt := 97) C dX7_holds_85 (by decide) (fun c85 => ?_) (fun c85 => ?_)
        · refine r_iconst (v := 0) C dX7_holds_97 (by decide) ?_
          refine r_istore_n C dX7_holds_98 rfl (by decide) ?_
          refine r_iinc (v := _ + 1) C dX7_holds_99 rfl (by rfl) (by decide) ?_
          rw [nI_1]
          refine r_goto (tgt := 4) C dX7_holds_102 (by decide) ?_
          exact ih (i + 1) _ _ _ (by omega) (by omega) (by
            first
              | exact Or.inl ⟨rfl, fun q h1 h2 => (Nat.lt_or_ge q i).elim (fun h3 => his.elim (fun w => w.2 q h1 h3) (fun w => absurd w.1 c85)) (fun h3 => (show q = i by omega) ▸ hth.elim (fun w => w.2) (fun w => absurd w.1 c90))⟩
              | exact Or.inr ⟨rfl, hth.elim (fun w => absurd (w.1.symm.trans c90) (by decide)) (fun w => ⟨i, hi1, by omega, w.2⟩)⟩
              | exact Or.inr ⟨rfl, his.elim (fun w => absurd (w.1.symm.trans c85) (by decide)) (fun w => w.2)⟩)
        · refine r_iload C dX7_holds_88 rfl ?_
          refine r_if_eq (tgt := 97) C dX7_holds_90 (by decide) (fun c90 => ?_) (fun c90 => ?_)
          · refine r_iconst (v := 0) C dX7_holds_97 (by decide) ?_
            refine r_istore_n C dX7_holds_98 rfl (by decide) ?_
            refine r_iinc (v := _ + 1) C dX7_holds_99 rfl (by rfl) (by decide) ?_
            rw [nI_1]
            refine r_goto (tgt := 4) C dX7_holds_102 (by decide) ?_
            exact ih (i + 1) _ _ _ (by omega) (by omega) (by
              first
                | exact Or.inl ⟨rfl, fun q h1 h2 => (Nat.lt_or_ge q i).elim (fun h3 => his.elim (fun w => w.2 q h1 h3) (fun w => absurd w.1 c85)) (fun h3 => (show q = i by omega) ▸ hth.elim (fun w => w.2) (fun w => absurd w.1 c90))⟩
                | exact Or.inr ⟨rfl, hth.elim (fun w => absurd (w.1.symm.trans c90) (by decide)) (fun w => ⟨i, hi1, by omega, w.2⟩)⟩
                | exact Or.inr ⟨rfl, his.elim (fun w => absurd (w.1.symm.trans c85) (by decide)) (fun w => w.2)⟩)
          · refine r_iconst (v := 1) C dX7_holds_93 (by decide) ?_
            refine r_goto (tgt := 98) C dX7_holds_94 (by decide) ?_
            refine r_istore_n C dX7_holds_98 rfl (by decide) ?_
            refine r_iinc (v := _ + 1) C dX7_holds_99 rfl (by rfl) (by decide) ?_
            rw [nI_1]
            refine r_goto (tgt := 4) C dX7_holds_102 (by decide) ?_
            exact ih (i + 1) _ _ _ (by omega) (by omega) (by
              first
                | exact Or.inl ⟨rfl, fun q h1 h2 => (Nat.lt_or_ge q i).elim (fun h3 => his.elim (fun w => w.2 q h1 h3) (fun w => absurd w.1 c85)) (fun h3 => (show q = i by omega) ▸ hth.elim (fun w => w.2) (fun w => absurd w.1 c90))⟩
                | exact Or.inr ⟨rfl, hth.elim (fun w => absurd (w.1.symm.trans c90) (by decide)) (fun w => ⟨i, hi1, by omega, w.2⟩)⟩
                | exact Or.inr ⟨rfl, his.elim (fun w => absurd (w.1.symm.trans c85) (by decide)) (fun w => w.2)⟩)
      have inner : ∀ (f' jj : Nat) (th : Int32), jj + f' = z → ((th = 1 ∧ ∃ q, q < jj ∧ (c q = nI i ∨ c q = -nI i)) ∨ (th = 0 ∧ ∀ q, q < jj → ¬ (c q = nI i ∨ c q = -nI i))) → V X 0 0 20 [some (.ref h), some (.int (nI j)), some (.int is), some (.int (nI i)), some (.int th), some (.int (nI jj))] [] (mW G h ad M R) := by
        intro f'
        induction f' with
        | zero =>
          intro jj th hjf hth
          have hjz : jj = z := by omega
          subst hjz
          refine r_iload C dX7_holds_20 rfl ?_
          refine r_aload_n C dX7_holds_22 rfl rfl ?_
          refine mg_sizes C dX7_holds_23 ?_
          refine r_iload_n C dX7_holds_26 rfl rfl ?_
          refine ml_sizes C dX7_holds_27 (vp_in_nI hj (by decide)) ?_
          rw [nI_clamp (by omega), hz]
          refine r_icmp_ge (tgt := 84) C dX7_holds_28 (by decide) (fun c28 => ?_) (fun c28 => absurd c28 ((fun q => q (nI_le (by omega) (by omega)))))
          exact fin th _ (by rcases hth with w | w; exact Or.inl w; exact Or.inr ⟨w.1, fun ⟨q, q1, q2⟩ => w.2 q q1 q2⟩)
        | succ f' ih' =>
          intro jj th hjf hth
          refine r_iload C dX7_holds_20 rfl ?_
          refine r_aload_n C dX7_holds_22 rfl rfl ?_
          refine mg_sizes C dX7_holds_23 ?_
          refine r_iload_n C dX7_holds_26 rfl rfl ?_
          refine ml_sizes C dX7_holds_27 (vp_in_nI hj (by decide)) ?_
          rw [nI_clamp (by omega), hz]
          refine r_icmp_ge (tgt := 84) C dX7_holds_28 (by decide) (fun c28 => absurd c28 ((nI_ge (by omega) (by omega)))) (fun c28 => ?_)
          refine r_iload C dX7_holds_31 rfl ?_
          refine r_if_ne (tgt := 71) C dX7_holds_33 (by decide) (fun c33 => ?_) (fun c33 => ?_)
          · refine r_iconst (v := 1) C dX7_holds_71 (by decide) ?_
            refine r_goto (tgt := 76) C dX7_holds_72 (by decide) ?_
            refine r_istore C dX7_holds_76 (by decide) ?_
            refine r_iinc (v := _ + 1) C dX7_holds_78 rfl (by rfl) (by decide) ?_
            rw [nI_1]
            refine r_goto (tgt := 20) C dX7_holds_81 (by decide) ?_
            first
              | exact ih' (jj + 1) 1 (by omega) (Or.inl ⟨rfl, jj, by omega, Or.inr c68⟩)
              | exact ih' (jj + 1) 1 (by omega) (Or.inl ⟨rfl, jj, by omega, Or.inl c50⟩)
              | exact ih' (jj + 1) 1 (by omega) (Or.inl ⟨rfl, hth.elim (fun ⟨_, q, q1, q2⟩ => ⟨q, by omega, q2⟩) (fun w => absurd w.1 c33)⟩)
              | exact ih' (jj + 1) 0 (by omega) (Or.inr ⟨rfl, fun q h1 => by
                  by_cases e : q = jj
                  · subst e; exact fun w => w.elim c50 c68
                  · rcases hth with w | w
                    · exact absurd (w.1.symm.trans c33) (by decide)
                    · exact w.2 q (by omega)⟩)
          · refine r_aload_n C dX7_holds_36 rfl rfl ?_
            refine mg_rows C dX7_holds_37 ?_
            refine r_sipush (v := 300) C dX7_holds_40 (by decide) ?_
            refine r_iload_n C dX7_holds_43 rfl rfl ?_
            refine r_imul C dX7_holds_44 ?_
            refine r_iload C dX7_holds_45 rfl ?_
            refine r_iadd C dX7_holds_47 ?_
            show V X 0 0 48 _ [.int (nI 300 * nI j + nI jj), .ref (ad 7)] _
            rw [pk_mul, nI_add]
            refine ml_rows C dX7_holds_48 (vp_in_nI (show 300 * j + jj < 2400 by omega) (by decide)) ?_
            rw [nI_clamp (by omega), hrow]
            refine r_iload_n C dX7_holds_49 rfl rfl ?_
            refine r_icmp_eq (tgt := 71) C dX7_holds_50 (by decide) (fun c50 => ?_) (fun c50 => ?_)
            · refine r_iconst (v := 1) C dX7_holds_71 (by decide) ?_
              refine r_goto (tgt := 76) C dX7_holds_72 (by decide) ?_
              refine r_istore C dX7_holds_76 (by decide) ?_
              refine r_iinc (v := _ + 1) C dX7_holds_78 rfl (by rfl) (by decide) ?_
              rw [nI_1]
              refine r_goto (tgt := 20) C dX7_holds_81 (by decide) ?_
              first
                | exact ih' (jj + 1) 1 (by omega) (Or.inl ⟨rfl, jj, by omega, Or.inr c68⟩)
                | exact ih' (jj + 1) 1 (by omega) (Or.inl ⟨rfl, jj, by omega, Or.inl c50⟩)
                | exact ih' (jj + 1) 1 (by omega) (Or.inl ⟨rfl, hth.elim (fun ⟨_, q, q1, q2⟩ => ⟨q, by omega, q2⟩) (fun w => absurd w.1 c33)⟩)
                | exact ih' (jj + 1) 0 (by omega) (Or.inr ⟨rfl, fun q h1 => by
                    by_cases e : q = jj
                    · subst e; exact fun w => w.elim c50 c68
                    · rcases hth with w | w
                      · exact absurd (w.1.symm.trans c33) (by decide)
                      · exact w.2 q (by omega)⟩)
            · refine r_aload_n C dX7_holds_53 rfl rfl ?_
              refine mg_rows C dX7_holds_54 ?_
              refine r_sipush (v := 300) C dX7_holds_57 (by decide) ?_
              refine r_iload_n C dX7_holds_60 rfl rfl ?_
              refine r_imul C dX7_holds_61 ?_
              refine r_iload C dX7_holds_62 rfl ?_
              refine r_iadd C dX7_holds_64 ?_
              show V X 0 0 65 _ [.int (nI 300 * nI j + nI jj), .ref (ad 7)] _
              rw [pk_mul, nI_add]
              refine ml_rows C dX7_holds_65 (vp_in_nI (show 300 * j + jj < 2400 by omega) (by decide)) ?_
              rw [nI_clamp (by omega), hrow]
              refine r_iload_n C dX7_holds_66 rfl rfl ?_
              refine r_ineg C dX7_holds_67 ?_
              refine r_icmp_ne (tgt := 75) C dX7_holds_68 (by decide) (fun c68 => ?_) (fun c68 => ?_)
              · refine r_iconst (v := 0) C dX7_holds_75 (by decide) ?_
                refine r_istore C dX7_holds_76 (by decide) ?_
                refine r_iinc (v := _ + 1) C dX7_holds_78 rfl (by rfl) (by decide) ?_
                rw [nI_1]
                refine r_goto (tgt := 20) C dX7_holds_81 (by decide) ?_
                first
                  | exact ih' (jj + 1) 1 (by omega) (Or.inl ⟨rfl, jj, by omega, Or.inr c68⟩)
                  | exact ih' (jj + 1) 1 (by omega) (Or.inl ⟨rfl, jj, by omega, Or.inl c50⟩)
                  | exact ih' (jj + 1) 1 (by omega) (Or.inl ⟨rfl, hth.elim (fun ⟨_, q, q1, q2⟩ => ⟨q, by omega, q2⟩) (fun w => absurd w.1 c33)⟩)
                  | exact ih' (jj + 1) 0 (by omega) (Or.inr ⟨rfl, fun q h1 => by
                      by_cases e : q = jj
                      · subst e; exact fun w => w.elim c50 c68
                      · rcases hth with w | w
                        · exact absurd (w.1.symm.trans c33) (by decide)
                        · exact w.2 q (by omega)⟩)
              · refine r_iconst (v := 1) C dX7_holds_71 (by decide) ?_
                refine r_goto (tgt := 76) C dX7_holds_72 (by decide) ?_
                refine r_istore C dX7_holds_76 (by decide) ?_
                refine r_iinc (v := _ + 1) C dX7_holds_78 rfl (by rfl) (by decide) ?_
                rw [nI_1]
                refine r_goto (tgt := 20) C dX7_holds_81 (by decide) ?_
                first
                  | exact ih' (jj + 1) 1 (by omega) (Or.inl ⟨rfl, jj, by omega, Or.inr c68⟩)
                  | exact ih' (jj + 1) 1 (by omega) (Or.inl ⟨rfl, jj, by omega, Or.inl c50⟩)
                  | exact ih' (jj + 1) 1 (by omega) (Or.inl ⟨rfl, hth.elim (fun ⟨_, q, q1, q2⟩ => ⟨q, by omega, q2⟩) (fun w => absurd w.1 c33)⟩)
                  | exact ih' (jj + 1) 0 (by omega) (Or.inr ⟨rfl, fun q h1 => by
                      by_cases e : q = jj
                      · subst e; exact fun w => w.elim c50 c68
                      · rcases hth with w | w
                        · exact absurd (w.1.symm.trans c33) (by decide)
                        · exact w.2 q (by omega)⟩)
      refine r_iload_n C dX7_holds_4 rfl rfl ?_
      refine r_aload_n C dX7_holds_5 rfl rfl ?_
      refine mg_straws C dX7_holds_6 ?_
      refine r_iload_n C dX7_holds_9 rfl rfl ?_
      refine ml_straws C dX7_holds_10 (vp_in_nI hj (by decide)) ?_
      rw [nI_clamp (by omega), hs5]
      refine r_icmp_ge (tgt := 105) C dX7_holds_11 (by decide) (fun c11 => absurd c11 ((nI_ge (by omega) (by omega)))) (fun c11 => ?_)
      refine r_iconst (v := 0) C dX7_holds_14 (by decide) ?_
      refine r_istore C dX7_holds_15 (by decide) ?_
      refine r_iconst (v := 0) C dX7_holds_17 (by decide) ?_
      refine r_istore C dX7_holds_18 (by decide) ?_
      exact inner z 0 0 (by omega) (Or.inr ⟨rfl, fun q h1 => by omega⟩)
  refine r_iconst (v := 1) C dX7_holds_0 (by decide) ?_
  refine r_istore_n C dX7_holds_1 rfl (by decide) ?_
  refine r_iconst (v := 1) C dX7_holds_2 (by decide) ?_
  refine r_istore_n C dX7_holds_3 rfl (by decide) ?_
  exact loop1 (s - 1) 1 1 _ _ (by omega) (Nat.le_refl _) (Or.inl ⟨rfl, fun q h1 h2 => by omega⟩)
end M10
end
section
/-! the reference: goes, use, twine -/
section M11
variable (G : Gx) (h : Nat) (ad : Nat → Nat) (M : Mt) (R : Rt)
/-- every pattern that is there is sound -/
def PatsOK (R : Rt) : Prop := ∀ j, j < 8 → 0 < R 5 j → ∃ s z, PatOK R j s z
theorem isPat_at {R : Rt} {k : Int32} (h : isPat R k) (hp : PatsOK R) : ∃ j s z, j < 8 ∧ k = nI j ∧ PatOK R j s z := by
  obtain ⟨j, hj, rfl, h0⟩ := h
  obtain ⟨s, z, q⟩ := hp j hj h0
  exact ⟨j, s, z, hj, rfl, q⟩
theorem c_goes (kk pp : Int32) (hP : PatsOK R) : mI G h ad yX7_goes cX7_goes 3 .int 2 [.int kk, .int pp] M R (fun r M' R' => R' = R ∧ ((∃ j s z p, j < 8 ∧ kk = nI j ∧ PatOK R j s z ∧ 1 ≤ p ∧ p ≤ s ∧ pp = nI p ∧ r = nI (gT (rowOf R j) z p) ∧ M' = va_up M 0 0) ∨ ((¬ isPat R kk ∨ ∃ j s z, j < 8 ∧ kk = nI j ∧ PatOK R j s z ∧ ∀ p : Nat, 1 ≤ p → p ≤ s → pp ≠ nI p) ∧ r = 0 ∧ M' = va_up M 0 1))) := by
  refine mI.intro (by decide) (Nat.le_of_ble_eq_true rfl) (cat1 (xs := [kk, pp])) fun X C hR => ?_
  refine r_aload_n C dX7_goes_0 rfl rfl ?_
  refine r_iload_n C dX7_goes_1 rfl rfl ?_
  refine m_calli C (c_isPattern G h ad M R kk) kM_isPattern dX7_goes_2 rfl (by decide) (by decide) (by decide) (by decide) rfl rfl (fun r M1 R1 hq => ?_)
  obtain ⟨rfl, ⟨hpat, rfl, rfl⟩ | ⟨hpat, rfl, rfl⟩⟩ := hq
  · obtain ⟨j, s, z, hj, rfl, hp⟩ := isPat_at hpat hP
    refine r_if_eq (tgt := 26) C dX7_goes_5 (by decide) (fun c5 => absurd c5 ((by decide))) (fun c5 => ?_)
    refine r_aload_n C dX7_goes_8 rfl rfl ?_
    refine r_iload_n C dX7_goes_9 rfl rfl ?_
    refine r_iload_n C dX7_goes_10 rfl rfl ?_
    refine m_calli C (c_isPlace G h ad (va_up M 0 0) R1 (s := s) pp hj hp.1 hp.2.2.1 rfl) kM_isPlace dX7_goes_11 rfl (by decide) (by decide) (by decide) (by decide) rfl rfl (fun r M1 R2 hq => ?_)
    obtain ⟨rfl, ⟨p, hp1, hp2, rfl, rfl, rfl⟩ | ⟨hno, rfl, rfl⟩⟩ := hq
    · refine r_if_eq (tgt := 26) C dX7_goes_14 (by decide) (fun c14 => absurd c14 ((by decide))) (fun c14 => ?_)
      refine r_aload_n C dX7_goes_17 rfl rfl ?_
      refine r_iload_n C dX7_goes_18 rfl rfl ?_
      refine r_iload_n C dX7_goes_19 rfl rfl ?_
      refine m_calli C (c_goesTo G h ad (va_up M 0 0) R2 hj hp hp1 hp2) kM_goesTo dX7_goes_20 rfl (by decide) (by decide) (by decide) (by decide) rfl rfl (fun r M1 R3 hq => ?_)
      obtain ⟨rfl, rfl, rfl⟩ := hq
      refine r_goto (tgt := 27) C dX7_goes_23 (by decide) ?_
      exact hR _ _ _ _ _ rfl dX7_goes_27 ⟨rfl, Or.inl ⟨j, s, z, p, hj, rfl, hp, hp1, hp2, rfl, rfl, rfl⟩⟩
    · refine r_if_eq (tgt := 26) C dX7_goes_14 (by decide) (fun c14 => ?_) (fun c14 => absurd c14 ((fun q => q rfl)))
      refine r_iconst (v := 0) C dX7_goes_26 (by decide) ?_
      exact hR _ _ _ _ _ rfl dX7_goes_27 ⟨rfl, Or.inr ⟨Or.inr ⟨j, s, z, hj, rfl, hp, hno⟩, rfl, up_up⟩⟩
  · refine r_if_eq (tgt := 26) C dX7_goes_5 (by decide) (fun c5 => ?_) (fun c5 => absurd c5 ((fun q => q rfl)))
    refine r_iconst (v := 0) C dX7_goes_26 (by decide) ?_
    exact hR _ _ _ _ _ rfl dX7_goes_27 ⟨rfl, Or.inr ⟨Or.inl hpat, rfl, rfl⟩⟩
theorem c_use (kk pp : Int32) (hP : PatsOK R) : mI G h ad yX7_use cX7_use 3 .int 2 [.int kk, .int pp] M R (fun r M' R' => (∃ P, R' = va_up R 27 P) ∧ ((∃ j s z p, j < 8 ∧ kk = nI j ∧ PatOK R j s z ∧ 1 ≤ p ∧ p ≤ s ∧ pp = nI p ∧ r = nI (2 * lvMost (rowOf R j) z + usF (rowOf R j) p z) ∧ M' = va_up M 0 0) ∨ ((¬ isPat R kk ∨ ∃ j s z, j < 8 ∧ kk = nI j ∧ PatOK R j s z ∧ ∀ p : Nat, 1 ≤ p → p ≤ s → pp ≠ nI p) ∧ r = 0 ∧ M' = va_up M 0 1))) := by
  refine mI.intro (by decide) (Nat.le_of_ble_eq_true rfl) (cat1 (xs := [kk, pp])) fun X C hR => ?_
  have hsame : R = va_up R 27 (R 27) := (up_same rfl).symm
  refine r_aload_n C dX7_use_0 rfl rfl ?_
  refine r_iload_n C dX7_use_1 rfl rfl ?_
  refine m_calli C (c_isPattern G h ad M R kk) kM_isPattern dX7_use_2 rfl (by decide) (by decide) (by decide) (by decide) rfl rfl (fun r M1 R1 hq => ?_)
  obtain ⟨rfl, ⟨hpat, rfl, rfl⟩ | ⟨hpat, rfl, rfl⟩⟩ := hq
  · obtain ⟨j, s, z, hj, rfl, hp⟩ := isPat_at hpat hP
    refine r_if_eq (tgt := 26) C dX7_use_5 (by decide) (fun c5 => absurd c5 ((by decide))) (fun c5 => ?_)
    refine r_aload_n C dX7_use_8 rfl rfl ?_
    refine r_iload_n C dX7_use_9 rfl rfl ?_
    refine r_iload_n C dX7_use_10 rfl rfl ?_
    refine m_calli C (c_isPlace G h ad (va_up M 0 0) R1 (s := s) pp hj hp.1 hp.2.2.1 rfl) kM_isPlace dX7_use_11 rfl (by decide) (by decide) (by decide) (by decide) rfl rfl (fun r M1 R2 hq => ?_)
    obtain ⟨rfl, ⟨p, hp1, hp2, rfl, rfl, rfl⟩ | ⟨hno, rfl, rfl⟩⟩ := hq
    · refine r_if_eq (tgt := 26) C dX7_use_14 (by decide) (fun c14 => absurd c14 ((by decide))) (fun c14 => ?_)
      refine r_aload_n C dX7_use_17 rfl rfl ?_
      refine r_iload_n C dX7_use_18 rfl rfl ?_
      refine r_iload_n C dX7_use_19 rfl rfl ?_
      refine m_calli C (c_useOf G h ad (va_up M 0 0) R2 hj hp hp1 hp2) kM_useOf dX7_use_20 rfl (by decide) (by decide) (by decide) (by decide) rfl rfl (fun r M1 R3 hq => ?_)
      obtain ⟨rfl, rfl, P, rfl⟩ := hq
      refine r_goto (tgt := 27) C dX7_use_23 (by decide) ?_
      exact hR _ _ _ _ _ rfl dX7_use_27 ⟨⟨P, rfl⟩, Or.inl ⟨j, s, z, p, hj, rfl, hp, hp1, hp2, rfl, rfl, rfl⟩⟩
    · refine r_if_eq (tgt := 26) C dX7_use_14 (by decide) (fun c14 => ?_) (fun c14 => absurd c14 ((fun q => q rfl)))
      refine r_iconst (v := 0) C dX7_use_26 (by decide) ?_
      exact hR _ _ _ _ _ rfl dX7_use_27 ⟨⟨_, hsame⟩, Or.inr ⟨Or.inr ⟨j, s, z, hj, rfl, hp, hno⟩, rfl, up_up⟩⟩
  · refine r_if_eq (tgt := 26) C dX7_use_5 (by decide) (fun c5 => ?_) (fun c5 => absurd c5 ((fun q => q rfl)))
    refine r_iconst (v := 0) C dX7_use_26 (by decide) ?_
    exact hR _ _ _ _ _ rfl dX7_use_27 ⟨⟨_, hsame⟩, Or.inr ⟨Or.inl hpat, rfl, rfl⟩⟩
/-- what twine() answers, of a pattern and two places of it -/
def twAns (c : Nat → Int32) (z s a b : Nat) (r : Int32) : Prop := ∃ m, isHome (gT c z) s m ∧ m ≤ 420 ∧ r = (twt c z a b m).2.2
theorem c_twine (kk aa bb : Int32) (hP : PatsOK R) : mI G h ad yX7_twine cX7_twine 14 .int 2 [.int kk, .int aa, .int bb] M R (fun r M' R' => (∃ P, R' = va_up R 26 P) ∧ ((∃ j s z a b, j < 8 ∧ kk = nI j ∧ PatOK R j s z ∧ 1 ≤ a ∧ a ≤ s ∧ aa = nI a ∧ 1 ≤ b ∧ b ≤ s ∧ bb = nI b ∧ a ≠ b ∧ twAns (rowOf R j) z s a b r ∧ M' = va_up M 0 0) ∨ ((¬ isPat R kk ∨ ∃ j s z, j < 8 ∧ kk = nI j ∧ PatOK R j s z ∧ ∀ a b : Nat, 1 ≤ a → a ≤ s → 1 ≤ b → b ≤ s → a ≠ b → ¬ (aa = nI a ∧ bb = nI b)) ∧ r = 0 ∧ M' = va_up M 0 1))) := by
  refine mI.intro (by decide) (Nat.le_of_ble_eq_true rfl) (cat1 (xs := [kk, aa, bb])) fun X C hR => ?_
  have hsame : R = va_up R 26 (R 26) := (up_same rfl).symm
  refine r_aload_n C dX7_twine_0 rfl rfl ?_
  refine r_iload_n C dX7_twine_1 rfl rfl ?_
  refine m_calli C (c_isPattern G h ad M R kk) kM_isPattern dX7_twine_2 rfl (by decide) (by decide) (by decide) (by decide) rfl rfl (fun r M1 R1 hq => ?_)
  obtain ⟨rfl, ⟨hpat, rfl, rfl⟩ | ⟨hpat, rfl, rfl⟩⟩ := hq
  rotate_left
  · refine r_if_eq (tgt := 44) C dX7_twine_5 (by decide) (fun c5 => ?_) (fun c5 => absurd c5 ((fun q => q rfl)))
    refine r_iconst (v := 0) C dX7_twine_44 (by decide) ?_
    exact hR _ _ _ _ _ rfl dX7_twine_45 ⟨⟨_, hsame⟩, Or.inr ⟨Or.inl hpat, rfl, rfl⟩⟩
  obtain ⟨j, s, z, hj, rfl, hp⟩ := isPat_at hpat hP
  obtain ⟨hs5, hs2, hs7, hz, hz3, hok⟩ := id hp
  refine r_if_eq (tgt := 44) C dX7_twine_5 (by decide) (fun c5 => absurd c5 ((by decide))) (fun c5 => ?_)
  refine r_aload_n C dX7_twine_8 rfl rfl ?_
  refine r_iload_n C dX7_twine_9 rfl rfl ?_
  refine r_iload_n C dX7_twine_10 rfl rfl ?_
  refine m_calli C (c_isPlace G h ad (va_up M 0 0) R1 (s := s) aa hj hp.1 hp.2.2.1 rfl) kM_isPlace dX7_twine_11 rfl (by decide) (by decide) (by decide) (by decide) rfl rfl (fun r M1 R2 hq => ?_)
  obtain ⟨rfl, ⟨a, ha1, ha2, rfl, rfl, rfl⟩ | ⟨hno, rfl, rfl⟩⟩ := hq
  rotate_left
  · refine r_if_eq (tgt := 44) C dX7_twine_14 (by decide) (fun c14 => ?_) (fun c14 => absurd c14 ((fun q => q rfl)))
    refine r_iconst (v := 0) C dX7_twine_44 (by decide) ?_
    exact hR _ _ _ _ _ rfl dX7_twine_45 ⟨⟨_, hsame⟩, Or.inr ⟨Or.inr ⟨j, s, z, hj, rfl, hp, fun a b h1 h2 _ _ _ e => hno a h1 h2 e.1⟩, rfl, up_up⟩⟩
  refine r_if_eq (tgt := 44) C dX7_twine_14 (by decide) (fun c14 => absurd c14 ((by decide))) (fun c14 => ?_)
  refine r_aload_n C dX7_twine_17 rfl rfl ?_
  refine r_iload_n C dX7_twine_18 rfl rfl ?_
  refine r_iload_n C dX7_twine_19 rfl rfl ?_
  refine m_calli C (c_isPlace G h ad (va_up M 0 0) R2 (s := s) bb hj hp.1 hp.2.2.1 rfl) kM_isPlace dX7_twine_20 rfl (by decide) (by decide) (by decide) (by decide) rfl rfl (fun r M1 R3 hq => ?_)
  obtain ⟨rfl, ⟨b, hb1, hb2, rfl, rfl, rfl⟩ | ⟨hno, rfl, rfl⟩⟩ := hq
  rotate_left
  · refine r_if_eq (tgt := 44) C dX7_twine_23 (by decide) (fun c23 => ?_) (fun c23 => absurd c23 ((fun q => q rfl)))
    refine r_iconst (v := 0) C dX7_twine_44 (by decide) ?_
    exact hR _ _ _ _ _ rfl dX7_twine_45 ⟨⟨_, hsame⟩, Or.inr ⟨Or.inr ⟨j, s, z, hj, rfl, hp, fun a b _ _ h1 h2 _ e => hno b h1 h2 e.2⟩, rfl, up_up⟩⟩
  by_cases hab : a = b
  · subst hab
    refine r_if_eq (tgt := 44) C dX7_twine_23 (by decide) (fun c23 => absurd c23 ((by decide))) (fun c23 => ?_)
    refine r_aload_n C dX7_twine_26 rfl rfl ?_
    refine r_iload_n C dX7_twine_27 rfl rfl ?_
    refine r_iload_n C dX7_twine_28 rfl rfl ?_
    refine r_icmp_eq (tgt := 36) C dX7_twine_29 (by decide) (fun c29 => ?_) (fun c29 => absurd c29 ((fun q => q rfl)))
    refine r_iconst (v := 0) C dX7_twine_36 (by decide) ?_
    refine r_iconst (v := 1) C dX7_twine_37 (by decide) ?_
    refine m_calli C (c_right0 G h ad _ _ 1 (by decide) rfl) kM_right dX7_twine_38 rfl (by decide) (by decide) (by decide) (by decide) rfl rfl (fun r M1 R4 hp => ?_)
    obtain ⟨rfl, rfl, rfl⟩ := hp
    refine r_if_ne (tgt := 46) C dX7_twine_41 (by decide) (fun c41 => absurd c41 ((fun q => q rfl))) (fun c41 => ?_)
    refine r_iconst (v := 0) C dX7_twine_44 (by decide) ?_
    exact hR _ _ _ _ _ rfl dX7_twine_45 ⟨⟨_, hsame⟩, Or.inr ⟨Or.inr ⟨j, s, z, hj, rfl, hp, fun a' b' h1 h2 h3 h4 h5 e => by
      have e1 := (nI_eq (by omega) (by omega)).mp e.1
      have e2 := (nI_eq (by omega) (by omega)).mp e.2
      omega⟩, rfl, up_up⟩⟩
  obtain ⟨c, hc⟩ : ∃ c, c = rowOf R3 j := ⟨_, rfl⟩
  rw [← hc] at hok
  refine r_if_eq (tgt := 44) C dX7_twine_23 (by decide) (fun c23 => absurd c23 ((by decide))) (fun c23 => ?_)
  refine r_aload_n C dX7_twine_26 rfl rfl ?_
  refine r_iload_n C dX7_twine_27 rfl rfl ?_
  refine r_iload_n C dX7_twine_28 rfl rfl ?_
  refine r_icmp_eq (tgt := 36) C dX7_twine_29 (by decide) (fun c29 => absurd c29 ((fun e => hab ((nI_eq (by omega) (by omega)).mp e)))) (fun c29 => ?_)
  refine r_iconst (v := 1) C dX7_twine_32 (by decide) ?_
  refine r_goto (tgt := 37) C dX7_twine_33 (by decide) ?_
  refine r_iconst (v := 1) C dX7_twine_37 (by decide) ?_
  refine m_calli C (c_right1 G h ad _ _ 1 rfl) kM_right dX7_twine_38 rfl (by decide) (by decide) (by decide) (by decide) rfl rfl (fun r M1 R4 hp => ?_)
  obtain ⟨rfl, rfl, rfl⟩ := hp
  refine r_if_ne (tgt := 46) C dX7_twine_41 (by decide) (fun c41 => ?_) (fun c41 => absurd c41 ((by decide)))
  refine r_aload_n C dX7_twine_46 rfl rfl ?_
  refine r_iload_n C dX7_twine_47 rfl rfl ?_
  refine m_calli C (c_home G h ad _ R4 hj hp) kM_home dX7_twine_48 rfl (by decide) (by decide) (by decide) (by decide) rfl rfl (fun r M1 R5 hq => ?_)
  obtain ⟨⟨m, hm, hm4, rfl⟩, rfl, P, rfl⟩ := hq
  refine r_istore C dX7_twine_51 (by decide) ?_
  refine r_iload_n C dX7_twine_53 rfl rfl ?_
  refine r_istore C dX7_twine_54 (by decide) ?_
  refine r_iload_n C dX7_twine_56 rfl rfl ?_
  refine r_istore C dX7_twine_57 (by decide) ?_
  refine r_iconst (v := 0) C dX7_twine_59 (by decide) ?_
  refine r_istore C dX7_twine_60 (by decide) ?_
  refine r_iconst (v := 0) C dX7_twine_62 (by decide) ?_
  refine r_istore C dX7_twine_63 (by decide) ?_
  skip
  have hrow : ∀ (i : Nat), va_up R4 26 P 7 (300 * j + i) = c i := fun i => by rw [hc]; rfl
  have outer : ∀ (f t : Nat), t + f = m → V X 0 0 65 [some (.ref h), some (.int (nI j)), some (.int (nI a)), some (.int (nI b)), some (.int (nI m)), some (.int (nI (twt c z a b t).1)), some (.int (nI (twt c z a b t).2.1)), some (.int (twt c z a b t).2.2), some (.int (nI t)), none, none, none, none, none] [] (mW G h ad (va_up M 0 0) (va_up R4 26 P)) := by
    intro f
    induction f with
    | zero =>
      intro t ht
      have htm : t = m := by omega
      subst htm
      refine r_iload C dX7_twine_65 rfl ?_
      refine r_iload C dX7_twine_67 rfl ?_
      refine r_icmp_ge (tgt := 245) C dX7_twine_69 (by decide) (fun c69 => ?_) (fun c69 => absurd c69 ((fun q => q (nI_le (by omega) (by omega)))))
      refine r_iload C dX7_twine_245 rfl ?_
      exact hR _ _ _ _ _ rfl dX7_twine_247 ⟨⟨P, rfl⟩, Or.inl ⟨j, s, z, a, b, hj, rfl, hp, ha1, ha2, rfl, hb1, hb2, rfl, hab, ⟨t, hm, hm4, by rw [← hc]⟩, rfl⟩⟩
    | succ f ih =>
      intro t ht
      have hti := twt_in (c := c) (z := z) hs7 ⟨ha1, ha2⟩ ⟨hb1, hb2⟩ hok t
      have nxt := ih (t + 1) (by omega)
      have inner : ∀ (f' i : Nat), i + f' = z → V X 0 0 75 [some (.ref h), some (.int (nI j)), some (.int (nI a)), some (.int (nI b)), some (.int (nI m)), some (.int (nI (twj c (twt c z a b t) i).1)), some (.int (nI (twj c (twt c z a b t) i).2.1)), some (.int (twj c (twt c z a b t) i).2.2), some (.int (nI t)), some (.int (nI i)), none, none, none, none] [] (mW G h ad (va_up M 0 0) (va_up R4 26 P)) := by
        intro f'
        induction f' with
        | zero =>
          intro i hi
          have hiz : i = z := by omega
          subst hiz
          refine r_iload C dX7_twine_75 rfl ?_
          refine r_aload_n C dX7_twine_77 rfl rfl ?_
          refine mg_sizes C dX7_twine_78 ?_
          refine r_iload_n C dX7_twine_81 rfl rfl ?_
          refine ml_sizes C dX7_twine_82 (vp_in_nI hj (by decide)) ?_
          rw [nI_clamp (by omega), show va_up R4 26 P 6 j = nI i from hz]
          refine r_icmp_ge (tgt := 239) C dX7_twine_83 (by decide) (fun c83 => ?_) (fun c83 => absurd c83 ((fun q => q (nI_le (by omega) (by omega)))))
          refine r_iinc (v := _ + 1) C dX7_twine_239 rfl (by rfl) (by decide) ?_
          rw [nI_1]
          refine r_goto (tgt := 65) C dX7_twine_242 (by decide) ?_
          exact V.keep [true, true, true, true, true, true, true, true, true, false, false, false, false, false] nxt
        | succ f' ih' =>
          intro i hi
          have hin := twj_in (c := c) (q := twt c z a b t) hs7 hti.1 hti.2 i (fun q hq => hok q (by omega))
          have nx := ih' (i + 1) (by omega)
          have hst : twj c (twt c z a b t) (i + 1) = twS (c i) (twj c (twt c z a b t) i) := rfl
          rw [hst] at nx
          obtain ⟨i0, hi1, hi2, hci⟩ := hok i (by omega)
          have hai : ai (c i) = i0 := by rcases hci with hci | hci <;> rw [hci] <;> first | exact ai_nI (by omega) | exact ai_neg (by omega)
          generalize twj c (twt c z a b t) i = Q at hin nx ⊢
          obtain ⟨x, y, v⟩ := Q
          unfold twS at nx
          dsimp only at hin nx ⊢
          rw [hai] at nx
          obtain ⟨v2, hv2⟩ : ∃ v2, v2 = (if (x = i0 ∨ x = i0 + 1) ∧ (y = i0 ∨ y = i0 + 1) then v + (if 0 < c i then 1 else -1) else v) := ⟨_, rfl⟩
          rw [← hv2] at nx
          have j210 : ∀ (sec : Int32) (o12 : Option Value), ((sec = 1 ∧ (y = i0 ∨ y = i0 + 1)) ∨ (sec = 0 ∧ ¬ (y = i0 ∨ y = i0 + 1))) → V X 0 0 210 [some (.ref h), some (.int (nI j)), some (.int (nI a)), some (.int (nI b)), some (.int (nI m)), some (.int (nI (sw i0 x))), some (.int (nI y)), some (.int v2), some (.int (nI t)), some (.int (nI i)), some (.int (c i)), some (.int (nI i0)), o12, some (.int sec)] [] (mW G h ad (va_up M 0 0) (va_up R4 26 P)) := by
            intro sec o12 hsec
            have m0 : [true, true, true, true, true, true, true, true, true, true, false, false, false, false] = [true, true, true, true, true, true, true, true, true, true, false, false, false, false] := rfl
            refine r_iload C dX7_twine_210 rfl ?_
            refine r_if_eq (tgt := 233) C dX7_twine_212 (by decide) (fun c212 => ?_) (fun c212 => ?_)
            · refine r_iinc (v := _ + 1) C dX7_twine_233 rfl (by rfl) (by decide) ?_
              rw [nI_1]
              refine r_goto (tgt := 75) C dX7_twine_236 (by decide) ?_
              first
                | exact V.keep [true, true, true, true, true, true, true, true, true, true, false, false, false, false] (by rw [show sw i0 y = y from sw_n (fun e => (hsec.elim (fun w => absurd (w.1.symm.trans c212) (by decide)) (fun w => w.2)) (Or.inl e)) (fun e => (hsec.elim (fun w => absurd (w.1.symm.trans c212) (by decide)) (fun w => w.2)) (Or.inr e))] at nx; exact nx)
                | exact V.keep [true, true, true, true, true, true, true, true, true, true, false, false, false, false] (by rw [show sw i0 y = i0 + 1 by rw [c219, sw_l]] at nx; exact nx)
                | exact V.keep [true, true, true, true, true, true, true, true, true, true, false, false, false, false] (by rw [show sw i0 y = i0 by rw [show y = i0 + 1 by omega, sw_r]] at nx; exact nx)
            · have hy : y = i0 ∨ y = i0 + 1 := hsec.elim (fun w => w.2) (fun w => absurd w.1 c212)
              refine r_iload C dX7_twine_215 rfl ?_
              refine r_iload C dX7_twine_217 rfl ?_
              refine r_icmp_ne (tgt := 229) C dX7_twine_219 (by decide) (fun c219 => ?_) (fun c219 => ?_)
              · rw [nI_eq (by omega) (by omega)] at c219
                refine r_iload C dX7_twine_229 rfl ?_
                refine r_istore C dX7_twine_231 (by decide) ?_
                refine r_iinc (v := _ + 1) C dX7_twine_233 rfl (by rfl) (by decide) ?_
                rw [nI_1]
                refine r_goto (tgt := 75) C dX7_twine_236 (by decide) ?_
                first
                  | exact V.keep [true, true, true, true, true, true, true, true, true, true, false, false, false, false] (by rw [show sw i0 y = y from sw_n (fun e => (hsec.elim (fun w => absurd (w.1.symm.trans c212) (by decide)) (fun w => w.2)) (Or.inl e)) (fun e => (hsec.elim (fun w => absurd (w.1.symm.trans c212) (by decide)) (fun w => w.2)) (Or.inr e))] at nx; exact nx)
                  | exact V.keep [true, true, true, true, true, true, true, true, true, true, false, false, false, false] (by rw [show sw i0 y = i0 + 1 by rw [c219, sw_l]] at nx; exact nx)
                  | exact V.keep [true, true, true, true, true, true, true, true, true, true, false, false, false, false] (by rw [show sw i0 y = i0 by rw [show y = i0 + 1 by omega, sw_r]] at nx; exact nx)
              · rw [nI_eq (by omega) (by omega)] at c219
                refine r_iload C dX7_twine_222 rfl ?_
                refine r_iconst (v := 1) C dX7_twine_224 (by decide) ?_
                refine r_iadd C dX7_twine_225 ?_
                rw [nI_1]
                refine r_goto (tgt := 231) C dX7_twine_226 (by decide) ?_
                refine r_istore C dX7_twine_231 (by decide) ?_
                refine r_iinc (v := _ + 1) C dX7_twine_233 rfl (by rfl) (by decide) ?_
                rw [nI_1]
                refine r_goto (tgt := 75) C dX7_twine_236 (by decide) ?_
                first
                  | exact V.keep [true, true, true, true, true, true, true, true, true, true, false, false, false, false] (by rw [show sw i0 y = y from sw_n (fun e => (hsec.elim (fun w => absurd (w.1.symm.trans c212) (by decide)) (fun w => w.2)) (Or.inl e)) (fun e => (hsec.elim (fun w => absurd (w.1.symm.trans c212) (by decide)) (fun w => w.2)) (Or.inr e))] at nx; exact nx)
                  | exact V.keep [true, true, true, true, true, true, true, true, true, true, false, false, false, false] (by rw [show sw i0 y = i0 + 1 by rw [c219, sw_l]] at nx; exact nx)
                  | exact V.keep [true, true, true, true, true, true, true, true, true, true, false, false, false, false] (by rw [show sw i0 y = i0 by rw [show y = i0 + 1 by omega, sw_r]] at nx; exact nx)
          have j187 : ∀ (fs sec : Int32), ((fs = 1 ∧ (x = i0 ∨ x = i0 + 1)) ∨ (fs = 0 ∧ ¬ (x = i0 ∨ x = i0 + 1))) → ((sec = 1 ∧ (y = i0 ∨ y = i0 + 1)) ∨ (sec = 0 ∧ ¬ (y = i0 ∨ y = i0 + 1))) → V X 0 0 187 [some (.ref h), some (.int (nI j)), some (.int (nI a)), some (.int (nI b)), some (.int (nI m)), some (.int (nI x)), some (.int (nI y)), some (.int v2), some (.int (nI t)), some (.int (nI i)), some (.int (c i)), some (.int (nI i0)), some (.int fs), some (.int sec)] [] (mW G h ad (va_up M 0 0) (va_up R4 26 P)) := by
            intro fs sec hfs hsec
            have q := fun o => j210 sec o hsec
            refine r_iload C dX7_twine_187 rfl ?_
            refine r_if_eq (tgt := 210) C dX7_twine_189 (by decide) (fun c189 => ?_) (fun c189 => ?_)
            · first
                | (rw [show sw i0 x = x from sw_n (fun e => (hfs.elim (fun w => absurd (w.1.symm.trans c189) (by decide)) (fun w => w.2)) (Or.inl e)) (fun e => (hfs.elim (fun w => absurd (w.1.symm.trans c189) (by decide)) (fun w => w.2)) (Or.inr e))] at q; exact q _)
                | (rw [show sw i0 x = i0 + 1 by rw [c196, sw_l]] at q; exact q _)
                | (rw [show sw i0 x = i0 by rw [show x = i0 + 1 by omega, sw_r]] at q; exact q _)
            · have hx : x = i0 ∨ x = i0 + 1 := hfs.elim (fun w => w.2) (fun w => absurd w.1 c189)
              refine r_iload C dX7_twine_192 rfl ?_
              refine r_iload C dX7_twine_194 rfl ?_
              refine r_icmp_ne (tgt := 206) C dX7_twine_196 (by decide) (fun c196 => ?_) (fun c196 => ?_)
              · rw [nI_eq (by omega) (by omega)] at c196
                refine r_iload C dX7_twine_206 rfl ?_
                refine r_istore C dX7_twine_208 (by decide) ?_
                first
                  | (rw [show sw i0 x = x from sw_n (fun e => (hfs.elim (fun w => absurd (w.1.symm.trans c189) (by decide)) (fun w => w.2)) (Or.inl e)) (fun e => (hfs.elim (fun w => absurd (w.1.symm.trans c189) (by decide)) (fun w => w.2)) (Or.inr e))] at q; exact q _)
                  | (rw [show sw i0 x = i0 + 1 by rw [c196, sw_l]] at q; exact q _)
                  | (rw [show sw i0 x = i0 by rw [show x = i0 + 1 by omega, sw_r]] at q; exact q _)
              · rw [nI_eq (by omega) (by omega)] at c196
                refine r_iload C dX7_twine_199 rfl ?_
                refine r_iconst (v := 1) C dX7_twine_201 (by decide) ?_
                refine r_iadd C dX7_twine_202 ?_
                rw [nI_1]
                refine r_goto (tgt := 208) C dX7_twine_203 (by decide) ?_
                refine r_istore C dX7_twine_208 (by decide) ?_
                first
                  | (rw [show sw i0 x = x from sw_n (fun e => (hfs.elim (fun w => absurd (w.1.symm.trans c189) (by decide)) (fun w => w.2)) (Or.inl e)) (fun e => (hfs.elim (fun w => absurd (w.1.symm.trans c189) (by decide)) (fun w => w.2)) (Or.inr e))] at q; exact q _)
                  | (rw [show sw i0 x = i0 + 1 by rw [c196, sw_l]] at q; exact q _)
                  | (rw [show sw i0 x = i0 by rw [show x = i0 + 1 by omega, sw_r]] at q; exact q _)
          have j162 : ∀ (fs sec : Int32), ((fs = 1 ∧ (x = i0 ∨ x = i0 + 1)) ∨ (fs = 0 ∧ ¬ (x = i0 ∨ x = i0 + 1))) → ((sec = 1 ∧ (y = i0 ∨ y = i0 + 1)) ∨ (sec = 0 ∧ ¬ (y = i0 ∨ y = i0 + 1))) → V X 0 0 162 [some (.ref h), some (.int (nI j)), some (.int (nI a)), some (.int (nI b)), some (.int (nI m)), some (.int (nI x)), some (.int (nI y)), some (.int v), some (.int (nI t)), some (.int (nI i)), some (.int (c i)), some (.int (nI i0)), some (.int fs), some (.int sec)] [] (mW G h ad (va_up M 0 0) (va_up R4 26 P)) := by
            intro fs sec hfs hsec
            have q := j187 fs sec hfs hsec
            refine r_iload C dX7_twine_162 rfl ?_
            refine r_if_eq (tgt := 187) C dX7_twine_164 (by decide) (fun c164 => ?_) (fun c164 => ?_)
            · first
                | (rw [hv2, if_pos ⟨hfs.elim (fun w => w.2) (fun w => absurd w.1 c164), hsec.elim (fun w => w.2) (fun w => absurd w.1 c169)⟩, if_pos (Int32.not_le.mp c176)] at q; exact q)
                | (rw [hv2, if_pos ⟨hfs.elim (fun w => w.2) (fun w => absurd w.1 c164), hsec.elim (fun w => w.2) (fun w => absurd w.1 c169)⟩, if_neg (Int32.not_lt.mpr c176)] at q; exact q)
                | (rw [hv2, if_neg (fun e => hsec.elim (fun w => absurd (w.1.symm.trans c169) (by decide)) (fun w => w.2 e.2))] at q; exact q)
                | (rw [hv2, if_neg (fun e => hfs.elim (fun w => absurd (w.1.symm.trans c164) (by decide)) (fun w => w.2 e.1))] at q; exact q)
            · refine r_iload C dX7_twine_167 rfl ?_
              refine r_if_eq (tgt := 187) C dX7_twine_169 (by decide) (fun c169 => ?_) (fun c169 => ?_)
              · first
                  | (rw [hv2, if_pos ⟨hfs.elim (fun w => w.2) (fun w => absurd w.1 c164), hsec.elim (fun w => w.2) (fun w => absurd w.1 c169)⟩, if_pos (Int32.not_le.mp c176)] at q; exact q)
                  | (rw [hv2, if_pos ⟨hfs.elim (fun w => w.2) (fun w => absurd w.1 c164), hsec.elim (fun w => w.2) (fun w => absurd w.1 c169)⟩, if_neg (Int32.not_lt.mpr c176)] at q; exact q)
                  | (rw [hv2, if_neg (fun e => hsec.elim (fun w => absurd (w.1.symm.trans c169) (by decide)) (fun w => w.2 e.2))] at q; exact q)
                  | (rw [hv2, if_neg (fun e => hfs.elim (fun w => absurd (w.1.symm.trans c164) (by decide)) (fun w => w.2 e.1))] at q; exact q)
              · refine r_iload C dX7_twine_172 rfl ?_
                refine r_iload C dX7_twine_174 rfl ?_
                refine r_if_le (tgt := 183) C dX7_twine_176 (by decide) (fun c176 => ?_) (fun c176 => ?_)
                · refine r_iconst (v := -1) C dX7_twine_183 (by decide) ?_
                  refine r_iadd C dX7_twine_184 ?_
                  refine r_istore C dX7_twine_185 (by decide) ?_
                  first
                    | (rw [hv2, if_pos ⟨hfs.elim (fun w => w.2) (fun w => absurd w.1 c164), hsec.elim (fun w => w.2) (fun w => absurd w.1 c169)⟩, if_pos (Int32.not_le.mp c176)] at q; exact q)
                    | (rw [hv2, if_pos ⟨hfs.elim (fun w => w.2) (fun w => absurd w.1 c164), hsec.elim (fun w => w.2) (fun w => absurd w.1 c169)⟩, if_neg (Int32.not_lt.mpr c176)] at q; exact q)
                    | (rw [hv2, if_neg (fun e => hsec.elim (fun w => absurd (w.1.symm.trans c169) (by decide)) (fun w => w.2 e.2))] at q; exact q)
                    | (rw [hv2, if_neg (fun e => hfs.elim (fun w => absurd (w.1.symm.trans c164) (by decide)) (fun w => w.2 e.1))] at q; exact q)
                · refine r_iconst (v := 1) C dX7_twine_179 (by decide) ?_
                  refine r_goto (tgt := 184) C dX7_twine_180 (by decide) ?_
                  refine r_iadd C dX7_twine_184 ?_
                  refine r_istore C dX7_twine_185 (by decide) ?_
                  first
                    | (rw [hv2, if_pos ⟨hfs.elim (fun w => w.2) (fun w => absurd w.1 c164), hsec.elim (fun w => w.2) (fun w => absurd w.1 c169)⟩, if_pos (Int32.not_le.mp c176)] at q; exact q)
                    | (rw [hv2, if_pos ⟨hfs.elim (fun w => w.2) (fun w => absurd w.1 c164), hsec.elim (fun w => w.2) (fun w => absurd w.1 c169)⟩, if_neg (Int32.not_lt.mpr c176)] at q; exact q)
                    | (rw [hv2, if_neg (fun e => hsec.elim (fun w => absurd (w.1.symm.trans c169) (by decide)) (fun w => w.2 e.2))] at q; exact q)
                    | (rw [hv2, if_neg (fun e => hfs.elim (fun w => absurd (w.1.symm.trans c164) (by decide)) (fun w => w.2 e.1))] at q; exact q)
          have j139 : ∀ (fs : Int32), ((fs = 1 ∧ (x = i0 ∨ x = i0 + 1)) ∨ (fs = 0 ∧ ¬ (x = i0 ∨ x = i0 + 1))) → V X 0 0 139 [some (.ref h), some (.int (nI j)), some (.int (nI a)), some (.int (nI b)), some (.int (nI m)), some (.int (nI x)), some (.int (nI y)), some (.int v), some (.int (nI t)), some (.int (nI i)), some (.int (c i)), some (.int (nI i0)), some (.int fs), none] [] (mW G h ad (va_up M 0 0) (va_up R4 26 P)) := by
            intro fs hfs
            refine r_iload C dX7_twine_139 rfl ?_
            refine r_iload C dX7_twine_141 rfl ?_
            refine r_icmp_eq (tgt := 155) C dX7_twine_143 (by decide) (fun c143 => ?_) (fun c143 => ?_)
            · refine r_iconst (v := 1) C dX7_twine_155 (by decide) ?_
              refine r_goto (tgt := 160) C dX7_twine_156 (by decide) ?_
              refine r_istore C dX7_twine_160 (by decide) ?_
              first
                | exact j162 fs 0 hfs (Or.inr ⟨rfl, fun e => e.elim c143 c152⟩)
                | exact j162 fs 1 hfs (Or.inl ⟨rfl, Or.inl ((nI_eq (by omega) (by omega)).mp c143)⟩)
                | exact j162 fs 1 hfs (Or.inl ⟨rfl, Or.inr ((nI_eq (by omega) (by omega)).mp c152)⟩)
            · rw [nI_eq (by omega) (by omega)] at c143
              refine r_iload C dX7_twine_146 rfl ?_
              refine r_iload C dX7_twine_148 rfl ?_
              refine r_iconst (v := 1) C dX7_twine_150 (by decide) ?_
              refine r_iadd C dX7_twine_151 ?_
              rw [nI_1]
              refine r_icmp_ne (tgt := 159) C dX7_twine_152 (by decide) (fun c152 => ?_) (fun c152 => ?_)
              · rw [nI_eq (by omega) (by omega)] at c152
                refine r_iconst (v := 0) C dX7_twine_159 (by decide) ?_
                refine r_istore C dX7_twine_160 (by decide) ?_
                first
                  | exact j162 fs 0 hfs (Or.inr ⟨rfl, fun e => e.elim c143 c152⟩)
                  | exact j162 fs 1 hfs (Or.inl ⟨rfl, Or.inl ((nI_eq (by omega) (by omega)).mp c143)⟩)
                  | exact j162 fs 1 hfs (Or.inl ⟨rfl, Or.inr ((nI_eq (by omega) (by omega)).mp c152)⟩)
              · refine r_iconst (v := 1) C dX7_twine_155 (by decide) ?_
                refine r_goto (tgt := 160) C dX7_twine_156 (by decide) ?_
                refine r_istore C dX7_twine_160 (by decide) ?_
                first
                  | exact j162 fs 0 hfs (Or.inr ⟨rfl, fun e => e.elim c143 c152⟩)
                  | exact j162 fs 1 hfs (Or.inl ⟨rfl, Or.inl ((nI_eq (by omega) (by omega)).mp c143)⟩)
                  | exact j162 fs 1 hfs (Or.inl ⟨rfl, Or.inr ((nI_eq (by omega) (by omega)).mp c152)⟩)
          have j116 : V X 0 0 116 [some (.ref h), some (.int (nI j)), some (.int (nI a)), some (.int (nI b)), some (.int (nI m)), some (.int (nI x)), some (.int (nI y)), some (.int v), some (.int (nI t)), some (.int (nI i)), some (.int (c i)), some (.int (nI i0)), none, none] [] (mW G h ad (va_up M 0 0) (va_up R4 26 P)) := by
            refine r_iload C dX7_twine_116 rfl ?_
            refine r_iload C dX7_twine_118 rfl ?_
            refine r_icmp_eq (tgt := 132) C dX7_twine_120 (by decide) (fun c120 => ?_) (fun c120 => ?_)
            · refine r_iconst (v := 1) C dX7_twine_132 (by decide) ?_
              refine r_goto (tgt := 137) C dX7_twine_133 (by decide) ?_
              refine r_istore C dX7_twine_137 (by decide) ?_
              first
                | exact j139 0 (Or.inr ⟨rfl, fun e => e.elim c120 c129⟩)
                | exact j139 1 (Or.inl ⟨rfl, Or.inl ((nI_eq (by omega) (by omega)).mp c120)⟩)
                | exact j139 1 (Or.inl ⟨rfl, Or.inr ((nI_eq (by omega) (by omega)).mp c129)⟩)
            · rw [nI_eq (by omega) (by omega)] at c120
              refine r_iload C dX7_twine_123 rfl ?_
              refine r_iload C dX7_twine_125 rfl ?_
              refine r_iconst (v := 1) C dX7_twine_127 (by decide) ?_
              refine r_iadd C dX7_twine_128 ?_
              rw [nI_1]
              refine r_icmp_ne (tgt := 136) C dX7_twine_129 (by decide) (fun c129 => ?_) (fun c129 => ?_)
              · rw [nI_eq (by omega) (by omega)] at c129
                refine r_iconst (v := 0) C dX7_twine_136 (by decide) ?_
                refine r_istore C dX7_twine_137 (by decide) ?_
                first
                  | exact j139 0 (Or.inr ⟨rfl, fun e => e.elim c120 c129⟩)
                  | exact j139 1 (Or.inl ⟨rfl, Or.inl ((nI_eq (by omega) (by omega)).mp c120)⟩)
                  | exact j139 1 (Or.inl ⟨rfl, Or.inr ((nI_eq (by omega) (by omega)).mp c129)⟩)
              · refine r_iconst (v := 1) C dX7_twine_132 (by decide) ?_
                refine r_goto (tgt := 137) C dX7_twine_133 (by decide) ?_
                refine r_istore C dX7_twine_137 (by decide) ?_
                first
                  | exact j139 0 (Or.inr ⟨rfl, fun e => e.elim c120 c129⟩)
                  | exact j139 1 (Or.inl ⟨rfl, Or.inl ((nI_eq (by omega) (by omega)).mp c120)⟩)
                  | exact j139 1 (Or.inl ⟨rfl, Or.inr ((nI_eq (by omega) (by omega)).mp c129)⟩)
          refine r_iload C dX7_twine_75 rfl ?_
          refine r_aload_n C dX7_twine_77 rfl rfl ?_
          refine mg_sizes C dX7_twine_78 ?_
          refine r_iload_n C dX7_twine_81 rfl rfl ?_
          refine ml_sizes C dX7_twine_82 (vp_in_nI hj (by decide)) ?_
          rw [nI_clamp (by omega), show va_up R4 26 P 6 j = nI z from hz]
          refine r_icmp_ge (tgt := 239) C dX7_twine_83 (by decide) (fun c83 => absurd c83 ((nI_ge (by omega) (by omega)))) (fun c83 => ?_)
          refine r_aload_n C dX7_twine_86 rfl rfl ?_
          refine mg_rows C dX7_twine_87 ?_
          refine r_sipush (v := 300) C dX7_twine_90 (by decide) ?_
          refine r_iload_n C dX7_twine_93 rfl rfl ?_
          refine r_imul C dX7_twine_94 ?_
          refine r_iload C dX7_twine_95 rfl ?_
          refine r_iadd C dX7_twine_97 ?_
          show V X 0 0 98 _ [.int (nI 300 * nI j + nI i), .ref (ad 7)] _
          rw [pk_mul, nI_add]
          refine ml_rows C dX7_twine_98 (vp_in_nI (show 300 * j + i < 2400 by omega) (by decide)) ?_
          rw [nI_clamp (by omega), hrow]
          refine r_istore C dX7_twine_99 (by decide) ?_
          rcases hci with hci | hci <;> rw [hci] at j116 ⊢
          · refine r_iload C dX7_twine_101 rfl ?_
            refine r_if_le (tgt := 111) C dX7_twine_103 (by decide) (fun c103 => absurd c103 ((Int32.not_le.mpr (pos_nI hi1 (by omega))))) (fun c103 => ?_)
            refine r_iload C dX7_twine_106 rfl ?_
            refine r_goto (tgt := 114) C dX7_twine_108 (by decide) ?_
            refine r_istore C dX7_twine_114 (by decide) ?_
            exact j116
          · refine r_iload C dX7_twine_101 rfl ?_
            refine r_if_le (tgt := 111) C dX7_twine_103 (by decide) (fun c103 => ?_) (fun c103 => absurd c103 ((fun q => q (Int32.le_of_lt (neg_lt0 hi1 (by omega))))))
            refine r_iload C dX7_twine_111 rfl ?_
            refine r_ineg C dX7_twine_113 ?_
            rw [Int32.neg_neg]
            refine r_istore C dX7_twine_114 (by decide) ?_
            exact j116
      refine r_iload C dX7_twine_65 rfl ?_
      refine r_iload C dX7_twine_67 rfl ?_
      refine r_icmp_ge (tgt := 245) C dX7_twine_69 (by decide) (fun c69 => absurd c69 ((nI_ge (by omega) (by omega)))) (fun c69 => ?_)
      refine r_iconst (v := 0) C dX7_twine_72 (by decide) ?_
      refine r_istore C dX7_twine_73 (by decide) ?_
      exact inner z 0 (by omega)
  exact outer m 0 (by omega)
end M11
end
section
/-! the reference: score -/
/-- the same but for what is scratch -/
def Sc (R R' : Rt) : Prop := ∀ i, i ≠ 26 → i ≠ 27 → i ≠ 43 → i ≠ 44 → R' i = R i
theorem Sc.rf {R : Rt} : Sc R R := fun _ _ _ _ _ => rfl
theorem Sc.up {R R' : Rt} {k : Nat} {P : Nat → Int32} (h : Sc R R') (hk : k = 26 ∨ k = 27 ∨ k = 43 ∨ k = 44) : Sc R (va_up R' k P) := by
  intro i h1 h2 h3 h4
  unfold va_up
  rw [if_neg (by omega)]
  exact h i h1 h2 h3 h4
theorem Sc.pat {R R' : Rt} (h : Sc R R') {j s z : Nat} (hp : PatOK R j s z) : PatOK R' j s z := by
  unfold PatOK rowOf at *
  rw [h 5 (by decide) (by decide) (by decide) (by decide), h 6 (by decide) (by decide) (by decide) (by decide), h 7 (by decide) (by decide) (by decide) (by decide)]
  exact hp
theorem Sc.row {R R' : Rt} (h : Sc R R') {j : Nat} : rowOf R' j = rowOf R j := by
  unfold rowOf
  rw [h 7 (by decide) (by decide) (by decide) (by decide)]
noncomputable def uOf (c : Nat → Int32) (z p : Nat) : Nat := 2 * lvMost c z + usF c p z
theorem uOf_le {c : Nat → Int32} {z p : Nat} (h : z ≤ 300) : uOf c z p ≤ 900 := by
  have h1 := lvMost_le (c := c) z
  have h2 := usF_le (c := c) (p := p) z
  unfold uOf
  omega
def usT (u g : Nat → Nat) (p : Nat) : Nat → Nat
  | 0 => 0
  | t + 1 => usT u g p t + u (itr g t p)
theorem usT_le {u g : Nat → Nat} {p B : Nat} (h : ∀ q, u q ≤ B) : ∀ t, usT u g p t ≤ t * B
  | 0 => by simp [usT]
  | t + 1 => by
    have ih := usT_le (g := g) (p := p) h t
    have h1 := h (itr g t p)
    have e : (t + 1) * B = t * B + B := Nat.succ_mul t B
    unfold usT
    omega
def needN (u g : Nat → Nat) (T : Nat) : Nat → Nat
  | 0 => 0
  | p + 1 => needN u g T p + (usT u g (p + 1) T + 99) / 100
theorem needN_le {u g : Nat → Nat} {T : Nat} (hu : ∀ q, u q ≤ 900) (hT : T ≤ 200) : ∀ p, needN u g T p ≤ p * 1801
  | 0 => by simp [needN]
  | p + 1 => by
    have ih := needN_le (g := g) hu hT p
    have h1 := usT_le (g := g) (p := p + 1) hu T
    unfold needN
    omega
def fB (R : Rt) : Nat → Int32 := fun b => (1 : Int32) <<< (R 31 b &&& 31)
noncomputable def scNeed (R : Rt) (j s z T : Nat) : Nat := needN (uOf (rowOf R j) z) (gT (rowOf R j) z) T s
noncomputable def scTk (R : Rt) (j s z T nb : Nat) (w : Int32) : TkT := tk (R 32) (fB R) w (R 33) (scNeed R j s z T) nb
noncomputable def scR (R : Rt) (j s z T nb ns : Nat) (w : Int32) : Rt :=
  va_up (va_up (va_up (va_up (va_up (va_up R 33 (scTk R j s z T nb w).1) 34 (upd (R 34) ns (nI (2 * lvMost (rowOf R j) z * T)))) 35 (upd (R 35) ns (nI (2 * lvMost (rowOf R j) z * T)))) 36 (upd (R 36) ns w)) 37 (upd (R 37) ns (scTk R j s z T nb w).2.2.1)) 38 (upd (R 38) ns (nI (scNeed R j s z T)))
def okS (R : Rt) (ns : Nat) (k t w : Int32) (j s z T wn : Nat) : Prop := ns ≠ 60 ∧ j < 8 ∧ k = nI j ∧ PatOK R j s z ∧ t = nI T ∧ 1 ≤ T ∧ T ≤ 200 ∧ w = nI wn ∧ 1 ≤ wn ∧ wn ≤ 9 ∧ HoldsP (rowOf R j) z s
section M12
variable (G : Gx) (h : Nat) (ad : Nat → Nat) (M : Mt) (R : Rt)
theorem c_score {nb ns : Nat} (k t w : Int32) (hP : PatsOK R) (h05 : ∀ j, j < 8 → R 5 j = 0 ∨ 0 < R 5 j) (hb : M 28 = nI nb) (hb40 : nb ≤ 40) (hs : M 29 = nI ns) (hs60 : ns ≤ 60) (hL : NumOK (R 33) nb 5000) : mI G h ad yX7_score cX7_score 10 .int 3 [.int k, .int t, .int w] M R (fun a M' R' => (((∀ j s z T wn : Nat, ¬ okS R ns k t w j s z T wn) ∨ (∃ j s z T wn : Nat, okS R ns k t w j s z T wn ∧ sumW (R 32) (R 33) w nb < scNeed R j s z T)) ∧ a = -1 ∧ M' = va_up M 0 0 ∧ Sc R R') ∨ (∃ j s z T wn : Nat, okS R ns k t w j s z T wn ∧ scNeed R j s z T ≤ sumW (R 32) (R 33) w nb ∧ a = nI ns ∧ M' = va_up (va_up M 0 0) 29 (nI (ns + 1)) ∧ Sc (scR R j s z T nb ns w) R')) := by
  refine mI.intro (by decide) (Nat.le_of_ble_eq_true rfl) (cat1 (xs := [k, t, w])) fun X C hR => ?_
  have j64 : ∀ Rc : Rt, Sc R Rc → (∀ j s z T wn : Nat, ¬ okS R ns k t w j s z T wn) → V X 0 0 64 (ent [.ref h, .int k, .int t, .int w] 10) [] (mW G h ad (va_up M 0 0) Rc) := by
    intro Rc hRc hno
    refine r_iconst (v := -1) C dX7_score_64 (by decide) ?_
    exact hR _ _ _ _ _ rfl dX7_score_65 (Or.inl ⟨Or.inl hno, rfl, rfl, hRc⟩)
  have c1 : (1 : Int32) = nI 1 := rfl
  have j66 : ∀ (Rc : Rt) (j s z T wn : Nat), Sc R Rc → okS R ns k t w j s z T wn → V X 0 0 66 (ent [.ref h, .int k, .int t, .int w] 10) [] (mW G h ad (va_up M 0 0) Rc) := by
    intro Rc j s z T wn hRc hoks
    obtain ⟨hn60, hj, rfl, hp, rfl, hT1, hT2, rfl, hw1, hw9, hhold⟩ := id hoks
    obtain ⟨hs5, hs2, hs7, hz, hz3, hok⟩ := id hp
    obtain ⟨c, hc⟩ : ∃ c, c = rowOf R j := ⟨_, rfl⟩
    obtain ⟨g, hg⟩ : ∃ g, g = gT c z := ⟨_, rfl⟩
    obtain ⟨u, hu⟩ : ∃ u, u = uOf c z := ⟨_, rfl⟩
    have hu9 : ∀ q, u q ≤ 900 := fun q => by rw [hu]; exact uOf_le hz3
    have hperm : PermOn g s := by rw [hg, hc]; exact gT_perm hs7 hok
    obtain ⟨need, hneed⟩ : ∃ need, need = needN u g T s := ⟨_, rfl⟩
    have hneedE : scNeed R j s z T = need := by rw [hneed, hu, hg, hc]; rfl
    have hn1 := needN_le (g := g) hu9 hT2 s
    have hsum := sumW_le (W := R 32) (w := nI wn) hL nb (Nat.le_refl _)
    have hcl : (M 29).toNatClampNeg = ns := by rw [hs, nI_clamp (by omega)]
    have hbd : vp_in (M 29) 60 := by rw [hs]; exact vp_in_nI (by omega) (by decide)
    have hlv := lvMost_le (c := c) z
    -- the end: the score is laid down
    have fin : ∀ Rc : Rt, Sc R Rc → need ≤ sumW (R 32) (R 33) (nI wn) nb → V X 0 0 359 [some (.ref h), some (.int (nI j)), some (.int (nI T)), some (.int (nI wn)), some (.int (nI need)), none, some (.int (tk (R 32) (fB R) (nI wn) (R 33) need nb).2.2.1), none, none, none] [] (mW G h ad (va_up M 0 0) (va_up Rc 33 (tk (R 32) (fB R) (nI wn) (R 33) need nb).1)) := by
      intro Rc hRc hle
      have hp2 : PatOK (va_up Rc 33 (tk (R 32) (fB R) (nI wn) (R 33) need nb).1) j s z := hRc.pat hp
      have hr2 : rowOf (va_up Rc 33 (tk (R 32) (fB R) (nI wn) (R 33) need nb).1) j = c := by rw [hc]; exact hRc.row
      refine r_aload_n C dX7_score_359 rfl rfl ?_
      refine mg_length C dX7_score_360 ?_
      refine r_aload_n C dX7_score_363 rfl rfl ?_
      refine mg_scores C dX7_score_364 ?_
      refine r_iconst (v := 2) C dX7_score_367 (by decide) ?_
      refine r_aload_n C dX7_score_368 rfl rfl ?_
      refine r_iload_n C dX7_score_369 rfl rfl ?_
      refine m_calli C (c_levels G h ad (va_up M 0 0) _ hj hp2) kM_levels dX7_score_370 rfl (by decide) (by decide) (by decide) (Nat.le_of_ble_eq_true rfl) rfl rfl (fun r M1 R1 hq => ?_)
      obtain ⟨rfl, rfl, P, rfl⟩ := hq
      rw [hr2, show (2 : Int32) = nI 2 from rfl]
      refine r_imul C dX7_score_373 ?_
      rw [pk_mul]
      refine r_iload_n C dX7_score_374 rfl rfl ?_
      refine r_imul C dX7_score_375 ?_
      rw [pk_mul]
      refine ms_length C dX7_score_376 (hbd) ?_
      show V X 0 0 377 _ _ (mW G h ad _ (va_up (va_up (va_up Rc 33 _) 27 P) 34 (upd (Rc 34) (M 29).toNatClampNeg _)))
      rw [hcl]
      refine r_aload_n C dX7_score_377 rfl rfl ?_
      refine mg_lengthLeft C dX7_score_378 ?_
      refine r_aload_n C dX7_score_381 rfl rfl ?_
      refine mg_scores C dX7_score_382 ?_
      refine r_aload_n C dX7_score_385 rfl rfl ?_
      refine mg_length C dX7_score_386 ?_
      refine r_aload_n C dX7_score_389 rfl rfl ?_
      refine mg_scores C dX7_score_390 ?_
      refine ml_length C dX7_score_393 (hbd) ?_
      show V X 0 0 394 _ [.int (upd (Rc 34) ns (nI (2 * lvMost c z * T)) (M 29).toNatClampNeg), .int (M 29), .ref (ad 35)] _
      rw [hcl, pk_us]
      refine ms_lengthLeft C dX7_score_394 (hbd) ?_
      refine r_aload_n C dX7_score_395 rfl rfl ?_
      refine mg_scoreWidth C dX7_score_396 ?_
      refine r_aload_n C dX7_score_399 rfl rfl ?_
      refine mg_scores C dX7_score_400 ?_
      refine r_iload_n C dX7_score_403 rfl rfl ?_
      refine ms_scoreWidth C dX7_score_404 (hbd) ?_
      refine r_aload_n C dX7_score_405 rfl rfl ?_
      refine mg_scoreFields C dX7_score_406 ?_
      refine r_aload_n C dX7_score_409 rfl rfl ?_
      refine mg_scores C dX7_score_410 ?_
      refine r_iload C dX7_score_413 rfl ?_
      refine ms_scoreFields C dX7_score_415 (hbd) ?_
      refine r_aload_n C dX7_score_416 rfl rfl ?_
      refine mg_scoreStraws C dX7_score_417 ?_
      refine r_aload_n C dX7_score_420 rfl rfl ?_
      refine mg_scores C dX7_score_421 ?_
      refine r_iload C dX7_score_424 rfl ?_
      refine ms_scoreStraws C dX7_score_426 (hbd) ?_
      show V X 0 0 427 _ _ (mW G h ad _ (va_up (va_up (va_up (va_up (va_up (va_up (va_up Rc 33 (tk (R 32) (fB R) (nI wn) (R 33) need nb).1) 27 P) 34 (upd (Rc 34) ns (nI (2 * lvMost c z * T)))) 35 (upd (Rc 35) (M 29).toNatClampNeg (nI (2 * lvMost c z * T)))) 36 (upd (Rc 36) (M 29).toNatClampNeg (nI wn))) 37 (upd (Rc 37) (M 29).toNatClampNeg (tk (R 32) (fB R) (nI wn) (R 33) need nb).2.2.1)) 38 (upd (Rc 38) (M 29).toNatClampNeg (nI need))))
      rw [hcl]
      refine r_aload_n C dX7_score_427 rfl rfl ?_
      refine r_dup C dX7_score_428 rfl ?_
      refine mg_scores C dX7_score_429 ?_
      refine r_iconst (v := 1) C dX7_score_432 (by decide) ?_
      refine r_iadd C dX7_score_433 ?_
      show V X 0 0 434 _ [.int (M 29 + 1), .ref h] _
      rw [hs, nI_1]
      refine mp_scores C dX7_score_434 ?_
      refine r_aload_n C dX7_score_437 rfl rfl ?_
      refine mg_scores C dX7_score_438 ?_
      refine r_iconst (v := 1) C dX7_score_441 (by decide) ?_
      refine r_isub C dX7_score_442 ?_
      show V X 0 0 443 _ [.int (nI (ns + 1) - 1)] _
      rw [nI_pred]
      exact hR _ _ _ _ _ rfl dX7_score_443 (Or.inr ⟨j, s, z, T, wn, hoks, by rw [hneedE]; exact hle, rfl, rfl, fun i h1 h2 h3 h4 => by
        have e := hRc i h1 h2 h3 h4
        unfold scR scTk
        rw [hneedE, ← hc]
        simp only [va_up]
        have e34 := hRc 34 (by decide) (by decide) (by decide) (by decide)
        have e35 := hRc 35 (by decide) (by decide) (by decide) (by decide)
        have e36 := hRc 36 (by decide) (by decide) (by decide) (by decide)
        have e37 := hRc 37 (by decide) (by decide) (by decide) (by decide)
        have e38 := hRc 38 (by decide) (by decide) (by decide) (by decide)
        rw [e34, e35, e36, e37, e38]
        rw [if_neg h2, e]⟩)
    have kD : ∀ Rc : Rt, Sc R Rc → need ≤ sumW (R 32) (R 33) (nI wn) nb → ∀ (f b : Nat), b + f = nb → V X 0 0 256 [some (.ref h), some (.int (nI j)), some (.int (nI T)), some (.int (nI wn)), some (.int (nI need)), none, some (.int (tk (R 32) (fB R) (nI wn) (R 33) need b).2.2.1), some (.int (nI (tk (R 32) (fB R) (nI wn) (R 33) need b).2.1)), some (.int (nI b)), none] [] (mW G h ad (va_up M 0 0) (va_up Rc 33 (tk (R 32) (fB R) (nI wn) (R 33) need b).1)) := by
      intro Rc hRc hle f
      have hR32 : ∀ lf, va_up Rc 33 lf 32 = R 32 := fun lf => hRc 32 (by decide) (by decide) (by decide) (by decide)
      have hR31 : ∀ lf, va_up Rc 33 lf 31 = R 31 := fun lf => hRc 31 (by decide) (by decide) (by decide) (by decide)
      induction f with
      | zero =>
        intro b hbf
        have hbn : b = nb := by omega
        subst hbn
        refine r_iload C dX7_score_256 rfl ?_
        refine r_aload_n C dX7_score_258 rfl rfl ?_
        refine mg_bundles C dX7_score_259 ?_
        show V X 0 0 262 _ [.int (M 28), .int (nI b)] _
        rw [hb]
        refine r_icmp_ge (tgt := 359) C dX7_score_262 (by decide) (fun c262 => ?_) (fun c262 => absurd c262 ((fun q => q (nI_le (by omega) (by omega)))))
        exact V.keep [true, true, true, true, true, true, true, false, false, false] (fin Rc hRc hle)
      | succ f ih =>
        intro b hbf
        have nx := ih (b + 1) (by omega)
        have hko := tk_ok (W := R 32) (F := fB R) (w := nI wn) (need := need) (by decide) hL b
        have hst : tk (R 32) (fB R) (nI wn) (R 33) need (b + 1) = tkS (R 32) (fB R) (nI wn) b (tk (R 32) (fB R) (nI wn) (R 33) need b) := rfl
        have hend : (tk (R 32) (fB R) (nI wn) (R 33) need b).2.1 = 0 → tk (R 32) (fB R) (nI wn) (R 33) need nb = tk (R 32) (fB R) (nI wn) (R 33) need b := by
          intro q
          have := tk_stop q (nb - b)
          rw [show b + (nb - b) = nb by omega] at this
          exact this
        have fin' := fin Rc hRc hle
        rw [hst] at nx
        generalize tk (R 32) (fB R) (nI wn) (R 33) need b = Q at nx hko hend ⊢
        obtain ⟨lf, more, fl, of⟩ := Q
        dsimp only at nx hko hend ⊢
        have hlf := hko.1 b (by omega)
        obtain ⟨yl, hyl⟩ : ∃ y, y = cl (lf b) := ⟨_, rfl⟩
        rw [← hyl] at hlf
        have j353 : ∀ o9 : Option Value, ¬ (0 < more ∧ R 32 b = nI wn ∧ lf b ≠ 0) → V X 0 0 353 [some (.ref h), some (.int (nI j)), some (.int (nI T)), some (.int (nI wn)), some (.int (nI need)), none, some (.int fl), some (.int (nI more)), some (.int (nI b)), o9] [] (mW G h ad (va_up M 0 0) (va_up Rc 33 lf)) := by
          intro o9 hno
          unfold tkS at nx
          rw [if_neg hno] at nx
          refine r_iinc (v := _ + 1) C dX7_score_353 rfl (by rfl) (by decide) ?_
          rw [nI_1]
          refine r_goto (tgt := 256) C dX7_score_356 (by decide) ?_
          exact V.keep [true, true, true, true, true, true, true, true, true, false] nx
        have j320 : 0 < more → R 32 b = nI wn → lf b ≠ 0 → V X 0 0 320 [some (.ref h), some (.int (nI j)), some (.int (nI T)), some (.int (nI wn)), some (.int (nI need)), none, some (.int fl), some (.int (nI more)), some (.int (nI b)), some (.int (nI (min yl more)))] [] (mW G h ad (va_up M 0 0) (va_up Rc 33 lf)) := by
          intro hm hW hl0
          unfold tkS at nx
          rw [if_pos ⟨hm, hW, hl0⟩] at nx
          dsimp only at nx
          rw [← hyl] at nx
          refine r_aload_n C dX7_score_320 rfl rfl ?_
          refine mg_leftOf C dX7_score_321 ?_
          refine r_iload C dX7_score_324 rfl ?_
          refine r_dup2 C dX7_score_326 rfl rfl ?_
          refine ml_leftOf C dX7_score_327 (vp_in_nI (show b < 40 by omega) (by decide)) ?_
          rw [nI_clamp (by omega)]
          show V X 0 0 328 _ (.int (lf b) :: _) _
          rw [hlf.1]
          refine r_iload C dX7_score_328 rfl ?_
          refine r_isub C dX7_score_330 ?_
          rw [pk_sub (Nat.min_le_left _ _)]
          refine ms_leftOf C dX7_score_331 (vp_in_nI (show b < 40 by omega) (by decide)) ?_
          rw [nI_clamp (by omega)]
          show V X 0 0 332 _ _ (mW G h ad _ (va_up (va_up Rc 33 lf) 33 (upd lf b (nI (yl - min yl more)))))
          rw [up_up]
          refine r_iload C dX7_score_332 rfl ?_
          refine r_iload C dX7_score_334 rfl ?_
          refine r_isub C dX7_score_336 ?_
          rw [pk_sub (Nat.min_le_right _ _)]
          refine r_istore C dX7_score_337 (by decide) ?_
          refine r_iload C dX7_score_339 rfl ?_
          refine r_iconst (v := 1) C dX7_score_341 (by decide) ?_
          refine r_aload_n C dX7_score_342 rfl rfl ?_
          refine mg_field C dX7_score_343 ?_
          refine r_iload C dX7_score_346 rfl ?_
          refine ml_field C dX7_score_348 (vp_in_nI (show b < 40 by omega) (by decide)) ?_
          rw [nI_clamp (by omega), hR31]
          refine r_ishl C dX7_score_349 ?_
          refine r_ior C dX7_score_350 ?_
          refine r_istore C dX7_score_351 (by decide) ?_
          refine r_iinc (v := _ + 1) C dX7_score_353 rfl (by rfl) (by decide) ?_
          rw [nI_1]
          refine r_goto (tgt := 256) C dX7_score_356 (by decide) ?_
          exact V.keep [true, true, true, true, true, true, true, true, true, false] nx
        refine r_iload C dX7_score_256 rfl ?_
        refine r_aload_n C dX7_score_258 rfl rfl ?_
        refine mg_bundles C dX7_score_259 ?_
        show V X 0 0 262 _ [.int (M 28), .int (nI b)] _
        rw [hb]
        refine r_icmp_ge (tgt := 359) C dX7_score_262 (by decide) (fun c262 => absurd c262 ((nI_ge (by omega) (by omega)))) (fun c262 => ?_)
        refine r_iload C dX7_score_265 rfl ?_
        refine r_if_le (tgt := 359) C dX7_score_267 (by decide) (fun c267 => ?_) (fun c267 => ?_)
        · exact (by
            have hm0 : more = 0 := (Nat.eq_zero_or_pos more).elim id (fun q => absurd c267 (nI_nle q (by omega)))
            rw [hend hm0] at fin'
            exact V.keep [true, true, true, true, true, true, true, false, false, false] fin')
        · have hm : 0 < more := (Nat.eq_zero_or_pos more).elim (fun q => absurd (show nI more ≤ 0 by rw [q]; decide) c267) id
          refine r_aload_n C dX7_score_270 rfl rfl ?_
          refine mg_bundleWidth C dX7_score_271 ?_
          refine r_iload C dX7_score_274 rfl ?_
          refine ml_bundleWidth C dX7_score_276 (vp_in_nI (show b < 40 by omega) (by decide)) ?_
          rw [nI_clamp (by omega), hR32]
          refine r_iload_n C dX7_score_277 rfl rfl ?_
          refine r_icmp_ne (tgt := 353) C dX7_score_278 (by decide) (fun c278 => ?_) (fun c278 => ?_)
          · first
              | exact j353 _ (fun q => c278 q.2.1)
              | exact j353 _ (fun q => q.2.2 c288)
          · refine r_aload_n C dX7_score_281 rfl rfl ?_
            refine mg_leftOf C dX7_score_282 ?_
            refine r_iload C dX7_score_285 rfl ?_
            refine ml_leftOf C dX7_score_287 (vp_in_nI (show b < 40 by omega) (by decide)) ?_
            rw [nI_clamp (by omega)]
            refine r_if_ne (tgt := 294) C dX7_score_288 (by decide) (fun c288 => ?_) (fun c288 => ?_)
            · refine r_aload_n C dX7_score_294 rfl rfl ?_
              refine mg_leftOf C dX7_score_295 ?_
              refine r_iload C dX7_score_298 rfl ?_
              refine ml_leftOf C dX7_score_300 (vp_in_nI (show b < 40 by omega) (by decide)) ?_
              rw [nI_clamp (by omega)]
              refine r_iload C dX7_score_301 rfl ?_
              show V X 0 0 303 _ [.int (nI more), .int (lf b)] _
              rw [hlf.1]
              refine r_icmp_ge (tgt := 316) C dX7_score_303 (by decide) (fun c303 => ?_) (fun c303 => ?_)
              · rw [nI_leI (by omega) (by omega)] at c303
                refine r_iload C dX7_score_316 rfl ?_
                refine r_istore C dX7_score_318 (by decide) ?_
                exact (by
                  have q := j320 hm c278 c288
                  first | (rw [Nat.min_eq_left (by omega)] at q; exact q) | (rw [Nat.min_eq_right (by omega)] at q; exact q))
              · rw [nI_leI (by omega) (by omega)] at c303
                refine r_aload_n C dX7_score_306 rfl rfl ?_
                refine mg_leftOf C dX7_score_307 ?_
                refine r_iload C dX7_score_310 rfl ?_
                refine ml_leftOf C dX7_score_312 (vp_in_nI (show b < 40 by omega) (by decide)) ?_
                rw [nI_clamp (by omega)]
                show V X 0 0 313 _ [.int (lf b)] _
                rw [hlf.1]
                refine r_goto (tgt := 318) C dX7_score_313 (by decide) ?_
                refine r_istore C dX7_score_318 (by decide) ?_
                exact (by
                  have q := j320 hm c278 c288
                  first | (rw [Nat.min_eq_left (by omega)] at q; exact q) | (rw [Nat.min_eq_right (by omega)] at q; exact q))
            · refine r_goto (tgt := 353) C dX7_score_291 (by decide) ?_
              first
                | exact j353 _ (fun q => c278 q.2.1)
                | exact j353 _ (fun q => q.2.2 c288)
    have kC : ∀ Rc : Rt, Sc R Rc → ∀ (f b : Nat), b + f = nb → V X 0 0 199 [some (.ref h), some (.int (nI j)), some (.int (nI T)), some (.int (nI wn)), some (.int (nI need)), some (.int (nI (sumW (R 32) (R 33) (nI wn) b))), some (.int (nI b)), none, none, none] [] (mW G h ad (va_up M 0 0) Rc) := by
      intro Rc hRc f
      have hR32 : Rc 32 = R 32 := hRc 32 (by decide) (by decide) (by decide) (by decide)
      have hR33 : Rc 33 = R 33 := hRc 33 (by decide) (by decide) (by decide) (by decide)
      induction f with
      | zero =>
        intro b hbf
        have hbn : b = nb := by omega
        subst hbn
        refine r_iload C dX7_score_199 rfl ?_
        refine r_aload_n C dX7_score_201 rfl rfl ?_
        refine mg_bundles C dX7_score_202 ?_
        show V X 0 0 205 _ [.int (M 28), .int (nI b)] _
        rw [hb]
        refine r_icmp_ge (tgt := 237) C dX7_score_205 (by decide) (fun c205 => ?_) (fun c205 => absurd c205 ((fun q => q (nI_le (by omega) (by omega)))))
        refine r_iload C dX7_score_237 rfl ?_
        refine r_iload C dX7_score_239 rfl ?_
        refine r_icmp_ge (tgt := 246) C dX7_score_241 (by decide) (fun c241 => ?_) (fun c241 => ?_)
        · rw [nI_leI (by omega) (by omega)] at c241
          refine r_iconst (v := 0) C dX7_score_246 (by decide) ?_
          refine r_istore C dX7_score_247 (by decide) ?_
          refine r_iload C dX7_score_249 rfl ?_
          refine r_istore C dX7_score_251 (by decide) ?_
          refine r_iconst (v := 0) C dX7_score_253 (by decide) ?_
          refine r_istore C dX7_score_254 (by decide) ?_
          exact (by
            have q := kD Rc hRc c241 b 0 (by omega)
            rw [show (tk (R 32) (fB R) (nI wn) (R 33) need 0).1 = Rc 33 from hR33.symm, up_same rfl] at q
            exact V.keep [true, true, true, true, true, false, true, true, true, false] q)
        · rw [nI_leI (by omega) (by omega)] at c241
          refine r_iconst (v := -1) C dX7_score_244 (by decide) ?_
          exact hR _ _ _ _ _ rfl dX7_score_245 (Or.inl ⟨Or.inr ⟨j, s, z, T, wn, hoks, by rw [hneedE]; omega⟩, rfl, rfl, hRc⟩)
      | succ f ih =>
        intro b hbf
        have nx := ih (b + 1) (by omega)
        have hLs := hL b (by omega)
        refine r_iload C dX7_score_199 rfl ?_
        refine r_aload_n C dX7_score_201 rfl rfl ?_
        refine mg_bundles C dX7_score_202 ?_
        show V X 0 0 205 _ [.int (M 28), .int (nI b)] _
        rw [hb]
        refine r_icmp_ge (tgt := 237) C dX7_score_205 (by decide) (fun c205 => absurd c205 ((nI_ge (by omega) (by omega)))) (fun c205 => ?_)
        refine r_aload_n C dX7_score_208 rfl rfl ?_
        refine mg_bundleWidth C dX7_score_209 ?_
        refine r_iload C dX7_score_212 rfl ?_
        refine ml_bundleWidth C dX7_score_214 (vp_in_nI (show b < 40 by omega) (by decide)) ?_
        rw [nI_clamp (by omega), hR32]
        refine r_iload_n C dX7_score_215 rfl rfl ?_
        refine r_icmp_ne (tgt := 231) C dX7_score_216 (by decide) (fun c216 => ?_) (fun c216 => ?_)
        · refine r_iinc (v := _ + 1) C dX7_score_231 rfl (by rfl) (by decide) ?_
          rw [nI_1]
          refine r_goto (tgt := 199) C dX7_score_234 (by decide) ?_
          exact (by
            unfold sumW at nx
            first | (rw [if_pos c216] at nx; exact nx) | (rw [if_neg c216] at nx; exact nx))
        · refine r_iload C dX7_score_219 rfl ?_
          refine r_aload_n C dX7_score_221 rfl rfl ?_
          refine mg_leftOf C dX7_score_222 ?_
          refine r_iload C dX7_score_225 rfl ?_
          refine ml_leftOf C dX7_score_227 (vp_in_nI (show b < 40 by omega) (by decide)) ?_
          rw [nI_clamp (by omega), hR33, hLs.1]
          refine r_iadd C dX7_score_228 ?_
          rw [nI_add]
          refine r_istore C dX7_score_229 (by decide) ?_
          refine r_iinc (v := _ + 1) C dX7_score_231 rfl (by rfl) (by decide) ?_
          rw [nI_1]
          refine r_goto (tgt := 199) C dX7_score_234 (by decide) ?_
          exact (by
            unfold sumW at nx
            first | (rw [if_pos c216] at nx; exact nx) | (rw [if_neg c216] at nx; exact nx))
    have kB : ∀ Rc : Rt, Sc R Rc → (∀ q, 1 ≤ q → q ≤ s → Rc 43 q = nI (u q) ∧ Rc 44 q = nI (g q)) → ∀ (f p : Nat) (o6 o7 o8 : Option Value), p + f = s → V X 0 0 120 [some (.ref h), some (.int (nI j)), some (.int (nI T)), some (.int (nI wn)), some (.int (nI (needN u g T p))), some (.int (nI (p + 1))), o6, o7, o8, none] [] (mW G h ad (va_up M 0 0) Rc) := by
      intro Rc hRc hug f
      have hR5 : Rc 5 j = nI s := by rw [hRc 5 (by decide) (by decide) (by decide) (by decide)]; exact hs5
      induction f with
      | zero =>
        intro p o6 o7 o8 hpf
        have hps : p = s := by omega
        subst hps
        refine r_iload C dX7_score_120 rfl ?_
        refine r_aload_n C dX7_score_122 rfl rfl ?_
        refine mg_straws C dX7_score_123 ?_
        refine r_iload_n C dX7_score_126 rfl rfl ?_
        refine ml_straws C dX7_score_127 (vp_in_nI hj (by decide)) ?_
        rw [nI_clamp (by omega), hR5]
        refine r_icmp_gt (tgt := 193) C dX7_score_128 (by decide) (fun c128 => ?_) (fun c128 => absurd c128 ((fun q => q (nI_lt (by omega) (by omega)))))
        refine r_iconst (v := 0) C dX7_score_193 (by decide) ?_
        refine r_istore C dX7_score_194 (by decide) ?_
        refine r_iconst (v := 0) C dX7_score_196 (by decide) ?_
        refine r_istore C dX7_score_197 (by decide) ?_
        exact V.keep [true, true, true, true, true, true, true, false, false, false] (by rw [← hneed]; exact kC Rc hRc nb 0 (by omega))
      | succ f ih =>
        intro p o6 o7 o8 hpf
        have hnp := needN_le (g := g) hu9 hT2 p
        have hti := usT_le (g := g) (p := p + 1) hu9 T
        have inner : ∀ (f' t' : Nat), t' + f' = T → V X 0 0 141 [some (.ref h), some (.int (nI j)), some (.int (nI T)), some (.int (nI wn)), some (.int (nI (needN u g T p))), some (.int (nI (p + 1))), some (.int (nI (itr g t' (p + 1)))), some (.int (nI (usT u g (p + 1) t'))), some (.int (nI t')), none] [] (mW G h ad (va_up M 0 0) Rc) := by
          intro f'
          induction f' with
          | zero =>
            intro t' htf
            have htT : t' = T := by omega
            subst htT
            refine r_iload C dX7_score_141 rfl ?_
            refine r_iload_n C dX7_score_143 rfl rfl ?_
            refine r_icmp_ge (tgt := 174) C dX7_score_144 (by decide) (fun c144 => ?_) (fun c144 => absurd c144 ((fun q => q (nI_le (by omega) (by omega)))))
            refine r_iload C dX7_score_174 rfl ?_
            refine r_iload C dX7_score_176 rfl ?_
            refine r_bipush (v := 99) C dX7_score_178 (by decide) ?_
            refine r_iadd C dX7_score_180 ?_
            rw [show (99 : Int32) = nI 99 from rfl, nI_add]
            refine r_bipush (v := 100) C dX7_score_181 (by decide) ?_
            rw [show (100 : Int32) = nI 100 from rfl]
            refine r_idiv C dX7_score_183 (nI_ne0 (by decide) (by decide)) ?_
            rw [pk_div (by omega) (by decide) (by decide)]
            refine r_iadd C dX7_score_184 ?_
            rw [nI_add]
            refine r_istore C dX7_score_185 (by decide) ?_
            refine r_iinc (v := _ + 1) C dX7_score_187 rfl (by rfl) (by decide) ?_
            rw [nI_1]
            refine r_goto (tgt := 120) C dX7_score_190 (by decide) ?_
            exact ih (p + 1) _ _ _ (by omega)
          | succ f' ih' =>
            intro t' htf
            have hin := itr_in hperm (show 1 ≤ p + 1 by omega) (show p + 1 ≤ s by omega) t'
            have hq := hug (itr g t' (p + 1)) hin.1 hin.2
            refine r_iload C dX7_score_141 rfl ?_
            refine r_iload_n C dX7_score_143 rfl rfl ?_
            refine r_icmp_ge (tgt := 174) C dX7_score_144 (by decide) (fun c144 => absurd c144 ((nI_ge (by omega) (by omega)))) (fun c144 => ?_)
            refine r_iload C dX7_score_147 rfl ?_
            refine r_aload_n C dX7_score_149 rfl rfl ?_
            refine mg_uses C dX7_score_150 ?_
            refine r_iload C dX7_score_153 rfl ?_
            refine ml_uses C dX7_score_155 (vp_in_nI (show itr g t' (p + 1) < 8 by omega) (by decide)) ?_
            rw [nI_clamp (by omega), hq.1]
            refine r_iadd C dX7_score_156 ?_
            rw [nI_add]
            refine r_istore C dX7_score_157 (by decide) ?_
            refine r_aload_n C dX7_score_159 rfl rfl ?_
            refine mg_next C dX7_score_160 ?_
            refine r_iload C dX7_score_163 rfl ?_
            refine ml_next C dX7_score_165 (vp_in_nI (show itr g t' (p + 1) < 8 by omega) (by decide)) ?_
            rw [nI_clamp (by omega), hq.2]
            refine r_istore C dX7_score_166 (by decide) ?_
            refine r_iinc (v := _ + 1) C dX7_score_168 rfl (by rfl) (by decide) ?_
            rw [nI_1]
            refine r_goto (tgt := 141) C dX7_score_171 (by decide) ?_
            exact ih' (t' + 1) (by omega)
        refine r_iload C dX7_score_120 rfl ?_
        refine r_aload_n C dX7_score_122 rfl rfl ?_
        refine mg_straws C dX7_score_123 ?_
        refine r_iload_n C dX7_score_126 rfl rfl ?_
        refine ml_straws C dX7_score_127 (vp_in_nI hj (by decide)) ?_
        rw [nI_clamp (by omega), hR5]
        refine r_icmp_gt (tgt := 193) C dX7_score_128 (by decide) (fun c128 => absurd c128 ((nI_nlt (by omega) (by omega)))) (fun c128 => ?_)
        refine r_iload C dX7_score_131 rfl ?_
        refine r_istore C dX7_score_133 (by decide) ?_
        refine r_iconst (v := 0) C dX7_score_135 (by decide) ?_
        refine r_istore C dX7_score_136 (by decide) ?_
        refine r_iconst (v := 0) C dX7_score_138 (by decide) ?_
        refine r_istore C dX7_score_139 (by decide) ?_
        exact inner T 0 (by omega)
    have kA : ∀ (f p : Nat) (Rc : Rt), p + f = s → Sc R Rc → (∀ q, 1 ≤ q → q ≤ p → Rc 43 q = nI (u q) ∧ Rc 44 q = nI (g q)) → V X 0 0 69 [some (.ref h), some (.int (nI j)), some (.int (nI T)), some (.int (nI wn)), some (.int (nI (p + 1))), none, none, none, none, none] [] (mW G h ad (va_up M 0 0) Rc) := by
      intro f
      induction f with
      | zero =>
        intro p Rc hpf hRc hug
        have hps : p = s := by omega
        subst hps
        have hR5 : Rc 5 j = nI p := by rw [hRc 5 (by decide) (by decide) (by decide) (by decide)]; exact hs5
        refine r_iload C dX7_score_69 rfl ?_
        refine r_aload_n C dX7_score_71 rfl rfl ?_
        refine mg_straws C dX7_score_72 ?_
        refine r_iload_n C dX7_score_75 rfl rfl ?_
        refine ml_straws C dX7_score_76 (vp_in_nI hj (by decide)) ?_
        rw [nI_clamp (by omega), hR5]
        refine r_icmp_gt (tgt := 114) C dX7_score_77 (by decide) (fun c77 => ?_) (fun c77 => absurd c77 ((fun q => q (nI_lt (by omega) (by omega)))))
        refine r_iconst (v := 0) C dX7_score_114 (by decide) ?_
        refine r_istore C dX7_score_115 (by decide) ?_
        refine r_iconst (v := 1) C dX7_score_117 (by decide) ?_
        refine r_istore C dX7_score_118 (by decide) ?_
        exact kB Rc hRc hug p 0 _ _ _ (by omega)
      | succ f ih =>
        intro p Rc hpf hRc hug
        have hR5 : Rc 5 j = nI s := by rw [hRc 5 (by decide) (by decide) (by decide) (by decide)]; exact hs5
        refine r_iload C dX7_score_69 rfl ?_
        refine r_aload_n C dX7_score_71 rfl rfl ?_
        refine mg_straws C dX7_score_72 ?_
        refine r_iload_n C dX7_score_75 rfl rfl ?_
        refine ml_straws C dX7_score_76 (vp_in_nI hj (by decide)) ?_
        rw [nI_clamp (by omega), hR5]
        refine r_icmp_gt (tgt := 114) C dX7_score_77 (by decide) (fun c77 => absurd c77 ((nI_nlt (by omega) (by omega)))) (fun c77 => ?_)
        refine r_aload_n C dX7_score_80 rfl rfl ?_
        refine mg_uses C dX7_score_81 ?_
        refine r_iload C dX7_score_84 rfl ?_
        refine r_aload_n C dX7_score_86 rfl rfl ?_
        refine r_iload_n C dX7_score_87 rfl rfl ?_
        refine r_iload C dX7_score_88 rfl ?_
        refine m_calli C (c_useOf G h ad (va_up M 0 0) Rc hj (hRc.pat hp) (show 1 ≤ p + 1 by omega) (by omega)) kM_useOf dX7_score_90 rfl (by decide) (by decide) (by decide) (Nat.le_of_ble_eq_true rfl) rfl rfl (fun r M1 R1 hq => ?_)
        obtain ⟨rfl, rfl, P, rfl⟩ := hq
        rw [hRc.row, ← hc, show 2 * lvMost c z + usF c (p + 1) z = u (p + 1) by rw [hu]; rfl]
        refine ms_uses C dX7_score_93 (vp_in_nI (show p + 1 < 8 by omega) (by decide)) ?_
        rw [nI_clamp (by omega)]
        show V X 0 0 94 _ _ (mW G h ad _ (va_up (va_up Rc 27 P) 43 (upd (Rc 43) (p + 1) _)))
        refine r_aload_n C dX7_score_94 rfl rfl ?_
        refine mg_next C dX7_score_95 ?_
        refine r_iload C dX7_score_98 rfl ?_
        refine r_aload_n C dX7_score_100 rfl rfl ?_
        refine r_iload_n C dX7_score_101 rfl rfl ?_
        refine r_iload C dX7_score_102 rfl ?_
        refine m_calli C (c_goesTo G h ad (va_up M 0 0) _ hj (s := s) (z := z) (((hRc.up (Or.inr (Or.inl rfl))).up (Or.inr (Or.inr (Or.inl rfl)))).pat hp) (show 1 ≤ p + 1 by omega) (by omega)) kM_goesTo dX7_score_104 rfl (by decide) (by decide) (by decide) (Nat.le_of_ble_eq_true rfl) rfl rfl (fun r M1 R1 hq => ?_)
        obtain ⟨rfl, rfl, rfl⟩ := hq
        rw [((hRc.up (Or.inr (Or.inl rfl))).up (Or.inr (Or.inr (Or.inl rfl)))).row, ← hc, ← hg]
        refine ms_next C dX7_score_107 (vp_in_nI (show p + 1 < 8 by omega) (by decide)) ?_
        rw [nI_clamp (by omega)]
        show V X 0 0 108 _ _ (mW G h ad _ (va_up (va_up (va_up Rc 27 P) 43 (upd (Rc 43) (p + 1) (nI (u (p + 1))))) 44 (upd (Rc 44) (p + 1) (nI (g (p + 1))))))
        refine r_iinc (v := _ + 1) C dX7_score_108 rfl (by rfl) (by decide) ?_
        rw [nI_1]
        refine r_goto (tgt := 69) C dX7_score_111 (by decide) ?_
        exact ih (p + 1) _ (by omega) (((hRc.up (Or.inr (Or.inl rfl))).up (Or.inr (Or.inr (Or.inl rfl)))).up (Or.inr (Or.inr (Or.inr rfl)))) (fun q h1 h2 => by
          show upd (Rc 43) (p + 1) _ q = _ ∧ upd (Rc 44) (p + 1) _ q = _
          by_cases e : q = p + 1
          · subst e; exact ⟨pk_us, pk_us⟩
          · rw [pk_un e, pk_un e]; exact hug q h1 (by omega))
    refine r_iconst (v := 1) C dX7_score_66 (by decide) ?_
    refine r_istore C dX7_score_67 (by decide) ?_
    exact kA s 0 Rc (by omega) hRc (fun q h1 h2 => by omega)
  refine r_aload_n C dX7_score_0 rfl rfl ?_
  refine r_iconst (v := 0) C dX7_score_1 (by decide) ?_
  refine mp_thrown C dX7_score_2 ?_
  refine r_aload_n C dX7_score_5 rfl rfl ?_
  refine mg_scores C dX7_score_6 ?_
  refine r_bipush (v := 60) C dX7_score_9 (by decide) ?_
  show V X 0 0 11 _ [.int 60, .int (M 29)] _
  rw [hs]
  refine r_icmp_eq (tgt := 64) C dX7_score_11 (by decide) (fun c11 => ?_) (fun c11 => ?_)
  · first
      | exact j64 _ (Sc.rf.up (Or.inl rfl)) (fun j' s' z' T' wn' o => by
          obtain ⟨o1, o2, ok, o3, o4, o5, o6, o7, o8, o9, o10⟩ := o
          rw [nI_eq (by omega) (by omega)] at ok
          subst ok
          have e1 := hp.1.symm.trans o3.1
          have e2 := hp.2.2.2.1.symm.trans o3.2.2.2.1
          rw [nI_eq (by have := hp.2.2.1; omega) (by have := o3.2.2.1; omega)] at e1
          rw [nI_eq (by have := hp.2.2.2.2.1; omega) (by have := o3.2.2.2.2.1; omega)] at e2
          subst e1; subst e2
          exact hr.elim (fun q => absurd (q.1.symm.trans c61) (by decide)) (fun q => q.2 o10))
      | exact j64 _ Sc.rf (fun j' s' z' T' wn' o => absurd ((nI_eq (by omega) (by decide)).mp c11) o.1)
      | exact j64 _ Sc.rf (fun j' s' z' T' wn' o => absurd c15 (by rw [o.2.2.1]; exact nI_pos (by have := o.2.1; omega)))
      | exact j64 _ Sc.rf (fun j' s' z' T' wn' o => absurd c21 (by rw [o.2.2.1, show (7 : Int32) = nI 7 from rfl, nI_ltI (by decide) (by have := o.2.1; omega)]; have := o.2.1; omega))
      | exact j64 _ Sc.rf (fun j' s' z' T' wn' o => by
          have e := (nI_eq (by omega) (by have := o.2.1; omega)).mp o.2.2.1
          rw [e, o.2.2.2.1.1] at c30
          exact absurd c30 (nI_ne0 (by have := o.2.2.2.1.2.1; omega) (by have := o.2.2.2.1.2.2.1; omega)))
      | exact j64 _ Sc.rf (fun j' s' z' T' wn' o => absurd c35 (by rw [o.2.2.2.2.1, c1, nI_ltI (by have := o.2.2.2.2.2.2.1; omega) (by decide)]; have := o.2.2.2.2.2.1; omega))
      | exact j64 _ Sc.rf (fun j' s' z' T' wn' o => absurd c42 (by rw [o.2.2.2.2.1, show (200 : Int32) = nI 200 from rfl, nI_ltI (by decide) (by have := o.2.2.2.2.2.2.1; omega)]; have := o.2.2.2.2.2.2.1; omega))
      | exact j64 _ Sc.rf (fun j' s' z' T' wn' o => absurd c47 (by rw [o.2.2.2.2.2.2.2.1, c1, nI_ltI (by have := o.2.2.2.2.2.2.2.2.2.1; omega) (by decide)]; have := o.2.2.2.2.2.2.2.2.1; omega))
      | exact j64 _ Sc.rf (fun j' s' z' T' wn' o => absurd c53 (by rw [o.2.2.2.2.2.2.2.1, show (9 : Int32) = nI 9 from rfl, nI_ltI (by decide) (by have := o.2.2.2.2.2.2.2.2.2.1; omega)]; have := o.2.2.2.2.2.2.2.2.2.1; omega))
  · refine r_iload_n C dX7_score_14 rfl rfl ?_
    refine r_if_lt (tgt := 64) C dX7_score_15 (by decide) (fun c15 => ?_) (fun c15 => ?_)
    · first
        | exact j64 _ (Sc.rf.up (Or.inl rfl)) (fun j' s' z' T' wn' o => by
            obtain ⟨o1, o2, ok, o3, o4, o5, o6, o7, o8, o9, o10⟩ := o
            rw [nI_eq (by omega) (by omega)] at ok
            subst ok
            have e1 := hp.1.symm.trans o3.1
            have e2 := hp.2.2.2.1.symm.trans o3.2.2.2.1
            rw [nI_eq (by have := hp.2.2.1; omega) (by have := o3.2.2.1; omega)] at e1
            rw [nI_eq (by have := hp.2.2.2.2.1; omega) (by have := o3.2.2.2.2.1; omega)] at e2
            subst e1; subst e2
            exact hr.elim (fun q => absurd (q.1.symm.trans c61) (by decide)) (fun q => q.2 o10))
        | exact j64 _ Sc.rf (fun j' s' z' T' wn' o => absurd ((nI_eq (by omega) (by decide)).mp c11) o.1)
        | exact j64 _ Sc.rf (fun j' s' z' T' wn' o => absurd c15 (by rw [o.2.2.1]; exact nI_pos (by have := o.2.1; omega)))
        | exact j64 _ Sc.rf (fun j' s' z' T' wn' o => absurd c21 (by rw [o.2.2.1, show (7 : Int32) = nI 7 from rfl, nI_ltI (by decide) (by have := o.2.1; omega)]; have := o.2.1; omega))
        | exact j64 _ Sc.rf (fun j' s' z' T' wn' o => by
            have e := (nI_eq (by omega) (by have := o.2.1; omega)).mp o.2.2.1
            rw [e, o.2.2.2.1.1] at c30
            exact absurd c30 (nI_ne0 (by have := o.2.2.2.1.2.1; omega) (by have := o.2.2.2.1.2.2.1; omega)))
        | exact j64 _ Sc.rf (fun j' s' z' T' wn' o => absurd c35 (by rw [o.2.2.2.2.1, c1, nI_ltI (by have := o.2.2.2.2.2.2.1; omega) (by decide)]; have := o.2.2.2.2.2.1; omega))
        | exact j64 _ Sc.rf (fun j' s' z' T' wn' o => absurd c42 (by rw [o.2.2.2.2.1, show (200 : Int32) = nI 200 from rfl, nI_ltI (by decide) (by have := o.2.2.2.2.2.2.1; omega)]; have := o.2.2.2.2.2.2.1; omega))
        | exact j64 _ Sc.rf (fun j' s' z' T' wn' o => absurd c47 (by rw [o.2.2.2.2.2.2.2.1, c1, nI_ltI (by have := o.2.2.2.2.2.2.2.2.2.1; omega) (by decide)]; have := o.2.2.2.2.2.2.2.2.1; omega))
        | exact j64 _ Sc.rf (fun j' s' z' T' wn' o => absurd c53 (by rw [o.2.2.2.2.2.2.2.1, show (9 : Int32) = nI 9 from rfl, nI_ltI (by decide) (by have := o.2.2.2.2.2.2.2.2.2.1; omega)]; have := o.2.2.2.2.2.2.2.2.2.1; omega))
    · refine r_iload_n C dX7_score_18 rfl rfl ?_
      refine r_bipush (v := 7) C dX7_score_19 (by decide) ?_
      refine r_icmp_gt (tgt := 64) C dX7_score_21 (by decide) (fun c21 => ?_) (fun c21 => ?_)
      · first
          | exact j64 _ (Sc.rf.up (Or.inl rfl)) (fun j' s' z' T' wn' o => by
              obtain ⟨o1, o2, ok, o3, o4, o5, o6, o7, o8, o9, o10⟩ := o
              rw [nI_eq (by omega) (by omega)] at ok
              subst ok
              have e1 := hp.1.symm.trans o3.1
              have e2 := hp.2.2.2.1.symm.trans o3.2.2.2.1
              rw [nI_eq (by have := hp.2.2.1; omega) (by have := o3.2.2.1; omega)] at e1
              rw [nI_eq (by have := hp.2.2.2.2.1; omega) (by have := o3.2.2.2.2.1; omega)] at e2
              subst e1; subst e2
              exact hr.elim (fun q => absurd (q.1.symm.trans c61) (by decide)) (fun q => q.2 o10))
          | exact j64 _ Sc.rf (fun j' s' z' T' wn' o => absurd ((nI_eq (by omega) (by decide)).mp c11) o.1)
          | exact j64 _ Sc.rf (fun j' s' z' T' wn' o => absurd c15 (by rw [o.2.2.1]; exact nI_pos (by have := o.2.1; omega)))
          | exact j64 _ Sc.rf (fun j' s' z' T' wn' o => absurd c21 (by rw [o.2.2.1, show (7 : Int32) = nI 7 from rfl, nI_ltI (by decide) (by have := o.2.1; omega)]; have := o.2.1; omega))
          | exact j64 _ Sc.rf (fun j' s' z' T' wn' o => by
              have e := (nI_eq (by omega) (by have := o.2.1; omega)).mp o.2.2.1
              rw [e, o.2.2.2.1.1] at c30
              exact absurd c30 (nI_ne0 (by have := o.2.2.2.1.2.1; omega) (by have := o.2.2.2.1.2.2.1; omega)))
          | exact j64 _ Sc.rf (fun j' s' z' T' wn' o => absurd c35 (by rw [o.2.2.2.2.1, c1, nI_ltI (by have := o.2.2.2.2.2.2.1; omega) (by decide)]; have := o.2.2.2.2.2.1; omega))
          | exact j64 _ Sc.rf (fun j' s' z' T' wn' o => absurd c42 (by rw [o.2.2.2.2.1, show (200 : Int32) = nI 200 from rfl, nI_ltI (by decide) (by have := o.2.2.2.2.2.2.1; omega)]; have := o.2.2.2.2.2.2.1; omega))
          | exact j64 _ Sc.rf (fun j' s' z' T' wn' o => absurd c47 (by rw [o.2.2.2.2.2.2.2.1, c1, nI_ltI (by have := o.2.2.2.2.2.2.2.2.2.1; omega) (by decide)]; have := o.2.2.2.2.2.2.2.2.1; omega))
          | exact j64 _ Sc.rf (fun j' s' z' T' wn' o => absurd c53 (by rw [o.2.2.2.2.2.2.2.1, show (9 : Int32) = nI 9 from rfl, nI_ltI (by decide) (by have := o.2.2.2.2.2.2.2.2.2.1; omega)]; have := o.2.2.2.2.2.2.2.2.2.1; omega))
      · obtain ⟨j, hj8, rfl⟩ := nI_of2 (n := 7) (by decide) c15 (Int32.not_lt.mp c21)
        refine r_aload_n C dX7_score_24 rfl rfl ?_
        refine mg_straws C dX7_score_25 ?_
        refine r_iload_n C dX7_score_28 rfl rfl ?_
        refine ml_straws C dX7_score_29 (vp_in_nI (show j < 8 by omega) (by decide)) ?_
        rw [nI_clamp (by omega)]
        refine r_if_eq (tgt := 64) C dX7_score_30 (by decide) (fun c30 => ?_) (fun c30 => ?_)
        · first
            | exact j64 _ (Sc.rf.up (Or.inl rfl)) (fun j' s' z' T' wn' o => by
                obtain ⟨o1, o2, ok, o3, o4, o5, o6, o7, o8, o9, o10⟩ := o
                rw [nI_eq (by omega) (by omega)] at ok
                subst ok
                have e1 := hp.1.symm.trans o3.1
                have e2 := hp.2.2.2.1.symm.trans o3.2.2.2.1
                rw [nI_eq (by have := hp.2.2.1; omega) (by have := o3.2.2.1; omega)] at e1
                rw [nI_eq (by have := hp.2.2.2.2.1; omega) (by have := o3.2.2.2.2.1; omega)] at e2
                subst e1; subst e2
                exact hr.elim (fun q => absurd (q.1.symm.trans c61) (by decide)) (fun q => q.2 o10))
            | exact j64 _ Sc.rf (fun j' s' z' T' wn' o => absurd ((nI_eq (by omega) (by decide)).mp c11) o.1)
            | exact j64 _ Sc.rf (fun j' s' z' T' wn' o => absurd c15 (by rw [o.2.2.1]; exact nI_pos (by have := o.2.1; omega)))
            | exact j64 _ Sc.rf (fun j' s' z' T' wn' o => absurd c21 (by rw [o.2.2.1, show (7 : Int32) = nI 7 from rfl, nI_ltI (by decide) (by have := o.2.1; omega)]; have := o.2.1; omega))
            | exact j64 _ Sc.rf (fun j' s' z' T' wn' o => by
                have e := (nI_eq (by omega) (by have := o.2.1; omega)).mp o.2.2.1
                rw [e, o.2.2.2.1.1] at c30
                exact absurd c30 (nI_ne0 (by have := o.2.2.2.1.2.1; omega) (by have := o.2.2.2.1.2.2.1; omega)))
            | exact j64 _ Sc.rf (fun j' s' z' T' wn' o => absurd c35 (by rw [o.2.2.2.2.1, c1, nI_ltI (by have := o.2.2.2.2.2.2.1; omega) (by decide)]; have := o.2.2.2.2.2.1; omega))
            | exact j64 _ Sc.rf (fun j' s' z' T' wn' o => absurd c42 (by rw [o.2.2.2.2.1, show (200 : Int32) = nI 200 from rfl, nI_ltI (by decide) (by have := o.2.2.2.2.2.2.1; omega)]; have := o.2.2.2.2.2.2.1; omega))
            | exact j64 _ Sc.rf (fun j' s' z' T' wn' o => absurd c47 (by rw [o.2.2.2.2.2.2.2.1, c1, nI_ltI (by have := o.2.2.2.2.2.2.2.2.2.1; omega) (by decide)]; have := o.2.2.2.2.2.2.2.2.1; omega))
            | exact j64 _ Sc.rf (fun j' s' z' T' wn' o => absurd c53 (by rw [o.2.2.2.2.2.2.2.1, show (9 : Int32) = nI 9 from rfl, nI_ltI (by decide) (by have := o.2.2.2.2.2.2.2.2.2.1; omega)]; have := o.2.2.2.2.2.2.2.2.2.1; omega))
        · obtain ⟨s, z, hp⟩ := hP j (by omega) ((h05 j (by omega)).elim (fun e => absurd e c30) id)
          refine r_iload_n C dX7_score_33 rfl rfl ?_
          refine r_iconst (v := 1) C dX7_score_34 (by decide) ?_
          refine r_icmp_lt (tgt := 64) C dX7_score_35 (by decide) (fun c35 => ?_) (fun c35 => ?_)
          · first
              | exact j64 _ (Sc.rf.up (Or.inl rfl)) (fun j' s' z' T' wn' o => by
                  obtain ⟨o1, o2, ok, o3, o4, o5, o6, o7, o8, o9, o10⟩ := o
                  rw [nI_eq (by omega) (by omega)] at ok
                  subst ok
                  have e1 := hp.1.symm.trans o3.1
                  have e2 := hp.2.2.2.1.symm.trans o3.2.2.2.1
                  rw [nI_eq (by have := hp.2.2.1; omega) (by have := o3.2.2.1; omega)] at e1
                  rw [nI_eq (by have := hp.2.2.2.2.1; omega) (by have := o3.2.2.2.2.1; omega)] at e2
                  subst e1; subst e2
                  exact hr.elim (fun q => absurd (q.1.symm.trans c61) (by decide)) (fun q => q.2 o10))
              | exact j64 _ Sc.rf (fun j' s' z' T' wn' o => absurd ((nI_eq (by omega) (by decide)).mp c11) o.1)
              | exact j64 _ Sc.rf (fun j' s' z' T' wn' o => absurd c15 (by rw [o.2.2.1]; exact nI_pos (by have := o.2.1; omega)))
              | exact j64 _ Sc.rf (fun j' s' z' T' wn' o => absurd c21 (by rw [o.2.2.1, show (7 : Int32) = nI 7 from rfl, nI_ltI (by decide) (by have := o.2.1; omega)]; have := o.2.1; omega))
              | exact j64 _ Sc.rf (fun j' s' z' T' wn' o => by
                  have e := (nI_eq (by omega) (by have := o.2.1; omega)).mp o.2.2.1
                  rw [e, o.2.2.2.1.1] at c30
                  exact absurd c30 (nI_ne0 (by have := o.2.2.2.1.2.1; omega) (by have := o.2.2.2.1.2.2.1; omega)))
              | exact j64 _ Sc.rf (fun j' s' z' T' wn' o => absurd c35 (by rw [o.2.2.2.2.1, c1, nI_ltI (by have := o.2.2.2.2.2.2.1; omega) (by decide)]; have := o.2.2.2.2.2.1; omega))
              | exact j64 _ Sc.rf (fun j' s' z' T' wn' o => absurd c42 (by rw [o.2.2.2.2.1, show (200 : Int32) = nI 200 from rfl, nI_ltI (by decide) (by have := o.2.2.2.2.2.2.1; omega)]; have := o.2.2.2.2.2.2.1; omega))
              | exact j64 _ Sc.rf (fun j' s' z' T' wn' o => absurd c47 (by rw [o.2.2.2.2.2.2.2.1, c1, nI_ltI (by have := o.2.2.2.2.2.2.2.2.2.1; omega) (by decide)]; have := o.2.2.2.2.2.2.2.2.1; omega))
              | exact j64 _ Sc.rf (fun j' s' z' T' wn' o => absurd c53 (by rw [o.2.2.2.2.2.2.2.1, show (9 : Int32) = nI 9 from rfl, nI_ltI (by decide) (by have := o.2.2.2.2.2.2.2.2.2.1; omega)]; have := o.2.2.2.2.2.2.2.2.2.1; omega))
          · refine r_iload_n C dX7_score_38 rfl rfl ?_
            refine r_sipush (v := 200) C dX7_score_39 (by decide) ?_
            refine r_icmp_gt (tgt := 64) C dX7_score_42 (by decide) (fun c42 => ?_) (fun c42 => ?_)
            · first
                | exact j64 _ (Sc.rf.up (Or.inl rfl)) (fun j' s' z' T' wn' o => by
                    obtain ⟨o1, o2, ok, o3, o4, o5, o6, o7, o8, o9, o10⟩ := o
                    rw [nI_eq (by omega) (by omega)] at ok
                    subst ok
                    have e1 := hp.1.symm.trans o3.1
                    have e2 := hp.2.2.2.1.symm.trans o3.2.2.2.1
                    rw [nI_eq (by have := hp.2.2.1; omega) (by have := o3.2.2.1; omega)] at e1
                    rw [nI_eq (by have := hp.2.2.2.2.1; omega) (by have := o3.2.2.2.2.1; omega)] at e2
                    subst e1; subst e2
                    exact hr.elim (fun q => absurd (q.1.symm.trans c61) (by decide)) (fun q => q.2 o10))
                | exact j64 _ Sc.rf (fun j' s' z' T' wn' o => absurd ((nI_eq (by omega) (by decide)).mp c11) o.1)
                | exact j64 _ Sc.rf (fun j' s' z' T' wn' o => absurd c15 (by rw [o.2.2.1]; exact nI_pos (by have := o.2.1; omega)))
                | exact j64 _ Sc.rf (fun j' s' z' T' wn' o => absurd c21 (by rw [o.2.2.1, show (7 : Int32) = nI 7 from rfl, nI_ltI (by decide) (by have := o.2.1; omega)]; have := o.2.1; omega))
                | exact j64 _ Sc.rf (fun j' s' z' T' wn' o => by
                    have e := (nI_eq (by omega) (by have := o.2.1; omega)).mp o.2.2.1
                    rw [e, o.2.2.2.1.1] at c30
                    exact absurd c30 (nI_ne0 (by have := o.2.2.2.1.2.1; omega) (by have := o.2.2.2.1.2.2.1; omega)))
                | exact j64 _ Sc.rf (fun j' s' z' T' wn' o => absurd c35 (by rw [o.2.2.2.2.1, c1, nI_ltI (by have := o.2.2.2.2.2.2.1; omega) (by decide)]; have := o.2.2.2.2.2.1; omega))
                | exact j64 _ Sc.rf (fun j' s' z' T' wn' o => absurd c42 (by rw [o.2.2.2.2.1, show (200 : Int32) = nI 200 from rfl, nI_ltI (by decide) (by have := o.2.2.2.2.2.2.1; omega)]; have := o.2.2.2.2.2.2.1; omega))
                | exact j64 _ Sc.rf (fun j' s' z' T' wn' o => absurd c47 (by rw [o.2.2.2.2.2.2.2.1, c1, nI_ltI (by have := o.2.2.2.2.2.2.2.2.2.1; omega) (by decide)]; have := o.2.2.2.2.2.2.2.2.1; omega))
                | exact j64 _ Sc.rf (fun j' s' z' T' wn' o => absurd c53 (by rw [o.2.2.2.2.2.2.2.1, show (9 : Int32) = nI 9 from rfl, nI_ltI (by decide) (by have := o.2.2.2.2.2.2.2.2.2.1; omega)]; have := o.2.2.2.2.2.2.2.2.2.1; omega))
            · refine r_iload_n C dX7_score_45 rfl rfl ?_
              refine r_iconst (v := 1) C dX7_score_46 (by decide) ?_
              refine r_icmp_lt (tgt := 64) C dX7_score_47 (by decide) (fun c47 => ?_) (fun c47 => ?_)
              · first
                  | exact j64 _ (Sc.rf.up (Or.inl rfl)) (fun j' s' z' T' wn' o => by
                      obtain ⟨o1, o2, ok, o3, o4, o5, o6, o7, o8, o9, o10⟩ := o
                      rw [nI_eq (by omega) (by omega)] at ok
                      subst ok
                      have e1 := hp.1.symm.trans o3.1
                      have e2 := hp.2.2.2.1.symm.trans o3.2.2.2.1
                      rw [nI_eq (by have := hp.2.2.1; omega) (by have := o3.2.2.1; omega)] at e1
                      rw [nI_eq (by have := hp.2.2.2.2.1; omega) (by have := o3.2.2.2.2.1; omega)] at e2
                      subst e1; subst e2
                      exact hr.elim (fun q => absurd (q.1.symm.trans c61) (by decide)) (fun q => q.2 o10))
                  | exact j64 _ Sc.rf (fun j' s' z' T' wn' o => absurd ((nI_eq (by omega) (by decide)).mp c11) o.1)
                  | exact j64 _ Sc.rf (fun j' s' z' T' wn' o => absurd c15 (by rw [o.2.2.1]; exact nI_pos (by have := o.2.1; omega)))
                  | exact j64 _ Sc.rf (fun j' s' z' T' wn' o => absurd c21 (by rw [o.2.2.1, show (7 : Int32) = nI 7 from rfl, nI_ltI (by decide) (by have := o.2.1; omega)]; have := o.2.1; omega))
                  | exact j64 _ Sc.rf (fun j' s' z' T' wn' o => by
                      have e := (nI_eq (by omega) (by have := o.2.1; omega)).mp o.2.2.1
                      rw [e, o.2.2.2.1.1] at c30
                      exact absurd c30 (nI_ne0 (by have := o.2.2.2.1.2.1; omega) (by have := o.2.2.2.1.2.2.1; omega)))
                  | exact j64 _ Sc.rf (fun j' s' z' T' wn' o => absurd c35 (by rw [o.2.2.2.2.1, c1, nI_ltI (by have := o.2.2.2.2.2.2.1; omega) (by decide)]; have := o.2.2.2.2.2.1; omega))
                  | exact j64 _ Sc.rf (fun j' s' z' T' wn' o => absurd c42 (by rw [o.2.2.2.2.1, show (200 : Int32) = nI 200 from rfl, nI_ltI (by decide) (by have := o.2.2.2.2.2.2.1; omega)]; have := o.2.2.2.2.2.2.1; omega))
                  | exact j64 _ Sc.rf (fun j' s' z' T' wn' o => absurd c47 (by rw [o.2.2.2.2.2.2.2.1, c1, nI_ltI (by have := o.2.2.2.2.2.2.2.2.2.1; omega) (by decide)]; have := o.2.2.2.2.2.2.2.2.1; omega))
                  | exact j64 _ Sc.rf (fun j' s' z' T' wn' o => absurd c53 (by rw [o.2.2.2.2.2.2.2.1, show (9 : Int32) = nI 9 from rfl, nI_ltI (by decide) (by have := o.2.2.2.2.2.2.2.2.2.1; omega)]; have := o.2.2.2.2.2.2.2.2.2.1; omega))
              · refine r_iload_n C dX7_score_50 rfl rfl ?_
                refine r_bipush (v := 9) C dX7_score_51 (by decide) ?_
                refine r_icmp_gt (tgt := 64) C dX7_score_53 (by decide) (fun c53 => ?_) (fun c53 => ?_)
                · first
                    | exact j64 _ (Sc.rf.up (Or.inl rfl)) (fun j' s' z' T' wn' o => by
                        obtain ⟨o1, o2, ok, o3, o4, o5, o6, o7, o8, o9, o10⟩ := o
                        rw [nI_eq (by omega) (by omega)] at ok
                        subst ok
                        have e1 := hp.1.symm.trans o3.1
                        have e2 := hp.2.2.2.1.symm.trans o3.2.2.2.1
                        rw [nI_eq (by have := hp.2.2.1; omega) (by have := o3.2.2.1; omega)] at e1
                        rw [nI_eq (by have := hp.2.2.2.2.1; omega) (by have := o3.2.2.2.2.1; omega)] at e2
                        subst e1; subst e2
                        exact hr.elim (fun q => absurd (q.1.symm.trans c61) (by decide)) (fun q => q.2 o10))
                    | exact j64 _ Sc.rf (fun j' s' z' T' wn' o => absurd ((nI_eq (by omega) (by decide)).mp c11) o.1)
                    | exact j64 _ Sc.rf (fun j' s' z' T' wn' o => absurd c15 (by rw [o.2.2.1]; exact nI_pos (by have := o.2.1; omega)))
                    | exact j64 _ Sc.rf (fun j' s' z' T' wn' o => absurd c21 (by rw [o.2.2.1, show (7 : Int32) = nI 7 from rfl, nI_ltI (by decide) (by have := o.2.1; omega)]; have := o.2.1; omega))
                    | exact j64 _ Sc.rf (fun j' s' z' T' wn' o => by
                        have e := (nI_eq (by omega) (by have := o.2.1; omega)).mp o.2.2.1
                        rw [e, o.2.2.2.1.1] at c30
                        exact absurd c30 (nI_ne0 (by have := o.2.2.2.1.2.1; omega) (by have := o.2.2.2.1.2.2.1; omega)))
                    | exact j64 _ Sc.rf (fun j' s' z' T' wn' o => absurd c35 (by rw [o.2.2.2.2.1, c1, nI_ltI (by have := o.2.2.2.2.2.2.1; omega) (by decide)]; have := o.2.2.2.2.2.1; omega))
                    | exact j64 _ Sc.rf (fun j' s' z' T' wn' o => absurd c42 (by rw [o.2.2.2.2.1, show (200 : Int32) = nI 200 from rfl, nI_ltI (by decide) (by have := o.2.2.2.2.2.2.1; omega)]; have := o.2.2.2.2.2.2.1; omega))
                    | exact j64 _ Sc.rf (fun j' s' z' T' wn' o => absurd c47 (by rw [o.2.2.2.2.2.2.2.1, c1, nI_ltI (by have := o.2.2.2.2.2.2.2.2.2.1; omega) (by decide)]; have := o.2.2.2.2.2.2.2.2.1; omega))
                    | exact j64 _ Sc.rf (fun j' s' z' T' wn' o => absurd c53 (by rw [o.2.2.2.2.2.2.2.1, show (9 : Int32) = nI 9 from rfl, nI_ltI (by decide) (by have := o.2.2.2.2.2.2.2.2.2.1; omega)]; have := o.2.2.2.2.2.2.2.2.2.1; omega))
                · obtain ⟨T, hT31, rfl⟩ := nI_of (x := t) (fun q => c35 (Int32.lt_of_lt_of_le q (by decide)))
                  obtain ⟨wn, hw31, rfl⟩ := nI_of (x := w) (fun q => c47 (Int32.lt_of_lt_of_le q (by decide)))
                  rw [c1, nI_ltI (by omega) (by omega)] at c35 c47
                  rw [show (9 : Int32) = nI 9 from rfl, nI_ltI (by omega) (by omega)] at c53
                  rw [show (200 : Int32) = nI 200 from rfl, nI_ltI (by omega) (by omega)] at c42
                  refine r_aload_n C dX7_score_56 rfl rfl ?_
                  refine r_iload_n C dX7_score_57 rfl rfl ?_
                  refine m_calli C (c_holds G h ad (va_up M 0 0) R (show j < 8 by omega) hp) kM_holds dX7_score_58 rfl (by decide) (by decide) (by decide) (Nat.le_of_ble_eq_true rfl) rfl rfl (fun r M1 R1 hq => ?_)
                  obtain ⟨hr, rfl, P, rfl⟩ := hq
                  refine r_if_ne (tgt := 66) C dX7_score_61 (by decide) (fun c61 => ?_) (fun c61 => ?_)
                  · exact j66 _ j s z T wn (Sc.rf.up (Or.inl rfl)) ⟨fun e => c11 (by rw [e]; rfl), by omega, rfl, hp, rfl, by omega, by omega, rfl, by omega, by omega, hr.elim (fun q => q.2) (fun q => absurd q.1 c61)⟩
                  · first
                      | exact j64 _ (Sc.rf.up (Or.inl rfl)) (fun j' s' z' T' wn' o => by
                          obtain ⟨o1, o2, ok, o3, o4, o5, o6, o7, o8, o9, o10⟩ := o
                          rw [nI_eq (by omega) (by omega)] at ok
                          subst ok
                          have e1 := hp.1.symm.trans o3.1
                          have e2 := hp.2.2.2.1.symm.trans o3.2.2.2.1
                          rw [nI_eq (by have := hp.2.2.1; omega) (by have := o3.2.2.1; omega)] at e1
                          rw [nI_eq (by have := hp.2.2.2.2.1; omega) (by have := o3.2.2.2.2.1; omega)] at e2
                          subst e1; subst e2
                          exact hr.elim (fun q => absurd (q.1.symm.trans c61) (by decide)) (fun q => q.2 o10))
                      | exact j64 _ Sc.rf (fun j' s' z' T' wn' o => absurd ((nI_eq (by omega) (by decide)).mp c11) o.1)
                      | exact j64 _ Sc.rf (fun j' s' z' T' wn' o => absurd c15 (by rw [o.2.2.1]; exact nI_pos (by have := o.2.1; omega)))
                      | exact j64 _ Sc.rf (fun j' s' z' T' wn' o => absurd c21 (by rw [o.2.2.1, show (7 : Int32) = nI 7 from rfl, nI_ltI (by decide) (by have := o.2.1; omega)]; have := o.2.1; omega))
                      | exact j64 _ Sc.rf (fun j' s' z' T' wn' o => by
                          have e := (nI_eq (by omega) (by have := o.2.1; omega)).mp o.2.2.1
                          rw [e, o.2.2.2.1.1] at c30
                          exact absurd c30 (nI_ne0 (by have := o.2.2.2.1.2.1; omega) (by have := o.2.2.2.1.2.2.1; omega)))
                      | exact j64 _ Sc.rf (fun j' s' z' T' wn' o => absurd c35 (by rw [o.2.2.2.2.1, c1, nI_ltI (by have := o.2.2.2.2.2.2.1; omega) (by decide)]; have := o.2.2.2.2.2.1; omega))
                      | exact j64 _ Sc.rf (fun j' s' z' T' wn' o => absurd c42 (by rw [o.2.2.2.2.1, show (200 : Int32) = nI 200 from rfl, nI_ltI (by decide) (by have := o.2.2.2.2.2.2.1; omega)]; have := o.2.2.2.2.2.2.1; omega))
                      | exact j64 _ Sc.rf (fun j' s' z' T' wn' o => absurd c47 (by rw [o.2.2.2.2.2.2.2.1, c1, nI_ltI (by have := o.2.2.2.2.2.2.2.2.2.1; omega) (by decide)]; have := o.2.2.2.2.2.2.2.2.1; omega))
                      | exact j64 _ Sc.rf (fun j' s' z' T' wn' o => absurd c53 (by rw [o.2.2.2.2.2.2.2.1, show (9 : Int32) = nI 9 from rfl, nI_ltI (by decide) (by have := o.2.2.2.2.2.2.2.2.2.1; omega)]; have := o.2.2.2.2.2.2.2.2.2.1; omega))
end M12
end
section
/-! the reference: factors as permutations: from, behind, turns, isAll, isNothing, coded -/
theorem perm_surj {F : Nat → Nat} {s i : Nat} (h : PermOn F s) (h1 : 1 ≤ i) (h2 : i ≤ s) : ∃ x, 1 ≤ x ∧ x ≤ s ∧ F x = i := by
  obtain ⟨k, hk1, -, e⟩ := itr_cyc h h1 h2
  have hin := itr_in h h1 h2 (k - 1)
  refine ⟨itr F (k - 1) i, hin.1, hin.2, ?_⟩
  have : k = (k - 1) + 1 := by omega
  rw [this] at e
  exact e
/-- factor f is the permutation F of 1 .. s -/
def FacOK (R : Rt) (f s : Nat) (F : Nat → Nat) : Prop := (∀ x, 1 ≤ x → x ≤ s → R 18 (8 * f + x) = nI (F x)) ∧ PermOn F s
def codeF (F : Nat → Nat) : Nat → Int32
  | 0 => 0
  | x + 1 => codeF F x ||| (nI (F (x + 1)) <<< (nI (3 * (x + 1) - 3) &&& 31))
section M13
variable (G : Gx) (h : Nat) (ad : Nat → Nat) (M : Mt) (R : Rt)
theorem c_from {f s i : Nat} {F : Nat → Nat} (hf : f ≤ 600) (hs : s ≤ 7) (hF : FacOK R f s F) (h1 : 1 ≤ i) (h2 : i ≤ s) : mI G h ad yX7_from cX7_from 4 .int 1 [.int (nI f), .int (nI i)] M R (fun r M' R' => (∃ x, 1 ≤ x ∧ x ≤ s ∧ F x = i ∧ r = nI x) ∧ M' = M ∧ R' = R) := by
  refine mI.intro (by decide) (Nat.le_of_ble_eq_true rfl) (cat1 (xs := [nI f, nI i])) fun X C hR => ?_
  obtain ⟨x0, hx1, hx2, hx0⟩ := perm_surj hF.2 h1 h2
  have key : ∀ (n x : Nat), x + n = x0 → 1 ≤ x → V X 0 0 2 [some (.ref h), some (.int (nI f)), some (.int (nI i)), some (.int (nI x))] [] (mW G h ad M R) := by
    intro n
    induction n with
    | zero =>
      intro x hxn hxx
      have hxe : x = x0 := by omega
      subst hxe
      refine r_aload_n C dX7_from_2 rfl rfl ?_
      refine r_iload_n C dX7_from_3 rfl rfl ?_
      refine r_iload_n C dX7_from_4 rfl rfl ?_
      refine m_calli C (c_get G h ad M R f x hf (by omega)) kM_get dX7_from_5 rfl (by decide) (by decide) (by decide) (Nat.le_of_ble_eq_true rfl) rfl rfl (fun r M1 R1 hq => ?_)
      obtain ⟨rfl, rfl, rfl⟩ := hq
      rw [hF.1 x hx1 hx2, hx0]
      refine r_iload_n C dX7_from_8 rfl rfl ?_
      refine r_icmp_eq (tgt := 18) C dX7_from_9 (by decide) (fun c9 => ?_) (fun c9 => absurd c9 ((fun q => q rfl)))
      refine r_iload_n C dX7_from_18 rfl rfl ?_
      exact hR _ _ _ _ _ rfl dX7_from_19 ⟨⟨x, hx1, hx2, hx0, rfl⟩, rfl, rfl⟩
    | succ n ih =>
      intro x hxn hxx
      have hFx := hF.2.1 x hxx (by omega)
      have hne9 : ¬ nI (F x) = nI i := by
        intro e
        have e1 := (nI_eq (by omega) (by omega)).mp e
        have e2 := hF.2.2 x x0 hxx (by omega) hx1 hx2 (e1.trans hx0.symm)
        omega
      refine r_aload_n C dX7_from_2 rfl rfl ?_
      refine r_iload_n C dX7_from_3 rfl rfl ?_
      refine r_iload_n C dX7_from_4 rfl rfl ?_
      refine m_calli C (c_get G h ad M R f x hf (by omega)) kM_get dX7_from_5 rfl (by decide) (by decide) (by decide) (Nat.le_of_ble_eq_true rfl) rfl rfl (fun r M1 R1 hq => ?_)
      obtain ⟨rfl, rfl, rfl⟩ := hq
      rw [hF.1 x hxx (by omega)]
      refine r_iload_n C dX7_from_8 rfl rfl ?_
      refine r_icmp_eq (tgt := 18) C dX7_from_9 (by decide) (fun c9 => absurd c9 (hne9)) (fun c9 => ?_)
      refine r_iinc (v := _ + 1) C dX7_from_12 rfl (by rfl) (by decide) ?_
      rw [nI_1]
      refine r_goto (tgt := 2) C dX7_from_15 (by decide) ?_
      exact ih (x + 1) (by omega) (by omega)
  refine r_iconst (v := 1) C dX7_from_0 (by decide) ?_
  refine r_istore_n C dX7_from_1 rfl (by decide) ?_
  exact key (x0 - 1) 1 (by omega) (Nat.le_refl _)
theorem c_behind {f s i : Nat} {F : Nat → Nat} (hf : f ≤ 600) (hs : s ≤ 7) (hF : FacOK R f s F) (h1 : 1 ≤ i) (h2 : i < s) : mV G h ad yX7_behind cX7_behind 5 2 [.int (nI f), .int (nI i)] M R (fun M' R' => M' = M ∧ ∃ P, R' = va_up R 18 P ∧ (∀ x, 1 ≤ x → x ≤ s → P (8 * f + x) = nI (sw i (F x))) ∧ ∀ q, (q ≤ 8 * f ∨ 8 * f + s < q) → P q = R 18 q) := by
  refine mV.intro (by decide) (Nat.le_of_ble_eq_true rfl) (cat1 (xs := [nI f, nI i])) fun X C hR => ?_
  refine r_aload_n C dX7_behind_0 rfl rfl ?_
  refine r_iload_n C dX7_behind_1 rfl rfl ?_
  refine r_iload_n C dX7_behind_2 rfl rfl ?_
  refine m_calli C (c_from G h ad M R hf hs hF h1 (by omega)) kM_from dX7_behind_3 rfl (by decide) (by decide) (by decide) (Nat.le_of_ble_eq_true rfl) rfl rfl (fun r M1 R1 hq => ?_)
  obtain ⟨⟨x, hx1, hx2, hx, rfl⟩, rfl, rfl⟩ := hq
  refine r_istore_n C dX7_behind_6 rfl (by decide) ?_
  refine r_aload_n C dX7_behind_7 rfl rfl ?_
  refine r_iload_n C dX7_behind_8 rfl rfl ?_
  refine r_iload_n C dX7_behind_9 rfl rfl ?_
  refine r_iconst (v := 1) C dX7_behind_10 (by decide) ?_
  refine r_iadd C dX7_behind_11 ?_
  rw [nI_1]
  refine m_calli C (c_from G h ad M1 R1 hf hs hF (show 1 ≤ i + 1 by omega) (by omega)) kM_from dX7_behind_12 rfl (by decide) (by decide) (by decide) (Nat.le_of_ble_eq_true rfl) rfl rfl (fun r M2 R2 hq => ?_)
  obtain ⟨⟨y, hy1, hy2, hy, rfl⟩, rfl, rfl⟩ := hq
  refine r_istore C dX7_behind_15 (by decide) ?_
  refine r_aload_n C dX7_behind_17 rfl rfl ?_
  refine mg_perm C dX7_behind_18 ?_
  refine r_bipush (v := 8) C dX7_behind_21 (by decide) ?_
  refine r_iload_n C dX7_behind_23 rfl rfl ?_
  refine r_imul C dX7_behind_24 ?_
  refine r_iload_n C dX7_behind_25 rfl rfl ?_
  refine r_iadd C dX7_behind_26 ?_
  refine r_iload_n C dX7_behind_27 rfl rfl ?_
  refine r_iconst (v := 1) C dX7_behind_28 (by decide) ?_
  refine r_iadd C dX7_behind_29 ?_
  show V X 0 0 30 _ [.int (nI i + 1), .int (nI 8 * nI f + nI x), .ref (ad 18)] _
  rw [pk_mul, nI_add, nI_1]
  refine ms_perm C dX7_behind_30 (vp_in_nI (show 8 * f + x < 4808 by omega) (by decide)) ?_
  rw [nI_clamp (by omega)]
  refine r_aload_n C dX7_behind_31 rfl rfl ?_
  refine mg_perm C dX7_behind_32 ?_
  refine r_bipush (v := 8) C dX7_behind_35 (by decide) ?_
  refine r_iload_n C dX7_behind_37 rfl rfl ?_
  refine r_imul C dX7_behind_38 ?_
  refine r_iload C dX7_behind_39 rfl ?_
  refine r_iadd C dX7_behind_41 ?_
  refine r_iload_n C dX7_behind_42 rfl rfl ?_
  show V X 0 0 43 _ [.int (nI i), .int (nI 8 * nI f + nI y), .ref (ad 18)] _
  rw [pk_mul, nI_add]
  refine ms_perm C dX7_behind_43 (vp_in_nI (show 8 * f + y < 4808 by omega) (by decide)) ?_
  rw [nI_clamp (by omega)]
  show V X 0 0 44 _ _ (mW G h ad _ (va_up (va_up R2 18 (upd (R2 18) (8 * f + x) (nI (i + 1)))) 18 (upd (upd (R2 18) (8 * f + x) (nI (i + 1))) (8 * f + y) (nI i))))
  rw [up_up]
  exact hR _ _ _ _ dX7_behind_44 ⟨rfl, _, rfl, fun q hq1 hq2 => by
    by_cases e : q = y
    · subst e
      rw [pk_us, hy, sw_r]
    · rw [pk_un (by omega)]
      by_cases e2 : q = x
      · subst e2
        rw [pk_us, hx, sw_l]
      · rw [pk_un (by omega), hF.1 q hq1 hq2, sw_n]
        · exact fun w => e2 (hF.2.2 q x hq1 hq2 hx1 hx2 (w.trans hx.symm))
        · exact fun w => e (hF.2.2 q y hq1 hq2 hy1 hy2 (w.trans hy.symm)), fun q hq => by rw [pk_un (by omega), pk_un (by omega)]⟩
theorem c_turns {f s : Nat} {F : Nat → Nat} (hf : f ≤ 600) (hs : s ≤ 7) (hF : FacOK R f s F) : mV G h ad yX7_turns cX7_turns 4 1 [.int (nI f), .int (nI s)] M R (fun M' R' => M' = M ∧ ∃ B P, R' = va_up (va_up R 21 B) 18 P ∧ (∀ x, 1 ≤ x → x ≤ s → P (8 * f + x) = nI (s + 1 - F (s + 1 - x))) ∧ ∀ q, (q ≤ 8 * f ∨ 8 * f + s < q) → P q = R 18 q) := by
  refine mV.intro (by decide) (Nat.le_of_ble_eq_true rfl) (cat1 (xs := [nI f, nI s])) fun X C hR => ?_
  have k2 : ∀ (B : Nat → Int32), (∀ x, 1 ≤ x → x ≤ s → B x = nI (s + 1 - F (s + 1 - x))) → ∀ (n x : Nat) (P : Nat → Int32), x + n = s + 1 → 1 ≤ x → (∀ q, 1 ≤ q → q < x → P (8 * f + q) = nI (s + 1 - F (s + 1 - q))) → (∀ q, (q ≤ 8 * f ∨ 8 * f + s < q) → P q = R 18 q) → V X 0 0 35 [some (.ref h), some (.int (nI f)), some (.int (nI s)), some (.int (nI x))] [] (mW G h ad M (va_up (va_up R 21 B) 18 P)) := by
    intro B hB n
    induction n with
    | zero =>
      intro x P hxn hx1 hP hQ
      refine r_iload_n C dX7_turns_35 rfl rfl ?_
      refine r_iload_n C dX7_turns_36 rfl rfl ?_
      refine r_icmp_gt (tgt := 63) C dX7_turns_37 (by decide) (fun c37 => ?_) (fun c37 => absurd c37 ((fun q => q (nI_lt (by omega) (by omega)))))
      exact hR _ _ _ _ dX7_turns_63 ⟨rfl, B, P, rfl, fun q h1 h2 => hP q h1 (by omega), hQ⟩
    | succ n ih =>
      intro x P hxn hx1 hP hQ
      refine r_iload_n C dX7_turns_35 rfl rfl ?_
      refine r_iload_n C dX7_turns_36 rfl rfl ?_
      refine r_icmp_gt (tgt := 63) C dX7_turns_37 (by decide) (fun c37 => absurd c37 ((nI_nlt (by omega) (by omega)))) (fun c37 => ?_)
      refine r_aload_n C dX7_turns_40 rfl rfl ?_
      refine mg_perm C dX7_turns_41 ?_
      refine r_bipush (v := 8) C dX7_turns_44 (by decide) ?_
      refine r_iload_n C dX7_turns_46 rfl rfl ?_
      refine r_imul C dX7_turns_47 ?_
      refine r_iload_n C dX7_turns_48 rfl rfl ?_
      refine r_iadd C dX7_turns_49 ?_
      refine r_aload_n C dX7_turns_50 rfl rfl ?_
      refine mg_back C dX7_turns_51 ?_
      refine r_iload_n C dX7_turns_54 rfl rfl ?_
      refine ml_back C dX7_turns_55 (vp_in_nI (show x < 8 by omega) (by decide)) ?_
      rw [nI_clamp (by omega)]
      show V X 0 0 56 _ [.int (B x), .int (nI 8 * nI f + nI x), .ref (ad 18)] _
      rw [hB x hx1 (by omega), pk_mul, nI_add]
      refine ms_perm C dX7_turns_56 (vp_in_nI (show 8 * f + x < 4808 by omega) (by decide)) ?_
      rw [nI_clamp (by omega)]
      show V X 0 0 57 _ _ (mW G h ad _ (va_up (va_up (va_up R 21 B) 18 P) 18 (upd P (8 * f + x) _)))
      rw [up_up]
      refine r_iinc (v := _ + 1) C dX7_turns_57 rfl (by rfl) (by decide) ?_
      rw [nI_1]
      refine r_goto (tgt := 35) C dX7_turns_60 (by decide) ?_
      exact ih (x + 1) _ (by omega) (by omega) (fun q h1 h2 => by
        by_cases e : q = x
        · subst e; exact pk_us
        · rw [pk_un (by omega)]; exact hP q h1 (by omega)) (fun q hq => by rw [pk_un (by omega)]; exact hQ q hq)
  have k1 : ∀ (n x : Nat) (B : Nat → Int32), x + n = s + 1 → 1 ≤ x → (∀ q, 1 ≤ q → q < x → B q = nI (s + 1 - F (s + 1 - q))) → V X 0 0 2 [some (.ref h), some (.int (nI f)), some (.int (nI s)), some (.int (nI x))] [] (mW G h ad M (va_up R 21 B)) := by
    intro n
    induction n with
    | zero =>
      intro x B hxn hx1 hB
      have q := k2 B (fun q h1 h2 => hB q h1 (by omega)) s 1 (R 18) (by omega) (Nat.le_refl _) (fun q h1 h2 => by omega) (fun q _ => rfl)
      rw [show va_up (va_up R 21 B) 18 (R 18) = va_up R 21 B from up_same rfl] at q
      refine r_iload_n C dX7_turns_2 rfl rfl ?_
      refine r_iload_n C dX7_turns_3 rfl rfl ?_
      refine r_icmp_gt (tgt := 33) C dX7_turns_4 (by decide) (fun c4 => ?_) (fun c4 => absurd c4 ((fun q => q (nI_lt (by omega) (by omega)))))
      refine r_iconst (v := 1) C dX7_turns_33 (by decide) ?_
      refine r_istore_n C dX7_turns_34 rfl (by decide) ?_
      exact q
    | succ n ih =>
      intro x B hxn hx1 hB
      have hFx := hF.2.1 (s + 1 - x) (by omega) (by omega)
      refine r_iload_n C dX7_turns_2 rfl rfl ?_
      refine r_iload_n C dX7_turns_3 rfl rfl ?_
      refine r_icmp_gt (tgt := 33) C dX7_turns_4 (by decide) (fun c4 => absurd c4 ((nI_nlt (by omega) (by omega)))) (fun c4 => ?_)
      refine r_aload_n C dX7_turns_7 rfl rfl ?_
      refine mg_back C dX7_turns_8 ?_
      refine r_iload_n C dX7_turns_11 rfl rfl ?_
      refine r_iload_n C dX7_turns_12 rfl rfl ?_
      refine r_iconst (v := 1) C dX7_turns_13 (by decide) ?_
      refine r_iadd C dX7_turns_14 ?_
      refine r_aload_n C dX7_turns_15 rfl rfl ?_
      refine r_iload_n C dX7_turns_16 rfl rfl ?_
      refine r_iload_n C dX7_turns_17 rfl rfl ?_
      refine r_iconst (v := 1) C dX7_turns_18 (by decide) ?_
      refine r_iadd C dX7_turns_19 ?_
      refine r_iload_n C dX7_turns_20 rfl rfl ?_
      refine r_isub C dX7_turns_21 ?_
      rw [nI_1, pk_sub (by omega)]
      refine m_calli C (c_get G h ad M (va_up R 21 B) f (s + 1 - x) hf (by omega)) kM_get dX7_turns_22 rfl (by decide) (by decide) (by decide) (Nat.le_of_ble_eq_true rfl) rfl rfl (fun r M1 R1 hq => ?_)
      obtain ⟨rfl, rfl, rfl⟩ := hq
      rw [show va_up R 21 B 18 = R 18 from rfl, hF.1 (s + 1 - x) (by omega) (by omega)]
      refine r_isub C dX7_turns_25 ?_
      rw [pk_sub (by omega)]
      refine ms_back C dX7_turns_26 (vp_in_nI (show x < 8 by omega) (by decide)) ?_
      rw [nI_clamp (by omega)]
      show V X 0 0 27 _ _ (mW G h ad _ (va_up (va_up R 21 B) 21 (upd B x _)))
      rw [up_up]
      refine r_iinc (v := _ + 1) C dX7_turns_27 rfl (by rfl) (by decide) ?_
      rw [nI_1]
      refine r_goto (tgt := 2) C dX7_turns_30 (by decide) ?_
      exact ih (x + 1) _ (by omega) (by omega) (fun q h1 h2 => by
        by_cases e : q = x
        · subst e; exact pk_us
        · rw [pk_un e]; exact hB q h1 (by omega))
  have q0 := k1 s 1 (R 21) (by omega) (Nat.le_refl _) (fun q h1 h2 => by omega)
  rw [up_same rfl] at q0
  refine r_iconst (v := 1) C dX7_turns_0 (by decide) ?_
  refine r_istore_n C dX7_turns_1 rfl (by decide) ?_
  exact q0
theorem c_isAll {f s : Nat} {F : Nat → Nat} (hf : f ≤ 600) (hs : s ≤ 7) (hF : FacOK R f s F) : mI G h ad yX7_isAll cX7_isAll 5 .boolean 1 [.int (nI f), .int (nI s)] M R (fun r M' R' => ((r = 1 ∧ ∀ x, 1 ≤ x → x ≤ s → F x = s + 1 - x) ∨ (r = 0 ∧ ¬ ∀ x, 1 ≤ x → x ≤ s → F x = s + 1 - x)) ∧ M' = M ∧ R' = R) := by
  refine mI.intro (by decide) (Nat.le_of_ble_eq_true rfl) (cat1 (xs := [nI f, nI s])) fun X C hR => ?_
  have key : ∀ (n x : Nat) (is : Int32), x + n = s + 1 → 1 ≤ x → ((is = 1 ∧ ∀ q, 1 ≤ q → q < x → F q = s + 1 - q) ∨ (is = 0 ∧ ∃ q, 1 ≤ q ∧ q ≤ s ∧ F q ≠ s + 1 - q)) → V X 0 0 5 [some (.ref h), some (.int (nI f)), some (.int (nI s)), some (.int is), some (.int (nI x))] [] (mW G h ad M R) := by
    intro n
    induction n with
    | zero =>
      intro x is hxn hx1 his
      refine r_iload C dX7_isAll_5 rfl ?_
      refine r_iload_n C dX7_isAll_7 rfl rfl ?_
      refine r_icmp_gt (tgt := 43) C dX7_isAll_8 (by decide) (fun c8 => ?_) (fun c8 => absurd c8 ((fun q => q (nI_lt (by omega) (by omega)))))
      refine r_iload_n C dX7_isAll_43 rfl rfl ?_
      exact hR _ _ _ _ _ (by rcases his with q | q <;> rw [q.1] <;> rfl) dX7_isAll_44 ⟨his.elim (fun q => Or.inl ⟨q.1, fun y h1 h2 => q.2 y h1 (by omega)⟩) (fun ⟨e, q, q1, q2, q3⟩ => Or.inr ⟨e, fun w => q3 (w q q1 q2)⟩), rfl, rfl⟩
    | succ n ih =>
      intro x is hxn hx1 his
      have hFx := hF.2.1 x hx1 (by omega)
      refine r_iload C dX7_isAll_5 rfl ?_
      refine r_iload_n C dX7_isAll_7 rfl rfl ?_
      refine r_icmp_gt (tgt := 43) C dX7_isAll_8 (by decide) (fun c8 => absurd c8 ((nI_nlt (by omega) (by omega)))) (fun c8 => ?_)
      refine r_iload_n C dX7_isAll_11 rfl rfl ?_
      refine r_if_eq (tgt := 35) C dX7_isAll_12 (by decide) (fun c12 => ?_) (fun c12 => ?_)
      · refine r_iconst (v := 0) C dX7_isAll_35 (by decide) ?_
        refine r_istore_n C dX7_isAll_36 rfl (by decide) ?_
        refine r_iinc (v := _ + 1) C dX7_isAll_37 rfl (by rfl) (by decide) ?_
        rw [nI_1]
        refine r_goto (tgt := 5) C dX7_isAll_40 (by decide) ?_
        first
          | exact ih (x + 1) 1 (by omega) (by omega) (Or.inl ⟨rfl, fun q h1 h2 => (Nat.lt_or_ge q x).elim (fun h3 => his.elim (fun w => w.2 q h1 h3) (fun w => absurd w.1 c12)) (fun h3 => (show q = x by omega) ▸ c28)⟩)
          | exact ih (x + 1) 0 (by omega) (by omega) (Or.inr ⟨rfl, x, hx1, by omega, fun e => c28 (by rw [e])⟩)
          | exact ih (x + 1) 0 (by omega) (by omega) (Or.inr ⟨rfl, his.elim (fun w => absurd (w.1.symm.trans c12) (by decide)) (fun w => w.2)⟩)
      · refine r_aload_n C dX7_isAll_15 rfl rfl ?_
        refine r_iload_n C dX7_isAll_16 rfl rfl ?_
        refine r_iload C dX7_isAll_17 rfl ?_
        refine m_calli C (c_get G h ad M R f x hf (by omega)) kM_get dX7_isAll_19 rfl (by decide) (by decide) (by decide) (Nat.le_of_ble_eq_true rfl) rfl rfl (fun r M1 R1 hq => ?_)
        obtain ⟨rfl, rfl, rfl⟩ := hq
        rw [hF.1 x hx1 (by omega)]
        refine r_iload_n C dX7_isAll_22 rfl rfl ?_
        refine r_iconst (v := 1) C dX7_isAll_23 (by decide) ?_
        refine r_iadd C dX7_isAll_24 ?_
        refine r_iload C dX7_isAll_25 rfl ?_
        refine r_isub C dX7_isAll_27 ?_
        rw [nI_1, pk_sub (by omega)]
        refine r_icmp_ne (tgt := 35) C dX7_isAll_28 (by decide) (fun c28 => ?_) (fun c28 => ?_)
        · refine r_iconst (v := 0) C dX7_isAll_35 (by decide) ?_
          refine r_istore_n C dX7_isAll_36 rfl (by decide) ?_
          refine r_iinc (v := _ + 1) C dX7_isAll_37 rfl (by rfl) (by decide) ?_
          rw [nI_1]
          refine r_goto (tgt := 5) C dX7_isAll_40 (by decide) ?_
          first
            | exact ih (x + 1) 1 (by omega) (by omega) (Or.inl ⟨rfl, fun q h1 h2 => (Nat.lt_or_ge q x).elim (fun h3 => his.elim (fun w => w.2 q h1 h3) (fun w => absurd w.1 c12)) (fun h3 => (show q = x by omega) ▸ c28)⟩)
            | exact ih (x + 1) 0 (by omega) (by omega) (Or.inr ⟨rfl, x, hx1, by omega, fun e => c28 (by rw [e])⟩)
            | exact ih (x + 1) 0 (by omega) (by omega) (Or.inr ⟨rfl, his.elim (fun w => absurd (w.1.symm.trans c12) (by decide)) (fun w => w.2)⟩)
        · rw [nI_eq (by omega) (by omega)] at c28
          refine r_iconst (v := 1) C dX7_isAll_31 (by decide) ?_
          refine r_goto (tgt := 36) C dX7_isAll_32 (by decide) ?_
          refine r_istore_n C dX7_isAll_36 rfl (by decide) ?_
          refine r_iinc (v := _ + 1) C dX7_isAll_37 rfl (by rfl) (by decide) ?_
          rw [nI_1]
          refine r_goto (tgt := 5) C dX7_isAll_40 (by decide) ?_
          first
            | exact ih (x + 1) 1 (by omega) (by omega) (Or.inl ⟨rfl, fun q h1 h2 => (Nat.lt_or_ge q x).elim (fun h3 => his.elim (fun w => w.2 q h1 h3) (fun w => absurd w.1 c12)) (fun h3 => (show q = x by omega) ▸ c28)⟩)
            | exact ih (x + 1) 0 (by omega) (by omega) (Or.inr ⟨rfl, x, hx1, by omega, fun e => c28 (by rw [e])⟩)
            | exact ih (x + 1) 0 (by omega) (by omega) (Or.inr ⟨rfl, his.elim (fun w => absurd (w.1.symm.trans c12) (by decide)) (fun w => w.2)⟩)
  refine r_iconst (v := 1) C dX7_isAll_0 (by decide) ?_
  refine r_istore_n C dX7_isAll_1 rfl (by decide) ?_
  refine r_iconst (v := 1) C dX7_isAll_2 (by decide) ?_
  refine r_istore C dX7_isAll_3 (by decide) ?_
  exact key s 1 1 (by omega) (Nat.le_refl _) (Or.inl ⟨rfl, fun q h1 h2 => by omega⟩)
theorem c_isNothing {f s : Nat} {F : Nat → Nat} (hf : f ≤ 600) (hs : s ≤ 7) (hF : FacOK R f s F) : mI G h ad yX7_isNothing cX7_isNothing 5 .boolean 1 [.int (nI f), .int (nI s)] M R (fun r M' R' => ((r = 1 ∧ ∀ x, 1 ≤ x → x ≤ s → F x = x) ∨ (r = 0 ∧ ¬ ∀ x, 1 ≤ x → x ≤ s → F x = x)) ∧ M' = M ∧ R' = R) := by
  refine mI.intro (by decide) (Nat.le_of_ble_eq_true rfl) (cat1 (xs := [nI f, nI s])) fun X C hR => ?_
  have key : ∀ (n x : Nat) (is : Int32), x + n = s + 1 → 1 ≤ x → ((is = 1 ∧ ∀ q, 1 ≤ q → q < x → F q = q) ∨ (is = 0 ∧ ∃ q, 1 ≤ q ∧ q ≤ s ∧ F q ≠ q)) → V X 0 0 5 [some (.ref h), some (.int (nI f)), some (.int (nI s)), some (.int is), some (.int (nI x))] [] (mW G h ad M R) := by
    intro n
    induction n with
    | zero =>
      intro x is hxn hx1 his
      refine r_iload C dX7_isNothing_5 rfl ?_
      refine r_iload_n C dX7_isNothing_7 rfl rfl ?_
      refine r_icmp_gt (tgt := 39) C dX7_isNothing_8 (by decide) (fun c8 => ?_) (fun c8 => absurd c8 ((fun q => q (nI_lt (by omega) (by omega)))))
      refine r_iload_n C dX7_isNothing_39 rfl rfl ?_
      exact hR _ _ _ _ _ (by rcases his with q | q <;> rw [q.1] <;> rfl) dX7_isNothing_40 ⟨his.elim (fun q => Or.inl ⟨q.1, fun y h1 h2 => q.2 y h1 (by omega)⟩) (fun ⟨e, q, q1, q2, q3⟩ => Or.inr ⟨e, fun w => q3 (w q q1 q2)⟩), rfl, rfl⟩
    | succ n ih =>
      intro x is hxn hx1 his
      have hFx := hF.2.1 x hx1 (by omega)
      refine r_iload C dX7_isNothing_5 rfl ?_
      refine r_iload_n C dX7_isNothing_7 rfl rfl ?_
      refine r_icmp_gt (tgt := 39) C dX7_isNothing_8 (by decide) (fun c8 => absurd c8 ((nI_nlt (by omega) (by omega)))) (fun c8 => ?_)
      refine r_iload_n C dX7_isNothing_11 rfl rfl ?_
      refine r_if_eq (tgt := 31) C dX7_isNothing_12 (by decide) (fun c12 => ?_) (fun c12 => ?_)
      · refine r_iconst (v := 0) C dX7_isNothing_31 (by decide) ?_
        refine r_istore_n C dX7_isNothing_32 rfl (by decide) ?_
        refine r_iinc (v := _ + 1) C dX7_isNothing_33 rfl (by rfl) (by decide) ?_
        rw [nI_1]
        refine r_goto (tgt := 5) C dX7_isNothing_36 (by decide) ?_
        first
          | exact ih (x + 1) 1 (by omega) (by omega) (Or.inl ⟨rfl, fun q h1 h2 => (Nat.lt_or_ge q x).elim (fun h3 => his.elim (fun w => w.2 q h1 h3) (fun w => absurd w.1 c12)) (fun h3 => (show q = x by omega) ▸ c24)⟩)
          | exact ih (x + 1) 0 (by omega) (by omega) (Or.inr ⟨rfl, x, hx1, by omega, fun e => c24 (by rw [e])⟩)
          | exact ih (x + 1) 0 (by omega) (by omega) (Or.inr ⟨rfl, his.elim (fun w => absurd (w.1.symm.trans c12) (by decide)) (fun w => w.2)⟩)
      · refine r_aload_n C dX7_isNothing_15 rfl rfl ?_
        refine r_iload_n C dX7_isNothing_16 rfl rfl ?_
        refine r_iload C dX7_isNothing_17 rfl ?_
        refine m_calli C (c_get G h ad M R f x hf (by omega)) kM_get dX7_isNothing_19 rfl (by decide) (by decide) (by decide) (Nat.le_of_ble_eq_true rfl) rfl rfl (fun r M1 R1 hq => ?_)
        obtain ⟨rfl, rfl, rfl⟩ := hq
        rw [hF.1 x hx1 (by omega)]
        refine r_iload C dX7_isNothing_22 rfl ?_
        refine r_icmp_ne (tgt := 31) C dX7_isNothing_24 (by decide) (fun c24 => ?_) (fun c24 => ?_)
        · refine r_iconst (v := 0) C dX7_isNothing_31 (by decide) ?_
          refine r_istore_n C dX7_isNothing_32 rfl (by decide) ?_
          refine r_iinc (v := _ + 1) C dX7_isNothing_33 rfl (by rfl) (by decide) ?_
          rw [nI_1]
          refine r_goto (tgt := 5) C dX7_isNothing_36 (by decide) ?_
          first
            | exact ih (x + 1) 1 (by omega) (by omega) (Or.inl ⟨rfl, fun q h1 h2 => (Nat.lt_or_ge q x).elim (fun h3 => his.elim (fun w => w.2 q h1 h3) (fun w => absurd w.1 c12)) (fun h3 => (show q = x by omega) ▸ c24)⟩)
            | exact ih (x + 1) 0 (by omega) (by omega) (Or.inr ⟨rfl, x, hx1, by omega, fun e => c24 (by rw [e])⟩)
            | exact ih (x + 1) 0 (by omega) (by omega) (Or.inr ⟨rfl, his.elim (fun w => absurd (w.1.symm.trans c12) (by decide)) (fun w => w.2)⟩)
        · rw [nI_eq (by omega) (by omega)] at c24
          refine r_iconst (v := 1) C dX7_isNothing_27 (by decide) ?_
          refine r_goto (tgt := 32) C dX7_isNothing_28 (by decide) ?_
          refine r_istore_n C dX7_isNothing_32 rfl (by decide) ?_
          refine r_iinc (v := _ + 1) C dX7_isNothing_33 rfl (by rfl) (by decide) ?_
          rw [nI_1]
          refine r_goto (tgt := 5) C dX7_isNothing_36 (by decide) ?_
          first
            | exact ih (x + 1) 1 (by omega) (by omega) (Or.inl ⟨rfl, fun q h1 h2 => (Nat.lt_or_ge q x).elim (fun h3 => his.elim (fun w => w.2 q h1 h3) (fun w => absurd w.1 c12)) (fun h3 => (show q = x by omega) ▸ c24)⟩)
            | exact ih (x + 1) 0 (by omega) (by omega) (Or.inr ⟨rfl, x, hx1, by omega, fun e => c24 (by rw [e])⟩)
            | exact ih (x + 1) 0 (by omega) (by omega) (Or.inr ⟨rfl, his.elim (fun w => absurd (w.1.symm.trans c12) (by decide)) (fun w => w.2)⟩)
  refine r_iconst (v := 1) C dX7_isNothing_0 (by decide) ?_
  refine r_istore_n C dX7_isNothing_1 rfl (by decide) ?_
  refine r_iconst (v := 1) C dX7_isNothing_2 (by decide) ?_
  refine r_istore C dX7_isNothing_3 (by decide) ?_
  exact key s 1 1 (by omega) (Nat.le_refl _) (Or.inl ⟨rfl, fun q h1 h2 => by omega⟩)
theorem c_coded {f s : Nat} {F : Nat → Nat} (hf : f ≤ 600) (hs : s ≤ 7) (hF : FacOK R f s F) : mI G h ad yX7_coded cX7_coded 5 .int 1 [.int (nI f), .int (nI s)] M R (fun r M' R' => r = codeF F s ∧ M' = M ∧ R' = R) := by
  refine mI.intro (by decide) (Nat.le_of_ble_eq_true rfl) (cat1 (xs := [nI f, nI s])) fun X C hR => ?_
  have key : ∀ (n x : Nat), x + n = s → V X 0 0 5 [some (.ref h), some (.int (nI f)), some (.int (nI s)), some (.int (codeF F x)), some (.int (nI (x + 1)))] [] (mW G h ad M R) := by
    intro n
    induction n with
    | zero =>
      intro x hxn
      have hxs : x = s := by omega
      subst hxs
      refine r_iload C dX7_coded_5 rfl ?_
      refine r_iload_n C dX7_coded_7 rfl rfl ?_
      refine r_icmp_gt (tgt := 34) C dX7_coded_8 (by decide) (fun c8 => ?_) (fun c8 => absurd c8 ((fun q => q (nI_lt (by omega) (by omega)))))
      refine r_iload_n C dX7_coded_34 rfl rfl ?_
      exact hR _ _ _ _ _ rfl dX7_coded_35 ⟨rfl, rfl, rfl⟩
    | succ n ih =>
      intro x hxn
      refine r_iload C dX7_coded_5 rfl ?_
      refine r_iload_n C dX7_coded_7 rfl rfl ?_
      refine r_icmp_gt (tgt := 34) C dX7_coded_8 (by decide) (fun c8 => absurd c8 ((nI_nlt (by omega) (by omega)))) (fun c8 => ?_)
      refine r_iload_n C dX7_coded_11 rfl rfl ?_
      refine r_aload_n C dX7_coded_12 rfl rfl ?_
      refine r_iload_n C dX7_coded_13 rfl rfl ?_
      refine r_iload C dX7_coded_14 rfl ?_
      refine m_calli C (c_get G h ad M R f (x + 1) hf (by omega)) kM_get dX7_coded_16 rfl (by decide) (by decide) (by decide) (Nat.le_of_ble_eq_true rfl) rfl rfl (fun r M1 R1 hq => ?_)
      obtain ⟨rfl, rfl, rfl⟩ := hq
      rw [hF.1 (x + 1) (by omega) (by omega)]
      refine r_iconst (v := 3) C dX7_coded_19 (by decide) ?_
      refine r_iload C dX7_coded_20 rfl ?_
      refine r_imul C dX7_coded_22 ?_
      refine r_iconst (v := 3) C dX7_coded_23 (by decide) ?_
      refine r_isub C dX7_coded_24 ?_
      show V X 0 0 25 _ [.int (nI 3 * nI (x + 1) - nI 3), .int _, .int _] _
      rw [pk_mul, pk_sub (by omega)]
      refine r_ishl C dX7_coded_25 ?_
      refine r_ior C dX7_coded_26 ?_
      refine r_istore_n C dX7_coded_27 rfl (by decide) ?_
      refine r_iinc (v := _ + 1) C dX7_coded_28 rfl (by rfl) (by decide) ?_
      rw [nI_1]
      refine r_goto (tgt := 5) C dX7_coded_31 (by decide) ?_
      exact ih (x + 1) (by omega)
  refine r_iconst (v := 0) C dX7_coded_0 (by decide) ?_
  refine r_istore_n C dX7_coded_1 rfl (by decide) ?_
  refine r_iconst (v := 1) C dX7_coded_2 (by decide) ?_
  refine r_istore C dX7_coded_3 (by decide) ?_
  exact key s 0 (by omega)
end M13
end
section
/-! moves of crossings between neighbouring factors: they end, and meet again -/
abbrev Sq : Type := Nat → Nat → Nat
/-- all factors are permutations of 1 .. s, and nothing beyond; from N on they are empty -/
def Can (s N : Nat) (A : Sq) : Prop := (∀ f, PermOn (A f) s ∧ ∀ x, (x < 1 ∨ s < x) → A f x = x) ∧ ∀ f, N ≤ f → ∀ x, A f x = x
def Up (s : Nat) (a : Nat → Nat) (i : Nat) : Prop := ∀ x y, 1 ≤ x → x ≤ s → 1 ≤ y → y ≤ s → a x = i → a y = i + 1 → x < y
def mvL (i : Nat) (a : Nat → Nat) : Nat → Nat := fun z => sw i (a z)
def mvR (i : Nat) (b : Nat → Nat) : Nat → Nat := fun z => b (sw i z)
def mvS (A : Sq) (k i : Nat) : Sq := va_up (va_up A k (mvL i (A k))) (k + 1) (mvR i (A (k + 1)))
def MvOK (s : Nat) (A : Sq) (k i : Nat) : Prop := 1 ≤ i ∧ i < s ∧ A (k + 1) (i + 1) < A (k + 1) i ∧ Up s (A k) i
def Step (s N : Nat) (A B : Sq) : Prop := ∃ k i, k + 1 < N ∧ MvOK s A k i ∧ B = mvS A k i
def Rch (s N : Nat) (A B : Sq) : Prop := ∀ P : Sq → Prop, P A → (∀ U W, P U → Step s N U W → P W) → P B
def Nf (s N : Nat) (A : Sq) : Prop := ∀ k i, k + 1 < N → ¬ MvOK s A k i
theorem Rch.rf {s N : Nat} {A : Sq} : Rch s N A A := fun _ h _ => h
theorem Rch.step {s N : Nat} {A B C : Sq} (h : Rch s N A B) (h2 : Step s N B C) : Rch s N A C := fun P h0 hs => hs B C (h P h0 hs) h2
theorem Rch.trans {s N : Nat} {A B C : Sq} (h : Rch s N A B) (h2 : Rch s N B C) : Rch s N A C := h2 (fun W => Rch s N A W) h (fun _ _ q w => q.step w)
theorem Rch.one {s N : Nat} {A B : Sq} (h : Step s N A B) : Rch s N A B := Rch.rf.step h
theorem Rch.head {s N : Nat} {A B : Sq} (h : Rch s N A B) : B = A ∨ ∃ A1, Step s N A A1 ∧ Rch s N A1 B := by
  refine h (fun W => W = A ∨ ∃ A1, Step s N A A1 ∧ Rch s N A1 W) (Or.inl rfl) (fun U W hU hs => ?_)
  rcases hU with e | ⟨A1, h1, h2⟩
  · subst e
    exact Or.inr ⟨W, hs, Rch.rf⟩
  · exact Or.inr ⟨A1, h1, h2.step hs⟩
theorem sw_out {i x s : Nat} (h1 : 1 ≤ i) (h2 : i < s) (hx : x < 1 ∨ s < x) : sw i x = x := sw_n (by omega) (by omega)
theorem mvL_can {s i : Nat} {a : Nat → Nat} (h1 : 1 ≤ i) (h2 : i < s) (h : PermOn a s ∧ ∀ x, (x < 1 ∨ s < x) → a x = x) : PermOn (mvL i a) s ∧ ∀ x, (x < 1 ∨ s < x) → mvL i a x = x := by
  refine ⟨⟨fun p hp1 hp2 => ?_, fun p q hp1 hp2 hq1 hq2 e => h.1.2 p q hp1 hp2 hq1 hq2 (sw_inj e)⟩, fun x hx => ?_⟩
  · have := h.1.1 p hp1 hp2
    exact sw_in h1 h2 this.1 this.2
  · show sw i (a x) = x
    rw [h.2 x hx, sw_out h1 h2 hx]
theorem mvR_can {s i : Nat} {b : Nat → Nat} (h1 : 1 ≤ i) (h2 : i < s) (h : PermOn b s ∧ ∀ x, (x < 1 ∨ s < x) → b x = x) : PermOn (mvR i b) s ∧ ∀ x, (x < 1 ∨ s < x) → mvR i b x = x := by
  refine ⟨⟨fun p hp1 hp2 => ?_, fun p q hp1 hp2 hq1 hq2 e => ?_⟩, fun x hx => ?_⟩
  · have := sw_in h1 h2 hp1 hp2
    exact h.1.1 _ this.1 this.2
  · have a1 := sw_in h1 h2 hp1 hp2
    have a2 := sw_in h1 h2 hq1 hq2
    exact sw_inj (h.1.2 _ _ a1.1 a1.2 a2.1 a2.2 e)
  · show b (sw i x) = x
    rw [sw_out h1 h2 hx, h.2 x hx]
theorem mvS_k (A : Sq) (k i : Nat) : mvS A k i k = mvL i (A k) := by
  unfold mvS va_up
  rw [if_neg (by omega), if_pos rfl]
theorem mvS_k1 (A : Sq) (k i : Nat) : mvS A k i (k + 1) = mvR i (A (k + 1)) := by
  unfold mvS va_up
  rw [if_pos rfl]
theorem mvS_o (A : Sq) {k i f : Nat} (h1 : f ≠ k) (h2 : f ≠ k + 1) : mvS A k i f = A f := by
  unfold mvS va_up
  rw [if_neg h2, if_neg h1]
theorem mvS_can {s N k i : Nat} {A : Sq} (h : Can s N A) (hk : k + 1 < N) (h1 : 1 ≤ i) (h2 : i < s) : Can s N (mvS A k i) := by
  refine ⟨fun f => ?_, fun f hf x => ?_⟩
  · by_cases e : f = k
    · subst e; rw [mvS_k]; exact mvL_can h1 h2 (h.1 f)
    · by_cases e2 : f = k + 1
      · subst e2; rw [mvS_k1]; exact mvR_can h1 h2 (h.1 (k + 1))
      · rw [mvS_o A e e2]; exact h.1 f
  · rw [mvS_o A (by omega) (by omega)]; exact h.2 f hf x
theorem Step.can {s N : Nat} {A B : Sq} (h : Can s N A) (hs : Step s N A B) : Can s N B := by
  obtain ⟨k, i, hk, hm, rfl⟩ := hs
  exact mvS_can h hk hm.1 hm.2.1
theorem Rch.can {s N : Nat} {A B : Sq} (h : Can s N A) (hs : Rch s N A B) : Can s N B := hs (fun W => Can s N W) h (fun _ _ q w => w.can q)
/-- a sum that a move makes less -/
def phi (a : Nat → Nat) : Nat → Nat
  | 0 => 0
  | x + 1 => phi a x + (x + 1) * a (x + 1)
theorem phi_congr {a b : Nat → Nat} : ∀ t, (∀ x, 1 ≤ x → x ≤ t → a x = b x) → phi a t = phi b t
  | 0, _ => rfl
  | t + 1, h => by
    unfold phi
    rw [phi_congr t (fun x h1 h2 => h x h1 (by omega)), h (t + 1) (by omega) (Nat.le_refl _)]
theorem phi_mvR {b : Nat → Nat} {i : Nat} (h1 : 1 ≤ i) : ∀ t, i + 1 ≤ t → phi (mvR i b) t + b (i + 1) = phi b t + b i
  | 0, h => by omega
  | t + 1, h => by
    by_cases e : t = i
    · subst e
      obtain ⟨m, rfl⟩ : ∃ m, t = m + 1 := ⟨t - 1, by omega⟩
      have e1 : phi (mvR (m + 1) b) m = phi b m := phi_congr m (fun x h1 h2 => by show b (sw (m + 1) x) = b x; rw [sw_n (by omega) (by omega)])
      have e2 : mvR (m + 1) b (m + 1) = b (m + 1 + 1) := by show b (sw _ _) = _; rw [sw_l]
      have e3 : mvR (m + 1) b (m + 1 + 1) = b (m + 1) := by show b (sw _ _) = _; rw [sw_r]
      show phi (mvR (m + 1) b) m + (m + 1) * mvR (m + 1) b (m + 1) + (m + 1 + 1) * mvR (m + 1) b (m + 1 + 1) + b (m + 1 + 1) = phi b m + (m + 1) * b (m + 1) + (m + 1 + 1) * b (m + 1 + 1) + b (m + 1)
      rw [e1, e2, e3]
      have f1 : (m + 1 + 1) * b (m + 1) = (m + 1) * b (m + 1) + b (m + 1) := Nat.succ_mul _ _
      have f2 : (m + 1 + 1) * b (m + 1 + 1) = (m + 1) * b (m + 1 + 1) + b (m + 1 + 1) := Nat.succ_mul _ _
      omega
    · have ih := phi_mvR (b := b) h1 t (by omega)
      have e3 : mvR i b (t + 1) = b (t + 1) := by show b (sw _ _) = _; rw [sw_n (by omega) (by omega)]
      unfold phi
      rw [e3]
      omega
theorem phi_mvL {a : Nat → Nat} {i x y s : Nat} (ha : PermOn a s) (hx1 : 1 ≤ x) (hx2 : x ≤ s) (hy1 : 1 ≤ y) (hy2 : y ≤ s) (hx : a x = i) (hy : a y = i + 1) : ∀ t, t ≤ s → phi (mvL i a) t + (if y ≤ t then y else 0) = phi a t + (if x ≤ t then x else 0)
  | 0, _ => by rw [if_neg (by omega), if_neg (by omega)]; rfl
  | t + 1, h => by
    have ih := phi_mvL ha hx1 hx2 hy1 hy2 hx hy t (by omega)
    have hxy : x ≠ y := fun e => by subst e; omega
    unfold phi
    by_cases e1 : t + 1 = x
    · have e3 : mvL i a (t + 1) = i + 1 := by show sw i (a (t + 1)) = _; rw [e1, hx, sw_l]
      rw [e3, show a (t + 1) = i by rw [e1]; exact hx]
      have f1 : (t + 1) * (i + 1) = (t + 1) * i + (t + 1) := Nat.mul_succ _ _
      rw [if_pos (show x ≤ t + 1 by omega)]
      rw [if_neg (show ¬ x ≤ t by omega)] at ih
      by_cases q : y ≤ t
      · rw [if_pos q] at ih; rw [if_pos (by omega)]; omega
      · rw [if_neg q] at ih; rw [if_neg (by omega)]; omega
    · by_cases e2 : t + 1 = y
      · have e3 : mvL i a (t + 1) = i := by show sw i (a (t + 1)) = _; rw [e2, hy, sw_r]
        rw [e3, show a (t + 1) = i + 1 by rw [e2]; exact hy]
        have f1 : (t + 1) * (i + 1) = (t + 1) * i + (t + 1) := Nat.mul_succ _ _
        rw [if_pos (show y ≤ t + 1 by omega)]
        rw [if_neg (show ¬ y ≤ t by omega)] at ih
        by_cases q : x ≤ t
        · rw [if_pos q] at ih; rw [if_pos (by omega)]; omega
        · rw [if_neg q] at ih; rw [if_neg (by omega)]; omega
      · have e3 : mvL i a (t + 1) = a (t + 1) := by
          show sw i (a (t + 1)) = _
          rw [sw_n]
          · exact fun w => e1 (ha.2 _ _ (by omega) h hx1 hx2 (w.trans hx.symm))
          · exact fun w => e2 (ha.2 _ _ (by omega) h hy1 hy2 (w.trans hy.symm))
        rw [e3]
        by_cases q : x ≤ t <;> by_cases q2 : y ≤ t
        · rw [if_pos q, if_pos q2] at ih; rw [if_pos (by omega), if_pos (by omega)]; omega
        · rw [if_pos q, if_neg q2] at ih; rw [if_neg (show ¬ y ≤ t + 1 by omega), if_pos (show x ≤ t + 1 by omega)]; omega
        · rw [if_neg q, if_pos q2] at ih; rw [if_pos (show y ≤ t + 1 by omega), if_neg (show ¬ x ≤ t + 1 by omega)]; omega
        · rw [if_neg q, if_neg q2] at ih; rw [if_neg (by omega), if_neg (by omega)]; omega
/-- the measure of a row of factors: less by every move -/
def psi (s : Nat) (a : Nat → Nat) : Nat := s * s * s - phi a s
theorem phi_le {a : Nat → Nat} {s : Nat} (h : ∀ x, 1 ≤ x → x ≤ s → a x ≤ s) : ∀ t, t ≤ s → phi a t ≤ t * (s * s)
  | 0, _ => by simp [phi]
  | t + 1, ht => by
    have ih := phi_le h t (by omega)
    have h1 := h (t + 1) (by omega) ht
    have h2 : (t + 1) * a (t + 1) ≤ s * s := Nat.mul_le_mul ht h1
    have e : (t + 1) * (s * s) = t * (s * s) + s * s := Nat.succ_mul _ _
    unfold phi
    omega
theorem phi_le3 {a : Nat → Nat} {s : Nat} (h : PermOn a s) : phi a s ≤ s * s * s := by
  have := phi_le (a := a) (s := s) (fun x h1 h2 => (h.1 x h1 h2).2) s (Nat.le_refl _)
  rw [Nat.mul_assoc]
  exact this
theorem psi_mvR {b : Nat → Nat} {s i : Nat} (hb : PermOn b s) (h1 : 1 ≤ i) (h2 : i < s) (h : b (i + 1) < b i) : psi s (mvR i b) + 1 ≤ psi s b := by
  have e := phi_mvR (b := b) h1 s (by omega)
  have hp : PermOn (mvR i b) s := by
    refine ⟨fun p hp1 hp2 => ?_, fun p q hp1 hp2 hq1 hq2 e => ?_⟩
    · have := sw_in h1 h2 hp1 hp2
      exact hb.1 _ this.1 this.2
    · have a1 := sw_in h1 h2 hp1 hp2
      have a2 := sw_in h1 h2 hq1 hq2
      exact sw_inj (hb.2 _ _ a1.1 a1.2 a2.1 a2.2 e)
  have l1 := phi_le3 hb
  have l2 := phi_le3 hp
  unfold psi
  omega
theorem psi_mvL {a : Nat → Nat} {s i : Nat} (ha : PermOn a s) (h1 : 1 ≤ i) (h2 : i < s) : psi s (mvL i a) ≤ psi s a + s := by
  obtain ⟨x, hx1, hx2, hx⟩ := perm_surj ha h1 (show i ≤ s by omega)
  obtain ⟨y, hy1, hy2, hy⟩ := perm_surj ha (show 1 ≤ i + 1 by omega) (show i + 1 ≤ s by omega)
  have e := phi_mvL ha hx1 hx2 hy1 hy2 hx hy s (Nat.le_refl _)
  rw [if_pos hy2, if_pos hx2] at e
  unfold psi
  omega
def mu (s : Nat) (A : Sq) : Nat → Nat
  | 0 => 0
  | n + 1 => mu s A n + (s + 1) ^ n * psi s (A n)
theorem pw_pos (s : Nat) : ∀ k, 0 < (s + 1) ^ k
  | 0 => by simp
  | k + 1 => by
    rw [Nat.pow_succ]
    exact Nat.mul_pos (pw_pos s k) (by omega)
theorem mu_congr {s : Nat} {A B : Sq} : ∀ n, (∀ f, f < n → A f = B f) → mu s A n = mu s B n
  | 0, _ => rfl
  | n + 1, h => by
    unfold mu
    rw [mu_congr n (fun f hf => h f (by omega)), h n (by omega)]
theorem mu_step {s N : Nat} {A : Sq} {k i : Nat} (hc : Can s N A) (hm : MvOK s A k i) : ∀ n, k + 2 ≤ n → mu s (mvS A k i) n < mu s A n
  | 0, h => by omega
  | n + 1, h => by
    by_cases e : n = k + 1
    · subst e
      show mu s (mvS A k i) k + (s + 1) ^ k * psi s (mvS A k i k) + (s + 1) ^ (k + 1) * psi s (mvS A k i (k + 1)) < mu s A k + (s + 1) ^ k * psi s (A k) + (s + 1) ^ (k + 1) * psi s (A (k + 1))
      rw [mu_congr (B := A) k (fun f hf => mvS_o A (by omega) (by omega)), mvS_k, mvS_k1]
      have p1 := psi_mvR (hc.1 (k + 1)).1 hm.1 hm.2.1 hm.2.2.1
      have p2 := psi_mvL (hc.1 k).1 hm.1 hm.2.1
      have q1 : (s + 1) ^ k * psi s (mvL i (A k)) ≤ (s + 1) ^ k * psi s (A k) + (s + 1) ^ k * s := by
        rw [← Nat.mul_add]
        exact Nat.mul_le_mul_left _ p2
      have q2 : (s + 1) ^ (k + 1) * psi s (mvR i (A (k + 1))) + (s + 1) ^ (k + 1) ≤ (s + 1) ^ (k + 1) * psi s (A (k + 1)) := by
        rw [← Nat.mul_succ]
        exact Nat.mul_le_mul_left _ p1
      have q3 : (s + 1) ^ (k + 1) = (s + 1) ^ k * s + (s + 1) ^ k := by rw [Nat.pow_succ, Nat.mul_succ]
      have q4 : 0 < (s + 1) ^ k := pw_pos s k
      omega
    · have ih := mu_step hc hm n (by omega)
      unfold mu
      rw [mvS_o A (show n ≠ k by omega) e]
      omega
theorem Step.mu {s N : Nat} {A B : Sq} (hc : Can s N A) (h : Step s N A B) : mu s B N < mu s A N := by
  obtain ⟨k, i, hk, hm, rfl⟩ := h
  exact mu_step hc hm N (by omega)
theorem nf_ex {s N : Nat} : ∀ (n : Nat) (A : Sq), Can s N A → mu s A N < n → ∃ B, Rch s N A B ∧ Nf s N B
  | 0, _, _, h => by omega
  | n + 1, A, hc, h => by
    by_cases q : ∃ B, Step s N A B
    · obtain ⟨B, hs⟩ := q
      have := hs.mu hc
      obtain ⟨C, h1, h2⟩ := nf_ex n B (hs.can hc) (by omega)
      exact ⟨C, (Rch.one hs).trans h1, h2⟩
    · exact ⟨A, Rch.rf, fun k i hk hm => q ⟨_, k, i, hk, hm, rfl⟩⟩
theorem sw_comm {i j x : Nat} (h : i + 2 ≤ j ∨ j + 2 ≤ i) : sw i (sw j x) = sw j (sw i x) := by
  unfold sw
  split <;> split <;> (try split) <;> (try split) <;> (try split) <;> (try split) <;> omega
theorem sw_braid (i x : Nat) : sw i (sw (i + 1) (sw i x)) = sw (i + 1) (sw i (sw (i + 1) x)) := by
  by_cases h1 : x = i
  · subst h1
    rw [sw_l, sw_l, sw_n (i := x) (x := x + 1 + 1) (by omega) (by omega), sw_n (i := x + 1) (x := x) (by omega) (by omega), sw_l, sw_l]
  · by_cases h2 : x = i + 1
    · subst h2
      rw [sw_r, sw_n (i := i + 1) (x := i) (by omega) (by omega), sw_l, sw_l, sw_n (i := i) (x := i + 1 + 1) (by omega) (by omega), sw_r]
    · by_cases h3 : x = i + 1 + 1
      · subst h3
        rw [sw_n (i := i) (x := i + 1 + 1) (by omega) (by omega), sw_r, sw_r, sw_n (i := i + 1) (x := i) (by omega) (by omega)]
      · rw [sw_n (i := i) h1 h2, sw_n (i := i + 1) h2 h3, sw_n (i := i) h1 h2]
        exact (sw_n (i := i + 1) h2 h3).symm
theorem up_move {s i j : Nat} {a : Nat → Nat} (h : Up s a j) (hij : i + 2 ≤ j ∨ j + 2 ≤ i) : Up s (mvL i a) j := by
  intro x y h1 h2 h3 h4 e1 e2
  have f1 : a x = j := by
    have := congrArg (sw i) (show sw i (a x) = j from e1)
    rw [sw_sw, sw_n (by omega) (by omega)] at this
    exact this
  have f2 : a y = j + 1 := by
    have := congrArg (sw i) (show sw i (a y) = j + 1 from e2)
    rw [sw_sw, sw_n (by omega) (by omega)] at this
    exact this
  exact h x y h1 h2 h3 h4 f1 f2
theorem up_inv {i q : Nat} {a : Nat → Nat} {x : Nat} (e : mvL i a x = q) : a x = sw i q := by
  have := congrArg (sw i) (show sw i (a x) = q from e)
  rw [sw_sw] at this
  exact this
theorem sq_ext {A B : Sq} (h : ∀ f, A f = B f) : A = B := funext h
/-- two moves at one place, or at two: they meet again -/
theorem meet {s N : Nat} {A : Sq} {k i l j : Nat} (hc : Can s N A) (hk : k + 1 < N) (hl : l + 1 < N) (h1 : MvOK s A k i) (h2 : MvOK s A l j) (hkl : k ≤ l) (hij : k = l → i ≤ j) : ∃ D, Rch s N (mvS A k i) D ∧ Rch s N (mvS A l j) D := by
  by_cases e : k = l
  · subst e
    have hij := hij rfl
    by_cases e2 : i = j
    · subst e2
      exact ⟨_, Rch.rf, Rch.rf⟩
    · by_cases e3 : j = i + 1
      · subst e3
        -- i, i+1 at one place
        have pA := hc.1 k
        have pB := hc.1 (k + 1)
        obtain ⟨x, hx1, hx2, hx⟩ := perm_surj pA.1 h1.1 (show i ≤ s by have := h1.2.1; omega)
        obtain ⟨y, hy1, hy2, hy⟩ := perm_surj pA.1 (show 1 ≤ i + 1 by omega) (show i + 1 ≤ s by have := h1.2.1; omega)
        obtain ⟨z, hz1, hz2, hz⟩ := perm_surj pA.1 (show 1 ≤ i + 1 + 1 by omega) (show i + 1 + 1 ≤ s by have := h2.2.1; omega)
        have lxy := h1.2.2.2 x y hx1 hx2 hy1 hy2 hx hy
        have lyz := h2.2.2.2 y z hy1 hy2 hz1 hz2 hy hz
        have b1 := h1.2.2.1
        have b2 := h2.2.2.1
        have uni : ∀ {p q : Nat}, 1 ≤ p → p ≤ s → 1 ≤ q → q ≤ s → A k p = A k q → p = q := fun a b c d e => pA.1.2 _ _ a b c d e
        -- i, then i+1, then i
        have m1 : MvOK s (mvS A k i) k (i + 1) := by
          refine ⟨by omega, h2.2.1, ?_, ?_⟩
          · rw [mvS_k1]
            show A (k + 1) (sw i (i + 1 + 1)) < A (k + 1) (sw i (i + 1))
            rw [sw_r, sw_n (by omega) (by omega)]
            omega
          · rw [mvS_k]
            intro p q p1 p2 q1 q2 ep eq
            have e1 := up_inv ep
            have e2 := up_inv eq
            rw [sw_r] at e1
            rw [sw_n (by omega) (by omega)] at e2
            have := uni p1 p2 hx1 hx2 (e1.trans hx.symm)
            have := uni q1 q2 hz1 hz2 (e2.trans hz.symm)
            omega
        have m2 : MvOK s (mvS (mvS A k i) k (i + 1)) k i := by
          refine ⟨h1.1, h1.2.1, ?_, ?_⟩
          · rw [mvS_k1, mvS_k1]
            show A (k + 1) (sw i (sw (i + 1) (i + 1))) < A (k + 1) (sw i (sw (i + 1) i))
            rw [sw_l, sw_n (i := i) (x := i + 1 + 1) (by omega) (by omega), sw_n (i := i + 1) (x := i) (by omega) (by omega), sw_l]
            exact b2
          · rw [mvS_k, mvS_k]
            intro p q p1 p2 q1 q2 ep eq
            have e1 := up_inv (up_inv ep)
            have e2 := up_inv (up_inv eq)
            rw [sw_n (i := i + 1) (x := i) (by omega) (by omega), sw_l] at e1
            rw [sw_l, sw_n (i := i) (x := i + 1 + 1) (by omega) (by omega)] at e2
            have := uni p1 p2 hy1 hy2 (e1.trans hy.symm)
            have := uni q1 q2 hz1 hz2 (e2.trans hz.symm)
            omega
        have n1 : MvOK s (mvS A k (i + 1)) k i := by
          refine ⟨h1.1, h1.2.1, ?_, ?_⟩
          · rw [mvS_k1]
            show A (k + 1) (sw (i + 1) (i + 1)) < A (k + 1) (sw (i + 1) i)
            rw [sw_l, sw_n (by omega) (by omega)]
            omega
          · rw [mvS_k]
            intro p q p1 p2 q1 q2 ep eq
            have e1 := up_inv ep
            have e2 := up_inv eq
            rw [sw_n (by omega) (by omega)] at e1
            rw [sw_l] at e2
            have := uni p1 p2 hx1 hx2 (e1.trans hx.symm)
            have := uni q1 q2 hz1 hz2 (e2.trans hz.symm)
            omega
        have n2 : MvOK s (mvS (mvS A k (i + 1)) k i) k (i + 1) := by
          refine ⟨by omega, h2.2.1, ?_, ?_⟩
          · rw [mvS_k1, mvS_k1]
            show A (k + 1) (sw (i + 1) (sw i (i + 1 + 1))) < A (k + 1) (sw (i + 1) (sw i (i + 1)))
            rw [sw_n (i := i) (x := i + 1 + 1) (by omega) (by omega), sw_r, sw_r, sw_n (i := i + 1) (x := i) (by omega) (by omega)]
            exact b1
          · rw [mvS_k, mvS_k]
            intro p q p1 p2 q1 q2 ep eq
            have e1 := up_inv (up_inv ep)
            have e2 := up_inv (up_inv eq)
            rw [sw_r, sw_n (i := i + 1) (x := i) (by omega) (by omega)] at e1
            rw [sw_n (i := i) (x := i + 1 + 1) (by omega) (by omega), sw_r] at e2
            have := uni p1 p2 hx1 hx2 (e1.trans hx.symm)
            have := uni q1 q2 hy1 hy2 (e2.trans hy.symm)
            omega
        refine ⟨mvS (mvS (mvS A k i) k (i + 1)) k i, (Rch.one ⟨k, i + 1, hk, m1, rfl⟩).step ⟨k, i, hk, m2, rfl⟩, ?_⟩
        have : mvS (mvS (mvS A k i) k (i + 1)) k i = mvS (mvS (mvS A k (i + 1)) k i) k (i + 1) := by
          refine sq_ext fun f => ?_
          by_cases w : f = k
          · subst w
            rw [mvS_k, mvS_k, mvS_k, mvS_k, mvS_k, mvS_k]
            funext t
            exact sw_braid i _
          · by_cases w2 : f = k + 1
            · subst w2
              rw [mvS_k1, mvS_k1, mvS_k1, mvS_k1, mvS_k1, mvS_k1]
              funext t
              exact congrArg (A (k + 1)) (sw_braid i t)
            · rw [mvS_o _ w w2, mvS_o _ w w2, mvS_o _ w w2, mvS_o _ w w2, mvS_o _ w w2, mvS_o _ w w2]
        rw [this]
        exact (Rch.one ⟨k, i, hk, n1, rfl⟩).step ⟨k, i + 1, hk, n2, rfl⟩
      · -- far apart at one place
        have far : i + 2 ≤ j := by omega
        have m1 : MvOK s (mvS A k i) k j := by
          refine ⟨h2.1, h2.2.1, ?_, ?_⟩
          · rw [mvS_k1]
            show A (k + 1) (sw i (j + 1)) < A (k + 1) (sw i j)
            rw [sw_n (by omega) (by omega), sw_n (by omega) (by omega)]
            exact h2.2.2.1
          · rw [mvS_k]
            exact up_move h2.2.2.2 (Or.inl far)
        have n1 : MvOK s (mvS A k j) k i := by
          refine ⟨h1.1, h1.2.1, ?_, ?_⟩
          · rw [mvS_k1]
            show A (k + 1) (sw j (i + 1)) < A (k + 1) (sw j i)
            rw [sw_n (by omega) (by omega), sw_n (by omega) (by omega)]
            exact h1.2.2.1
          · rw [mvS_k]
            exact up_move h1.2.2.2 (Or.inr far)
        refine ⟨mvS (mvS A k i) k j, Rch.one ⟨k, j, hk, m1, rfl⟩, ?_⟩
        have : mvS (mvS A k i) k j = mvS (mvS A k j) k i := by
          refine sq_ext fun f => ?_
          by_cases w : f = k
          · subst w
            rw [mvS_k, mvS_k, mvS_k, mvS_k]
            funext t
            exact sw_comm (Or.inr far)
          · by_cases w2 : f = k + 1
            · subst w2
              rw [mvS_k1, mvS_k1, mvS_k1, mvS_k1]
              funext t
              exact congrArg (A (k + 1)) (sw_comm (Or.inl far))
            · rw [mvS_o _ w w2, mvS_o _ w w2, mvS_o _ w w2, mvS_o _ w w2]
        rw [this]
        exact Rch.one ⟨k, i, hk, n1, rfl⟩
  · by_cases e2 : l = k + 1
    · subst e2
      -- neighbours: k takes i from k+1, k+1 takes j from k+2
      have pB := hc.1 (k + 1)
      have m1 : MvOK s (mvS A k i) (k + 1) j := by
        refine ⟨h2.1, h2.2.1, ?_, ?_⟩
        · rw [mvS_o A (by omega) (by omega)]
          exact h2.2.2.1
        · rw [mvS_k1]
          intro p q p1 p2 q1 q2 ep eq
          -- in A (k+1), the straws sw i p, sw i q end at j, j+1
          have hp' := sw_in h1.1 h1.2.1 p1 p2
          have hq' := sw_in h1.1 h1.2.1 q1 q2
          have l1 := h2.2.2.2 (sw i p) (sw i q) hp'.1 hp'.2 hq'.1 hq'.2 ep eq
          rcases Nat.lt_trichotomy p q with w | w | w
          · exact w
          · subst w; omega
          · -- q < p but sw i p < sw i q: then q = i, p = i+1
            exfalso
            have hb := h1.2.2.1
            by_cases c1 : q = i
            · by_cases c2 : p = i + 1
              · subst c1; subst c2
                have ep' : A (k + 1) (sw q (q + 1)) = j := ep
                have eq' : A (k + 1) (sw q q) = j + 1 := eq
                rw [sw_r] at ep'
                rw [sw_l] at eq'
                omega
              · subst c1
                rw [sw_l, sw_n (x := p) (by omega) c2] at l1
                omega
            · by_cases c3 : q = i + 1
              · subst c3
                rw [sw_r, sw_n (x := p) (by omega) (by omega)] at l1
                omega
              · rw [sw_n (x := q) c1 c3] at l1
                by_cases c4 : p = i
                · subst c4; rw [sw_l] at l1; omega
                · by_cases c5 : p = i + 1
                  · subst c5; rw [sw_r] at l1; omega
                  · rw [sw_n (x := p) c4 c5] at l1; omega
      have n1 : MvOK s (mvS A (k + 1) j) k i := by
        refine ⟨h1.1, h1.2.1, ?_, ?_⟩
        · rw [mvS_k]
          show sw j (A (k + 1) (i + 1)) < sw j (A (k + 1) i)
          have hb := h1.2.2.1
          -- not (i+1 ends at j and i at j+1)
          have hno : ¬ (A (k + 1) (i + 1) = j ∧ A (k + 1) i = j + 1) := fun w => by
            have := h2.2.2.2 (i + 1) i (by omega) (by have := h1.2.1; omega) h1.1 (by have := h1.2.1; omega) w.1 w.2
            omega
          generalize A (k + 1) (i + 1) = u at hb hno ⊢
          generalize A (k + 1) i = v at hb hno ⊢
          unfold sw
          split <;> split <;> (try split) <;> (try split) <;> omega
        · rw [mvS_o A (by omega) (by omega)]
          exact h1.2.2.2
      refine ⟨mvS (mvS A k i) (k + 1) j, Rch.one ⟨k + 1, j, hl, m1, rfl⟩, ?_⟩
      have : mvS (mvS A k i) (k + 1) j = mvS (mvS A (k + 1) j) k i := by
        refine sq_ext fun f => ?_
        by_cases w : f = k
        · subst w
          rw [mvS_o _ (by omega) (by omega), mvS_k, mvS_k, mvS_o A (by omega) (by omega)]
        · by_cases w2 : f = k + 1
          · subst w2
            rw [mvS_k, mvS_k1, mvS_k1, mvS_k]
            rfl
          · by_cases w3 : f = k + 1 + 1
            · subst w3
              rw [mvS_k1, mvS_o A (by omega) (by omega), mvS_o _ (by omega) (by omega), mvS_k1]
            · rw [mvS_o _ w2 w3, mvS_o _ w w2, mvS_o _ w w2, mvS_o _ w2 w3]
      rw [this]
      exact Rch.one ⟨k, i, hk, n1, rfl⟩
    · -- far places
      have m1 : MvOK s (mvS A k i) l j := by
        refine ⟨h2.1, h2.2.1, ?_, ?_⟩
        · rw [mvS_o A (by omega) (by omega)]; exact h2.2.2.1
        · rw [mvS_o A (by omega) (by omega)]; exact h2.2.2.2
      have n1 : MvOK s (mvS A l j) k i := by
        refine ⟨h1.1, h1.2.1, ?_, ?_⟩
        · rw [mvS_o A (by omega) (by omega)]; exact h1.2.2.1
        · rw [mvS_o A (by omega) (by omega)]; exact h1.2.2.2
      refine ⟨mvS (mvS A k i) l j, Rch.one ⟨l, j, hl, m1, rfl⟩, ?_⟩
      have : mvS (mvS A k i) l j = mvS (mvS A l j) k i := by
        refine sq_ext fun f => ?_
        by_cases w : f = k
        · subst w
          rw [mvS_o _ (by omega) (by omega), mvS_k, mvS_k, mvS_o A (by omega) (by omega)]
        · by_cases w2 : f = k + 1
          · subst w2
            rw [mvS_o _ (by omega) (by omega), mvS_k1, mvS_k1, mvS_o A (by omega) (by omega)]
          · rw [mvS_o (mvS A l j) w w2]
            by_cases w3 : f = l
            · subst w3
              rw [mvS_k, mvS_k, mvS_o A w w2]
            · by_cases w4 : f = l + 1
              · subst w4
                rw [mvS_k1, mvS_k1, mvS_o A w w2]
              · rw [mvS_o _ w3 w4, mvS_o _ w w2, mvS_o _ w3 w4]
      rw [this]
      exact Rch.one ⟨k, i, hk, n1, rfl⟩
theorem meet2 {s N : Nat} {A B C : Sq} (hc : Can s N A) (hb : Step s N A B) (hd : Step s N A C) : ∃ D, Rch s N B D ∧ Rch s N C D := by
  obtain ⟨k, i, hk, h1, rfl⟩ := hb
  obtain ⟨l, j, hl, h2, rfl⟩ := hd
  rcases Nat.lt_trichotomy k l with w | w | w
  · exact meet hc hk hl h1 h2 (by omega) (by omega)
  · rcases Nat.le_total i j with w2 | w2
    · exact meet hc hk hl h1 h2 (by omega) (fun _ => w2)
    · obtain ⟨D, q1, q2⟩ := meet hc hl hk h2 h1 (by omega) (fun _ => w2)
      exact ⟨D, q2, q1⟩
  · obtain ⟨D, q1, q2⟩ := meet hc hl hk h2 h1 (by omega) (by omega)
    exact ⟨D, q2, q1⟩
/-- one normal form -/
theorem nf_one {s N : Nat} : ∀ (n : Nat) (A B C : Sq), Can s N A → mu s A N < n → Rch s N A B → Rch s N A C → Nf s N B → Nf s N C → B = C
  | 0, _, _, _, _, h, _, _, _, _ => by omega
  | n + 1, A, B, C, hc, h, hb, hd, nb, nc => by
    rcases hb.head with e | ⟨A1, s1, r1⟩
    · subst e
      rcases hd.head with e | ⟨A2, ⟨k, i, hk, hm, -⟩, -⟩
      · exact e.symm
      · exact absurd hm (nb k i hk)
    · rcases hd.head with e | ⟨A2, s2, r2⟩
      · subst e
        obtain ⟨k, i, hk, hm, -⟩ := s1
        exact absurd hm (nc k i hk)
      · obtain ⟨D, d1, d2⟩ := meet2 hc s1 s2
        have hcD := d1.can (s1.can hc)
        obtain ⟨E, e1, e2⟩ := nf_ex (mu s D N + 1) D hcD (by omega)
        have l1 := s1.mu hc
        have l2 := s2.mu hc
        have q1 := nf_one n A1 B E (s1.can hc) (by omega) r1 (d1.trans e1) nb e2
        have q2 := nf_one n A2 C E (s2.can hc) (by omega) r2 (d2.trans e1) nc e2
        exact q1.trans q2.symm
end
section
/-! the reference: takes -/
def SeqOK (R : Rt) (N s : Nat) (A : Sq) : Prop := ∀ f, f < N → ∀ x, 1 ≤ x → x ≤ s → R 18 (8 * f + x) = nI (A f x)
theorem SeqOK.fac {R : Rt} {N s : Nat} {A : Sq} (h : SeqOK R N s A) (hc : Can s N A) {f : Nat} (hf : f < N) : FacOK R f s (A f) := ⟨h f hf, (hc.1 f).1⟩
theorem SeqOK.mv {R : Rt} {N s k i : Nat} {A : Sq} {P P2 : Nat → Int32} (h : SeqOK R N s A) (hs : s ≤ 7) (hk : k + 1 < N) (h1 : 1 ≤ i) (h2 : i < s) (hP : ∀ x, 1 ≤ x → x ≤ s → P (8 * k + x) = nI (sw i (A k x))) (hQ : ∀ q, (q ≤ 8 * k ∨ 8 * k + s < q) → P q = R 18 q) (hP2 : P2 = upd (upd P (8 * k + 8 + i) (P (8 * k + 8 + (i + 1)))) (8 * k + 8 + (i + 1)) (P (8 * k + 8 + i))) : SeqOK (va_up R 18 P2) N s (mvS A k i) := by
  intro f hf x hx1 hx2
  show P2 (8 * f + x) = _
  rw [hP2]
  by_cases e : f = k + 1
  · subst e
    rw [mvS_k1]
    show _ = nI (A (k + 1) (sw i x))
    have old : ∀ y, 1 ≤ y → y ≤ s → P (8 * k + 8 + y) = nI (A (k + 1) y) := fun y y1 y2 => by
      rw [hQ _ (by omega), show 8 * k + 8 + y = 8 * (k + 1) + y by omega]
      exact h (k + 1) hf y y1 y2
    by_cases e2 : x = i + 1
    · subst e2
      rw [show 8 * (k + 1) + (i + 1) = 8 * k + 8 + (i + 1) by omega, pk_us, sw_r]
      exact old i h1 (by omega)
    · rw [pk_un (by omega)]
      by_cases e3 : x = i
      · subst e3
        rw [show 8 * (k + 1) + x = 8 * k + 8 + x by omega, pk_us, sw_l]
        exact old (x + 1) (by omega) (by omega)
      · rw [pk_un (by omega), sw_n e3 e2, show 8 * (k + 1) + x = 8 * k + 8 + x by omega]
        exact old x hx1 hx2
  · rw [pk_un (by omega), pk_un (by omega)]
    by_cases e4 : f = k
    · subst e4
      rw [mvS_k]
      exact hP x hx1 hx2
    · rw [hQ _ (by omega), mvS_o A e4 e]
      exact h f hf x hx1 hx2
section M14
variable (G : Gx) (h : Nat) (ad : Nat → Nat) (M : Mt) (R : Rt)
theorem c_takes {k s N : Nat} {A : Sq} (hN : N ≤ 600) (hk : k + 1 < N) (hs : s ≤ 7) (hc : Can s N A) (hA : SeqOK R N s A) : mI G h ad yX7_takes cX7_takes 6 .boolean 3 [.int (nI k), .int (nI s)] M R (fun r M' R' => M' = M ∧ ∃ P A', R' = va_up R 18 P ∧ Rch s N A A' ∧ SeqOK R' N s A' ∧ (∀ i, ¬ MvOK s A' k i) ∧ ((r = 0 ∧ A' = A) ∨ (r = 1 ∧ mu s A' N < mu s A N))) := by
  refine mI.intro (by decide) (Nat.le_of_ble_eq_true rfl) (cat1 (xs := [nI k, nI s])) fun X C hR => ?_
  have main : ∀ (n : Nat) (P : Nat → Int32) (A' : Sq) (sm : Int32), mu s A' N < n → Rch s N A A' → SeqOK (va_up R 18 P) N s A' → ((sm = 0 ∧ A' = A) ∨ (sm = 1 ∧ mu s A' N < mu s A N)) → ∀ (m i : Nat) (o5 : Option Value), i + m = s ∨ (m = 0 ∧ s ≤ i) → 1 ≤ i → i ≤ 8 → (∀ q, q < i → ¬ MvOK s A' k q) → V X 0 0 5 [some (.ref h), some (.int (nI k)), some (.int (nI s)), some (.int sm), some (.int (nI i)), o5] [] (mW G h ad M (va_up R 18 P)) := by
    intro n
    induction n with
    | zero => intro P A' sm hn; omega
    | succ n ihn =>
      intro P A' sm hn hr hA' hsm m
      have hc' := hr.can hc
      induction m with
      | zero =>
        intro i o5 hi hi1 hi8 hno
        have hfin : ∀ i, ¬ MvOK s A' k i := fun q w => by
          by_cases e : q < i
          · exact hno q e w
          · have := w.2.1
            omega
        refine r_iload C dX7_takes_5 rfl ?_
        refine r_iload_n C dX7_takes_7 rfl rfl ?_
        refine r_icmp_ge (tgt := 130) C dX7_takes_8 (by decide) (fun c8 => ?_) (fun c8 => absurd c8 ((fun q => q (nI_le (by omega) (by omega)))))
        refine r_iload_n C dX7_takes_130 rfl rfl ?_
        exact hR _ _ _ _ _ (by rcases hsm with q | q <;> rw [q.1] <;> rfl) dX7_takes_131 ⟨rfl, P, A', rfl, hr, hA', hfin, hsm⟩
      | succ m ihm =>
        intro i o5 hi hi1 hi8 hno
        have his : i < s := by omega
        have hb1 := (hc'.1 (k + 1)).1.1 i hi1 (by omega)
        have hb2 := (hc'.1 (k + 1)).1.1 (i + 1) (by omega) (by omega)
        have fa : FacOK (va_up R 18 P) k s (A' k) := hA'.fac hc' (by omega)
        have go : ∀ o5 : Option Value, ¬ MvOK s A' k i → V X 0 0 124 [some (.ref h), some (.int (nI k)), some (.int (nI s)), some (.int sm), some (.int (nI i)), o5] [] (mW G h ad M (va_up R 18 P)) := by
          intro o5 hn2
          refine r_iinc (v := _ + 1) C dX7_takes_124 rfl (by rfl) (by decide) ?_
          rw [nI_1]
          refine r_goto (tgt := 5) C dX7_takes_127 (by decide) ?_
          exact ihm (i + 1) _ (by omega) (by omega) (by omega) (fun q hq => by
            by_cases e : q = i
            · subst e; exact hn2
            · exact hno q (by omega))
        have g1 : va_up R 18 P 18 (8 * (k + 1) + i) = nI (A' (k + 1) i) := hA' (k + 1) hk i hi1 (by omega)
        have g2 : va_up R 18 P 18 (8 * (k + 1) + (i + 1)) = nI (A' (k + 1) (i + 1)) := hA' (k + 1) hk (i + 1) (by omega) (by omega)
        have mvd : ∀ o5 : Option Value, MvOK s A' k i → V X 0 0 53 [some (.ref h), some (.int (nI k)), some (.int (nI s)), some (.int sm), some (.int (nI i)), o5] [] (mW G h ad M (va_up R 18 P)) := by
          intro o5 hok
          have hstep : Step s N A' (mvS A' k i) := ⟨k, i, hk, hok, rfl⟩
          have hmu := hstep.mu hc'
          refine r_aload_n C dX7_takes_53 rfl rfl ?_
          refine r_iload_n C dX7_takes_54 rfl rfl ?_
          refine r_iload C dX7_takes_55 rfl ?_
          refine m_callv C (c_behind G h ad M (va_up R 18 P) (show k ≤ 600 by omega) hs fa hi1 his) kM_behind dX7_takes_57 rfl (by decide) (by decide) (by decide) (Nat.le_of_ble_eq_true rfl) rfl rfl (fun M1 R1 hq => ?_)
          obtain ⟨rfl, P1, rfl, hP1, hQ1⟩ := hq
          rw [up_up]
          refine r_aload_n C dX7_takes_60 rfl rfl ?_
          refine r_iload_n C dX7_takes_61 rfl rfl ?_
          refine r_iconst (v := 1) C dX7_takes_62 (by decide) ?_
          refine r_iadd C dX7_takes_63 ?_
          refine r_iload C dX7_takes_64 rfl ?_
          rw [nI_1]
          refine m_calli C (c_get G h ad M1 (va_up R 18 P1) (k + 1) i (by omega) (by omega)) kM_get dX7_takes_66 rfl (by decide) (by decide) (by decide) (Nat.le_of_ble_eq_true rfl) rfl rfl (fun r M2 R2 hq => ?_)
          obtain ⟨rfl, rfl, rfl⟩ := hq
          refine r_istore C dX7_takes_69 (by decide) ?_
          refine r_aload_n C dX7_takes_71 rfl rfl ?_
          refine mg_perm C dX7_takes_72 ?_
          refine r_bipush (v := 8) C dX7_takes_75 (by decide) ?_
          refine r_iload_n C dX7_takes_77 rfl rfl ?_
          refine r_imul C dX7_takes_78 ?_
          refine r_bipush (v := 8) C dX7_takes_79 (by decide) ?_
          refine r_iadd C dX7_takes_81 ?_
          refine r_iload C dX7_takes_82 rfl ?_
          refine r_iadd C dX7_takes_84 ?_
          refine r_aload_n C dX7_takes_85 rfl rfl ?_
          refine r_iload_n C dX7_takes_86 rfl rfl ?_
          refine r_iconst (v := 1) C dX7_takes_87 (by decide) ?_
          refine r_iadd C dX7_takes_88 ?_
          refine r_iload C dX7_takes_89 rfl ?_
          refine r_iconst (v := 1) C dX7_takes_91 (by decide) ?_
          refine r_iadd C dX7_takes_92 ?_
          rw [nI_1, nI_1]
          refine m_calli C (c_get G h ad M2 (va_up R 18 P1) (k + 1) (i + 1) (by omega) (by omega)) kM_get dX7_takes_93 rfl (by decide) (by decide) (by decide) (Nat.le_of_ble_eq_true rfl) rfl rfl (fun r M3 R3 hq => ?_)
          obtain ⟨rfl, rfl, rfl⟩ := hq
          show V X 0 0 96 _ [.int (P1 (8 * (k + 1) + (i + 1))), .int (nI 8 * nI k + nI 8 + nI i), .ref (ad 18)] _
          rw [pk_mul, nI_add, nI_add, show 8 * (k + 1) + (i + 1) = 8 * k + 8 + (i + 1) by omega]
          refine ms_perm C dX7_takes_96 (vp_in_nI (show 8 * k + 8 + i < 4808 by omega) (by decide)) ?_
          rw [nI_clamp (by omega)]
          show V X 0 0 97 _ _ (mW G h ad _ (va_up (va_up R 18 P1) 18 (upd P1 (8 * k + 8 + i) _)))
          rw [up_up]
          refine r_aload_n C dX7_takes_97 rfl rfl ?_
          refine mg_perm C dX7_takes_98 ?_
          refine r_bipush (v := 8) C dX7_takes_101 (by decide) ?_
          refine r_iload_n C dX7_takes_103 rfl rfl ?_
          refine r_imul C dX7_takes_104 ?_
          refine r_bipush (v := 8) C dX7_takes_105 (by decide) ?_
          refine r_iadd C dX7_takes_107 ?_
          refine r_iload C dX7_takes_108 rfl ?_
          refine r_iadd C dX7_takes_110 ?_
          refine r_iconst (v := 1) C dX7_takes_111 (by decide) ?_
          refine r_iadd C dX7_takes_112 ?_
          refine r_iload C dX7_takes_113 rfl ?_
          show V X 0 0 115 _ [.int (P1 (8 * (k + 1) + i)), .int (nI 8 * nI k + nI 8 + nI i + nI 1), .ref (ad 18)] _
          rw [pk_mul, nI_add, nI_add, nI_add, show 8 * (k + 1) + i = 8 * k + 8 + i by omega]
          refine ms_perm C dX7_takes_115 (vp_in_nI (show 8 * k + 8 + i + 1 < 4808 by omega) (by decide)) ?_
          rw [nI_clamp (by omega)]
          show V X 0 0 116 _ _ (mW G h ad _ (va_up (va_up R 18 _) 18 (upd (upd P1 (8 * k + 8 + i) (P1 (8 * k + 8 + (i + 1)))) (8 * k + 8 + (i + 1)) (P1 (8 * k + 8 + i)))))
          rw [up_up]
          refine r_iconst (v := 1) C dX7_takes_116 (by decide) ?_
          refine r_istore_n C dX7_takes_117 rfl (by decide) ?_
          refine r_iconst (v := 1) C dX7_takes_118 (by decide) ?_
          refine r_istore C dX7_takes_119 (by decide) ?_
          refine r_goto (tgt := 5) C dX7_takes_121 (by decide) ?_
          exact ihn _ (mvS A' k i) 1 (by omega) (hr.step hstep) (by
            have q := SeqOK.mv hA' hs hk hi1 his hP1 hQ1 rfl
            rw [up_up] at q
            exact q) (Or.inr ⟨rfl, by rcases hsm with q | q; rw [← q.2]; exact hmu; omega⟩) (s - 1) 1 _ (by omega) (Nat.le_refl _) (by omega) (fun q hq w => by have := w.1; omega)
        refine r_iload C dX7_takes_5 rfl ?_
        refine r_iload_n C dX7_takes_7 rfl rfl ?_
        refine r_icmp_ge (tgt := 130) C dX7_takes_8 (by decide) (fun c8 => absurd c8 ((nI_ge (by omega) (by omega)))) (fun c8 => ?_)
        refine r_aload_n C dX7_takes_11 rfl rfl ?_
        refine r_iload_n C dX7_takes_12 rfl rfl ?_
        refine r_iconst (v := 1) C dX7_takes_13 (by decide) ?_
        refine r_iadd C dX7_takes_14 ?_
        refine r_iload C dX7_takes_15 rfl ?_
        rw [nI_1]
        refine m_calli C (c_get G h ad M (va_up R 18 P) (k + 1) i (by omega) (by omega)) kM_get dX7_takes_17 rfl (by decide) (by decide) (by decide) (Nat.le_of_ble_eq_true rfl) rfl rfl (fun r M1 R1 hq => ?_)
        obtain ⟨rfl, rfl, rfl⟩ := hq
        rw [g1]
        refine r_aload_n C dX7_takes_20 rfl rfl ?_
        refine r_iload_n C dX7_takes_21 rfl rfl ?_
        refine r_iconst (v := 1) C dX7_takes_22 (by decide) ?_
        refine r_iadd C dX7_takes_23 ?_
        refine r_iload C dX7_takes_24 rfl ?_
        refine r_iconst (v := 1) C dX7_takes_26 (by decide) ?_
        refine r_iadd C dX7_takes_27 ?_
        rw [nI_1, nI_1]
        refine m_calli C (c_get G h ad M1 (va_up R 18 P) (k + 1) (i + 1) (by omega) (by omega)) kM_get dX7_takes_28 rfl (by decide) (by decide) (by decide) (Nat.le_of_ble_eq_true rfl) rfl rfl (fun r M2 R2 hq => ?_)
        obtain ⟨rfl, rfl, rfl⟩ := hq
        rw [g2]
        refine r_icmp_le (tgt := 124) C dX7_takes_31 (by decide) (fun c31 => ?_) (fun c31 => ?_)
        · first
            | exact go _ (fun w => absurd (w.2.2.2 x y hx1 hx2 hy1 hy2 hx hy) (by rw [nI_leI (by omega) (by omega)] at c50; omega))
            | exact go _ (fun w => absurd w.2.2.1 (by rw [nI_leI (by omega) (by omega)] at c31; omega))
        · refine r_aload_n C dX7_takes_34 rfl rfl ?_
          refine r_iload_n C dX7_takes_35 rfl rfl ?_
          refine r_iload C dX7_takes_36 rfl ?_
          refine m_calli C (c_from G h ad M2 (va_up R 18 P) (show k ≤ 600 by omega) hs fa hi1 (by omega)) kM_from dX7_takes_38 rfl (by decide) (by decide) (by decide) (Nat.le_of_ble_eq_true rfl) rfl rfl (fun r M3 R3 hq => ?_)
          obtain ⟨⟨x, hx1, hx2, hx, rfl⟩, rfl, rfl⟩ := hq
          refine r_aload_n C dX7_takes_41 rfl rfl ?_
          refine r_iload_n C dX7_takes_42 rfl rfl ?_
          refine r_iload C dX7_takes_43 rfl ?_
          refine r_iconst (v := 1) C dX7_takes_45 (by decide) ?_
          refine r_iadd C dX7_takes_46 ?_
          rw [nI_1]
          refine m_calli C (c_from G h ad M3 (va_up R 18 P) (show k ≤ 600 by omega) hs fa (show 1 ≤ i + 1 by omega) (by omega)) kM_from dX7_takes_47 rfl (by decide) (by decide) (by decide) (Nat.le_of_ble_eq_true rfl) rfl rfl (fun r M4 R4 hq => ?_)
          obtain ⟨⟨y, hy1, hy2, hy, rfl⟩, rfl, rfl⟩ := hq
          refine r_icmp_ge (tgt := 124) C dX7_takes_50 (by decide) (fun c50 => ?_) (fun c50 => ?_)
          · first
              | exact go _ (fun w => absurd (w.2.2.2 x y hx1 hx2 hy1 hy2 hx hy) (by rw [nI_leI (by omega) (by omega)] at c50; omega))
              | exact go _ (fun w => absurd w.2.2.1 (by rw [nI_leI (by omega) (by omega)] at c31; omega))
          · exact mvd _ ⟨hi1, his, by rw [nI_leI (by omega) (by omega)] at c31; omega, fun p q p1 p2 q1 q2 ep eq => by
              have e1 := fa.2.2 p x p1 p2 hx1 hx2 (ep.trans hx.symm)
              have e2 := fa.2.2 q y q1 q2 hy1 hy2 (eq.trans hy.symm)
              rw [nI_leI (by omega) (by omega)] at c50
              omega⟩
  have q0 := main (mu s A N + 1) (R 18) A 0 (by omega) Rch.rf (by rw [up_same rfl]; exact hA) (Or.inl ⟨rfl, rfl⟩) (s - 1) 1 none (by omega) (Nat.le_refl _) (by omega) (fun q hq w => by have := w.1; omega)
  rw [up_same rfl] at q0
  refine r_iconst (v := 0) C dX7_takes_0 (by decide) ?_
  refine r_istore_n C dX7_takes_1 rfl (by decide) ?_
  refine r_iconst (v := 1) C dX7_takes_2 (by decide) ?_
  refine r_istore C dX7_takes_3 (by decide) ?_
  exact q0
end M14
end
section
/-! an empty factor lets the next one pass, by moves -/
def idF : Nat → Nat := fun x => x
/-- what has crossed in a stays crossed behind b -/
def Keeps (s : Nat) (a b : Nat → Nat) : Prop := ∀ p q, 1 ≤ p → p < q → q ≤ s → a q < a p → b (a q) < b (a p)
theorem no_desc_id {b : Nat → Nat} {s : Nat} (hb : PermOn b s) (hd : ∀ i, 1 ≤ i → i < s → ¬ b (i + 1) < b i) : ∀ x, 1 ≤ x → x ≤ s → b x = x := by
  have inc : ∀ i, 1 ≤ i → i < s → b i < b (i + 1) := fun i h1 h2 => by
    have h3 := hd i h1 h2
    rcases Nat.lt_trichotomy (b i) (b (i + 1)) with w | w | w
    · exact w
    · have := hb.2 i (i + 1) h1 (by omega) (by omega) (by omega) w
      omega
    · exact absurd w h3
  have lo : ∀ x, 1 ≤ x → x ≤ s → x ≤ b x := by
    intro x
    induction x with
    | zero => intro h; omega
    | succ x ih =>
      intro h1 h2
      by_cases e : x = 0
      · subst e; exact (hb.1 1 (by omega) h2).1
      · have a1 := ih (by omega) (by omega)
        have a2 := inc x (by omega) (by omega)
        omega
  have hi : ∀ d x, x + d = s → 1 ≤ x → b x + d ≤ s := by
    intro d
    induction d with
    | zero => intro x h1 h2; have := (hb.1 x h2 (by omega)).2; omega
    | succ d ih =>
      intro x h1 h2
      have a1 := ih (x + 1) (by omega) (by omega)
      have a2 := inc x h2 (by omega)
      omega
  intro x h1 h2
  have a1 := lo x h1 h2
  have a2 := hi (s - x) x (by omega) h1
  omega
theorem can_id {s N f : Nat} {A : Sq} (hc : Can s N A) (h : ∀ x, 1 ≤ x → x ≤ s → A f x = x) : A f = idF := by
  funext x
  show A f x = x
  by_cases e : 1 ≤ x ∧ x ≤ s
  · exact h x e.1 e.2
  · exact (hc.1 f).2 x (by omega)
theorem pass_gen {s N k : Nat} (hk : k + 1 < N) : ∀ (n : Nat) (A : Sq) (g : Nat → Nat), Can s N A → mu s A N < n → Keeps s (A k) (A (k + 1)) → (∀ x, A (k + 1) (A k x) = g x) → Rch s N A (va_up (va_up A k g) (k + 1) idF)
  | 0, _, _, _, h, _, _ => by omega
  | n + 1, A, g, hc, h, hK, hg => by
    by_cases hd : ∃ i, 1 ≤ i ∧ i < s ∧ A (k + 1) (i + 1) < A (k + 1) i
    · obtain ⟨i, h1, h2, h3⟩ := hd
      have hok : MvOK s A k i := by
        refine ⟨h1, h2, h3, fun x y x1 x2 y1 y2 ex ey => ?_⟩
        rcases Nat.lt_trichotomy x y with w | w | w
        · exact w
        · subst w; omega
        · have := hK y x y1 w x2 (by omega)
          rw [ex, ey] at this
          omega
      have hst : Step s N A (mvS A k i) := ⟨k, i, hk, hok, rfl⟩
      have hmu := hst.mu hc
      have ih := pass_gen hk n (mvS A k i) g (hst.can hc) (by omega) (by
        rw [mvS_k, mvS_k1]
        intro p q p1 pq q2 hlt
        show A (k + 1) (sw i (sw i (A k q))) < A (k + 1) (sw i (sw i (A k p)))
        rw [sw_sw, sw_sw]
        have hlt' : sw i (A k q) < sw i (A k p) := hlt
        by_cases w : A k q < A k p
        · exact hK p q p1 pq q2 w
        · have hne : A k p ≠ A k q := fun e => by rw [e] at hlt'; omega
          -- then A k p = i, A k q = i + 1
          have : A k p = i ∧ A k q = i + 1 := by
            revert hlt'
            unfold sw
            split <;> split <;> (try split) <;> (try split) <;> omega
          rw [this.1, this.2]
          exact h3) (by
        intro x
        rw [mvS_k, mvS_k1]
        show A (k + 1) (sw i (sw i (A k x))) = g x
        rw [sw_sw]
        exact hg x)
      have e : va_up (va_up (mvS A k i) k g) (k + 1) idF = va_up (va_up A k g) (k + 1) idF := by
        refine sq_ext fun f => ?_
        unfold va_up
        by_cases w : f = k + 1
        · rw [if_pos w, if_pos w]
        · rw [if_neg w, if_neg w]
          by_cases w2 : f = k
          · rw [if_pos w2, if_pos w2]
          · rw [if_neg w2, if_neg w2]
            exact mvS_o A w2 w
      rw [e] at ih
      exact (Rch.one hst).trans ih
    · have hid : A (k + 1) = idF := can_id hc (no_desc_id (hc.1 (k + 1)).1 (fun i h1 h2 w => hd ⟨i, h1, h2, w⟩))
      have hgk : A k = g := by
        funext x
        have := hg x
        rw [hid] at this
        exact this
      have e : va_up (va_up A k g) (k + 1) idF = A := by
        rw [up_same hgk, up_same hid]
      rw [e]
      exact Rch.rf
theorem pass_id {s N k : Nat} {A : Sq} (hc : Can s N A) (hk : k + 1 < N) (hid : A k = idF) : Rch s N A (va_up (va_up A k (A (k + 1))) (k + 1) idF) := by
  refine pass_gen hk (mu s A N + 1) A (A (k + 1)) hc (by omega) (fun p q p1 pq q2 hlt => ?_) (fun x => ?_)
  · rw [hid] at hlt
    have : q < p := hlt
    omega
  · rw [hid]
    rfl
theorem bub {s N : Nat} : ∀ (d t : Nat) (B : Sq), Can s N B → t + d < N → (∀ q, t ≤ q → q < t + d → B q = idF) → Rch s N B (va_up (va_up B (t + d) idF) t (B (t + d)))
  | 0, t, B, _, _, _ => by
    rw [Nat.add_zero, up_up, up_same rfl]
    exact Rch.rf
  | d + 1, t, B, hc, hN, hid => by
    have h1 := pass_id (k := t + d) hc (by omega) (hid (t + d) (by omega) (by omega))
    have hc1 := h1.can hc
    have h2 := bub d t (va_up (va_up B (t + d) (B (t + d + 1))) (t + d + 1) idF) hc1 (by omega) (fun q q1 q2 => by
      show (if q = t + d + 1 then _ else if q = t + d then _ else B q) = idF
      rw [if_neg (by omega), if_neg (by omega)]
      exact hid q q1 (by omega))
    refine h1.trans ?_
    have e : va_up (va_up (va_up (va_up B (t + d) (B (t + d + 1))) (t + d + 1) idF) (t + d) idF) t ((va_up (va_up B (t + d) (B (t + d + 1))) (t + d + 1) idF) (t + d)) = va_up (va_up B (t + (d + 1)) idF) t (B (t + (d + 1))) := by
      have e0 : (va_up (va_up B (t + d) (B (t + d + 1))) (t + d + 1) idF) (t + d) = B (t + d + 1) := by
        unfold va_up
        rw [if_neg (by omega), if_pos rfl]
      rw [e0]
      refine sq_ext fun f => ?_
      unfold va_up
      by_cases w : f = t
      · rw [if_pos w, if_pos w]
        rfl
      · rw [if_neg w, if_neg w]
        by_cases w2 : f = t + d
        · rw [if_pos w2, if_neg (by omega)]
          exact (hid f (by omega) (by omega)).symm
        · rw [if_neg w2]
          by_cases w3 : f = t + d + 1
          · rw [if_pos w3, if_pos (by omega)]
          · rw [if_neg w3, if_neg w2, if_neg (by omega)]
    rw [← e]
    exact h2
end
section
/-! the reference: drops -/
theorem va_up_at {α : Type} {f : Nat → α} {k : Nat} {v : α} : va_up f k v k = v := if_pos rfl
theorem va_up_no {α : Type} {f : Nat → α} {k j : Nat} {v : α} (h : j ≠ k) : va_up f k v j = f j := if_neg h
section M15
variable (G : Gx) (h : Nat) (ad : Nat → Nat) (M : Mt) (R : Rt)
theorem c_drops {s N n0 : Nat} {A : Sq} (hN : N ≤ 600) (hn : n0 ≤ N) (hs : s ≤ 7) (hc : Can s N A) (hM : M 19 = nI n0) (hA : SeqOK R n0 s A) (hz : ∀ f, n0 ≤ f → A f = idF) : mV G h ad yX7_drops cX7_drops 5 2 [.int (nI s)] M R (fun M' R' => ∃ n' P A', n' ≤ n0 ∧ M' = va_up M 19 (nI n') ∧ R' = va_up R 18 P ∧ Rch s N A A' ∧ SeqOK R' n' s A' ∧ (∀ f, n' ≤ f → A' f = idF) ∧ ∀ f, f < n' → A' f ≠ idF) := by
  refine mV.intro (by decide) (Nat.le_of_ble_eq_true rfl) (cat1 (xs := [nI s])) fun X C hR => ?_
  have key : ∀ (d f t : Nat) (P : Nat → Int32) (B : Sq) (o4 : Option Value), f + d = n0 → t ≤ f → Rch s N A B → (∀ q, q < t → B q ≠ idF ∧ ∀ x, 1 ≤ x → x ≤ s → P (8 * q + x) = nI (B q x)) → (∀ q, t ≤ q → q < f → B q = idF) → (∀ q, f ≤ q → B q = A q) → (∀ q, f ≤ q → q < n0 → ∀ x, 1 ≤ x → x ≤ s → P (8 * q + x) = nI (A q x)) → V X 0 0 4 [some (.ref h), some (.int (nI s)), some (.int (nI t)), some (.int (nI f)), o4] [] (mW G h ad M (va_up R 18 P)) := by
    intro d
    induction d with
    | zero =>
      intro f t P B o4 hfd htf hr h1 h2 h3 h4
      have hfn : f = n0 := by omega
      subst hfn
      refine r_iload_n C dX7_drops_4 rfl rfl ?_
      refine r_aload_n C dX7_drops_5 rfl rfl ?_
      refine mg_perms C dX7_drops_6 ?_
      show V X 0 0 9 _ [.int (M 19), .int (nI f)] _
      rw [hM]
      refine r_icmp_ge (tgt := 67) C dX7_drops_9 (by decide) (fun c9 => ?_) (fun c9 => absurd c9 ((fun q => q (nI_le (by omega) (by omega)))))
      refine r_aload_n C dX7_drops_67 rfl rfl ?_
      refine r_iload_n C dX7_drops_68 rfl rfl ?_
      refine mp_perms C dX7_drops_69 ?_
      exact hR _ _ _ _ dX7_drops_72 ⟨t, P, B, htf, rfl, rfl, hr, fun q hq x x1 x2 => (h1 q hq).2 x x1 x2, fun q hq => by
        by_cases e : q < f
        · exact h2 q hq e
        · rw [h3 q (by omega)]; exact hz q (by omega), fun q hq => (h1 q hq).1⟩
    | succ d ih =>
      intro f t P B o4 hfd htf hr h1 h2 h3 h4
      have hcB := hr.can hc
      have hF : FacOK (va_up R 18 P) f s (A f) := ⟨h4 f (Nat.le_refl _) (by omega), (hc.1 f).1⟩
      have skipIt : A f = idF → ∀ o4 : Option Value, V X 0 0 61 [some (.ref h), some (.int (nI s)), some (.int (nI t)), some (.int (nI f)), o4] [] (mW G h ad M (va_up R 18 P)) := by
        intro he o4
        refine r_iinc (v := _ + 1) C dX7_drops_61 rfl (by rfl) (by decide) ?_
        rw [nI_1]
        refine r_goto (tgt := 4) C dX7_drops_64 (by decide) ?_
        exact ih (f + 1) t P B _ (by omega) (by omega) hr h1 (fun q q1 q2 => by
          by_cases e : q = f
          · subst e; rw [h3 q (Nat.le_refl _)]; exact he
          · exact h2 q q1 (by omega)) (fun q hq => h3 q (by omega)) (fun q hq => h4 q (by omega))
      have copy : A f ≠ idF → ∀ (n x : Nat) (P' : Nat → Int32), x + n = s + 1 → 1 ≤ x → (∀ q, q < t → ∀ y, 1 ≤ y → y ≤ s → P' (8 * q + y) = nI (B q y)) → (∀ y, 1 ≤ y → y < x → P' (8 * t + y) = nI (A f y)) → (∀ q, f < q → q < n0 → ∀ y, 1 ≤ y → y ≤ s → P' (8 * q + y) = nI (A q y)) → (∀ y, x ≤ y → y ≤ s → P' (8 * f + y) = nI (A f y)) → V X 0 0 27 [some (.ref h), some (.int (nI s)), some (.int (nI t)), some (.int (nI f)), some (.int (nI x))] [] (mW G h ad M (va_up R 18 P')) := by
        intro hne n
        induction n with
        | zero =>
          intro x P' hxn hx1 q1 q2 q3 q4
          have hbub := bub (f - t) t B hcB (by omega) (fun q w1 w2 => h2 q w1 (by omega))
          rw [show t + (f - t) = f by omega, h3 f (Nat.le_refl _)] at hbub
          refine r_iload C dX7_drops_27 rfl ?_
          refine r_iload_n C dX7_drops_29 rfl rfl ?_
          refine r_icmp_gt (tgt := 58) C dX7_drops_30 (by decide) (fun c30 => ?_) (fun c30 => absurd c30 ((fun q => q (nI_lt (by omega) (by omega)))))
          refine r_iinc (v := _ + 1) C dX7_drops_58 rfl (by rfl) (by decide) ?_
          rw [nI_1]
          refine r_iinc (v := _ + 1) C dX7_drops_61 rfl (by rfl) (by decide) ?_
          rw [nI_1]
          refine r_goto (tgt := 4) C dX7_drops_64 (by decide) ?_
          exact ih (f + 1) (t + 1) P' (va_up (va_up B f idF) t (A f)) _ (by omega) (by omega) (hr.trans hbub) (fun q hq => by
            by_cases e : q = t
            · subst e
              rw [va_up_at]
              exact ⟨hne, fun y y1 y2 => q2 y y1 (by omega)⟩
            · rw [va_up_no e, va_up_no (by omega)]
              exact ⟨(h1 q (by omega)).1, q1 q (by omega)⟩) (fun q w1 w2 => by
            rw [va_up_no (by omega)]
            by_cases e : q = f
            · subst e; exact va_up_at
            · rw [va_up_no e]; exact h2 q (by omega) (by omega)) (fun q hq => by rw [va_up_no (by omega), va_up_no (by omega)]; exact h3 q (by omega)) (fun q hq => q3 q (by omega))
        | succ n ih2 =>
          intro x P' hxn hx1 q1 q2 q3 q4
          refine r_iload C dX7_drops_27 rfl ?_
          refine r_iload_n C dX7_drops_29 rfl rfl ?_
          refine r_icmp_gt (tgt := 58) C dX7_drops_30 (by decide) (fun c30 => absurd c30 ((nI_nlt (by omega) (by omega)))) (fun c30 => ?_)
          refine r_aload_n C dX7_drops_33 rfl rfl ?_
          refine mg_perm C dX7_drops_34 ?_
          refine r_bipush (v := 8) C dX7_drops_37 (by decide) ?_
          refine r_iload_n C dX7_drops_39 rfl rfl ?_
          refine r_imul C dX7_drops_40 ?_
          refine r_iload C dX7_drops_41 rfl ?_
          refine r_iadd C dX7_drops_43 ?_
          refine r_aload_n C dX7_drops_44 rfl rfl ?_
          refine r_iload_n C dX7_drops_45 rfl rfl ?_
          refine r_iload C dX7_drops_46 rfl ?_
          refine m_calli C (c_get G h ad M (va_up R 18 P') f x (by omega) (by omega)) kM_get dX7_drops_48 rfl (by decide) (by decide) (by decide) (Nat.le_of_ble_eq_true rfl) rfl rfl (fun r M1 R1 hq => ?_)
          obtain ⟨rfl, rfl, rfl⟩ := hq
          rw [show va_up R 18 P' 18 (8 * f + x) = nI (A f x) from q4 x (Nat.le_refl _) (by omega)]
          show V X 0 0 51 _ [.int (nI (A f x)), .int (nI 8 * nI t + nI x), .ref (ad 18)] _
          rw [pk_mul, nI_add]
          refine ms_perm C dX7_drops_51 (vp_in_nI (show 8 * t + x < 4808 by omega) (by decide)) ?_
          rw [nI_clamp (by omega)]
          show V X 0 0 52 _ _ (mW G h ad _ (va_up (va_up R 18 P') 18 (upd P' (8 * t + x) (nI (A f x)))))
          rw [up_up]
          refine r_iinc (v := _ + 1) C dX7_drops_52 rfl (by rfl) (by decide) ?_
          rw [nI_1]
          refine r_goto (tgt := 27) C dX7_drops_55 (by decide) ?_
          exact ih2 (x + 1) _ (by omega) (by omega) (fun q hq y y1 y2 => by rw [pk_un (by omega)]; exact q1 q hq y y1 y2) (fun y y1 y2 => by
            by_cases e : y = x
            · subst e; exact pk_us
            · rw [pk_un (by omega)]; exact q2 y y1 (by omega)) (fun q w1 w2 y y1 y2 => by rw [pk_un (by omega)]; exact q3 q w1 w2 y y1 y2) (fun y y1 y2 => by rw [pk_un (by omega)]; exact q4 y (by omega) y2)
      refine r_iload_n C dX7_drops_4 rfl rfl ?_
      refine r_aload_n C dX7_drops_5 rfl rfl ?_
      refine mg_perms C dX7_drops_6 ?_
      show V X 0 0 9 _ [.int (M 19), .int (nI f)] _
      rw [hM]
      refine r_icmp_ge (tgt := 67) C dX7_drops_9 (by decide) (fun c9 => absurd c9 ((nI_ge (by omega) (by omega)))) (fun c9 => ?_)
      refine r_aload_n C dX7_drops_12 rfl rfl ?_
      refine r_iload_n C dX7_drops_13 rfl rfl ?_
      refine r_iload_n C dX7_drops_14 rfl rfl ?_
      refine m_calli C (c_isNothing G h ad M (va_up R 18 P) (show f ≤ 600 by omega) hs hF) kM_isNothing dX7_drops_15 rfl (by decide) (by decide) (by decide) (Nat.le_of_ble_eq_true rfl) rfl rfl (fun r M1 R1 hq => ?_)
      obtain ⟨hr2, rfl, rfl⟩ := hq
      refine r_if_eq (tgt := 24) C dX7_drops_18 (by decide) (fun c18 => ?_) (fun c18 => ?_)
      · refine r_iconst (v := 1) C dX7_drops_24 (by decide) ?_
        refine r_istore C dX7_drops_25 (by decide) ?_
        exact copy (fun e => hr2.elim (fun q => absurd (q.1.symm.trans c18) (by decide)) (fun q => q.2 (fun x _ _ => by rw [e]; rfl))) s 1 P (by omega) (Nat.le_refl _) (fun q hq => (h1 q hq).2) (fun y y1 y2 => by omega) (fun q w1 w2 => h4 q (by omega) w2) (fun y y1 y2 => h4 f (Nat.le_refl _) (by omega) y y1 y2)
      · refine r_goto (tgt := 61) C dX7_drops_21 (by decide) ?_
        exact skipIt (can_id hc (hr2.elim (fun q => q.2) (fun q => absurd q.1 c18))) _
  have q0 := key n0 0 0 (R 18) A none (by omega) (Nat.le_refl _) Rch.rf (fun q hq => by omega) (fun q _ hq => by omega) (fun q _ => rfl) (fun q _ hq x x1 x2 => hA q hq x x1 x2)
  rw [up_same rfl] at q0
  refine r_iconst (v := 0) C dX7_drops_0 (by decide) ?_
  refine r_istore_n C dX7_drops_1 rfl (by decide) ?_
  refine r_iconst (v := 0) C dX7_drops_2 (by decide) ?_
  refine r_istore_n C dX7_drops_3 rfl (by decide) ?_
  exact q0
end M15
end
section
/-! the factors that a row begins with; parities -/
theorem par_neg : ∀ n, n < 601 → ((-nI n) - (-nI n) / 2 * 2 = 0 ↔ n % 2 = 0) := by decide +kernel
theorem neg_dec : ∀ n, n < 601 → (-nI n) - 1 = -nI (n + 1) := by decide +kernel
theorem dec2 : ∀ q, q < 601 → nI q + (-1) = nI (q + 1) - 2 := by decide +kernel
theorem dec1 : ∀ q, q < 602 → nI (q + 1) - 1 = nI q := fun q _ => nI_pred q
theorem dec1' : ∀ q, q < 601 → nI q + (-1) = nI q - 1 := by decide +kernel
def revF (s x : Nat) : Nat := if 1 ≤ x ∧ x ≤ s then s + 1 - x else x
def turnF (s : Nat) (F : Nat → Nat) (x : Nat) : Nat := if 1 ≤ x ∧ x ≤ s then s + 1 - F (s + 1 - x) else x
theorem revF_can (s : Nat) : PermOn (revF s) s ∧ ∀ x, (x < 1 ∨ s < x) → revF s x = x := by
  refine ⟨⟨fun p h1 h2 => ?_, fun p q h1 h2 h3 h4 e => ?_⟩, fun x hx => ?_⟩
  · unfold revF; rw [if_pos ⟨h1, h2⟩]; omega
  · unfold revF at e; rw [if_pos ⟨h1, h2⟩, if_pos ⟨h3, h4⟩] at e; omega
  · unfold revF; rw [if_neg (by omega)]
theorem idF_can (s : Nat) : PermOn idF s ∧ ∀ x, (x < 1 ∨ s < x) → idF x = x := ⟨⟨fun _ h1 h2 => ⟨h1, h2⟩, fun _ _ _ _ _ _ e => e⟩, fun _ _ => rfl⟩
theorem turnF_can {s : Nat} {F : Nat → Nat} (h : PermOn F s) : PermOn (turnF s F) s ∧ ∀ x, (x < 1 ∨ s < x) → turnF s F x = x := by
  refine ⟨⟨fun p h1 h2 => ?_, fun p q h1 h2 h3 h4 e => ?_⟩, fun x hx => ?_⟩
  · unfold turnF; rw [if_pos ⟨h1, h2⟩]; have := h.1 (s + 1 - p) (by omega) (by omega); omega
  · unfold turnF at e; rw [if_pos ⟨h1, h2⟩, if_pos ⟨h3, h4⟩] at e
    have a1 := h.1 (s + 1 - p) (by omega) (by omega)
    have a2 := h.1 (s + 1 - q) (by omega) (by omega)
    have := h.2 (s + 1 - p) (s + 1 - q) (by omega) (by omega) (by omega) (by omega) (by omega)
    omega
  · unfold turnF; rw [if_neg (by omega)]
/-- the simple row of one crossing, or D without it at its end -/
def e0F (s : Nat) (c : Int32) : Nat → Nat := mvL (ai c) (if 0 < c then idF else revF s)
theorem e0F_can {s : Nat} {c : Int32} (hc : okC s c) (hs : s ≤ 7) : PermOn (e0F s c) s ∧ ∀ x, (x < 1 ∨ s < x) → e0F s c x = x := by
  have ha := okC_ai hc hs
  unfold e0F
  split
  · exact mvL_can ha.1 ha.2 (idF_can s)
  · exact mvL_can ha.1 ha.2 (revF_can s)
/-- crossings with - among the last d of all -/
def ngd (c : Nat → Int32) (z all : Nat) : Nat → Nat
  | 0 => 0
  | d + 1 => ngd c z all d + if c ((all - 1 - d) % z) < 0 then 1 else 0
theorem ngd_le (c : Nat → Int32) (z all : Nat) : ∀ d, ngd c z all d ≤ d
  | 0 => Nat.le_refl _
  | d + 1 => by
    have := ngd_le c z all d
    unfold ngd
    split <;> omega
/-- the factors that the row, made so many times, begins with -/
def seq0 (c : Nat → Int32) (s z all : Nat) : Sq := fun q => if q < all then (if ngd c z all (all - 1 - q) % 2 = 1 then turnF s (e0F s (c (q % z))) else e0F s (c (q % z))) else idF
theorem seq0_can {c : Nat → Int32} {s z all : Nat} (hs : s ≤ 7) (hz : 0 < z ∨ all = 0) (hok : ∀ i, i < z → okC s (c i)) : Can s all (seq0 c s z all) := by
  refine ⟨fun f => ?_, fun f hf x => ?_⟩
  · unfold seq0
    split
    · next hlt =>
      have hm : f % z < z := Nat.mod_lt _ (by omega)
      have he := e0F_can (hok (f % z) hm) hs
      split
      · exact turnF_can he.1
      · exact he
    · exact idF_can s
  · unfold seq0
    rw [if_neg (by omega)]
    rfl
theorem Rch.more {s n N : Nat} {A B : Sq} (hn : n ≤ N) (h : Rch s n A B) : Rch s N A B := h (fun W => Rch s N A W) Rch.rf (fun _ _ q ⟨k, i, hk, hm, e⟩ => q.step ⟨k, i, by omega, hm, e⟩)
theorem Rch.muL {s N : Nat} {A B : Sq} (hc : Can s N A) (h : Rch s N A B) : mu s B N ≤ mu s A N := by
  have := h (fun W => Can s N W ∧ mu s W N ≤ mu s A N) ⟨hc, Nat.le_refl _⟩ (fun _ _ q w => ⟨w.can q.1, Nat.le_trans (Nat.le_of_lt (w.mu q.1)) q.2⟩)
  exact this.2
theorem Rch.nf {s N : Nat} {A B : Sq} (h : Rch s N A B) (hn : Nf s N A) : B = A := by
  rcases h.head with e | ⟨A1, ⟨k, i, hk, hm, -⟩, -⟩
  · exact e
  · exact absurd hm (hn k i hk)
theorem mu_tail {s : Nat} {A B : Sq} {n : Nat} (h : ∀ f, n ≤ f → A f = B f) (hl : mu s A n < mu s B n) : ∀ d, mu s A (n + d) < mu s B (n + d)
  | 0 => hl
  | d + 1 => by
    have ih := mu_tail h hl d
    show mu s A (n + d) + (s + 1) ^ (n + d) * psi s (A (n + d)) < mu s B (n + d) + (s + 1) ^ (n + d) * psi s (B (n + d))
    rw [h (n + d) (by omega)]
    omega
theorem Can.less {s N n : Nat} {A : Sq} (h : Can s N A) (hz : ∀ f, n ≤ f → A f = idF) : Can s n A := ⟨h.1, fun f hf x => by rw [hz f hf]; rfl⟩
theorem Rch.keepN {s n : Nat} {A B : Sq} (h : Rch s n A B) (hz : ∀ f, n ≤ f → A f = idF) : ∀ f, n ≤ f → B f = idF :=
  h (fun W => ∀ f, n ≤ f → W f = idF) hz (fun U W q ⟨k, i, hk, _, e⟩ f hf => by rw [e, mvS_o U (by omega) (by omega)]; exact q f hf)
end
section
/-! the reference: form -/
/-- what form() leaves: p the first of the normal form that is not D, n how many are not empty -/
def FormOut (c : Nat → Int32) (s z all : Nat) (M M' : Mt) (R R' : Rt) : Prop :=
  ∃ (n first : Nat) (B : Sq) (P Q : Nat → Int32), first ≤ n ∧ n ≤ all ∧ Rch s all (seq0 c s z all) B ∧ Nf s all B ∧ (∀ f, n ≤ f → B f = idF) ∧ (∀ f, f < n → B f ≠ idF) ∧ (∀ f, f < first → B f = revF s) ∧ (first < n → B first ≠ revF s) ∧ M' = va_up (va_up M 20 (-nI (ngd c z all all) + nI first)) 19 (nI (n - first)) ∧ R' = va_up (va_up R 21 Q) 18 P ∧ SeqOK R' (n - first) s (fun f => B (f + first))
theorem up_comm {α : Type} {f : Nat → α} {i j : Nat} {v w : α} (h : i ≠ j) : va_up (va_up f i v) j w = va_up (va_up f j w) i v := by
  funext x
  unfold va_up
  by_cases e1 : x = j
  · rw [if_pos e1, if_neg (by omega), if_pos e1]
  · rw [if_neg e1]
    by_cases e2 : x = i
    · rw [if_pos e2, if_pos e2]
    · rw [if_neg e2, if_neg e2, if_neg e1]
section M16
variable (G : Gx) (h : Nat) (ad : Nat → Nat) (M : Mt) (R : Rt)
theorem c_form {j s z T : Nat} (hj : j < 8) (hp : PatOK R j s z) (hT : T ≤ 12) (hzT : z * T ≤ 600) : mV G h ad yX7_form cX7_form 9 4 [.int (nI j), .int (nI T)] M R (fun M' R' => FormOut (rowOf R j) s z (z * T) M M' R R') := by
  refine mV.intro (by decide) (Nat.le_of_ble_eq_true rfl) (cat1 (xs := [nI j, nI T])) fun X C hR => ?_
  obtain ⟨hs5, hs2, hs7, hz, hz3, hok⟩ := id hp
  obtain ⟨c, hc⟩ : ∃ c, c = rowOf R j := ⟨_, rfl⟩
  obtain ⟨all, hall⟩ : ∃ a, a = z * T := ⟨_, rfl⟩
  rw [← hc] at hok hR
  rw [← hall] at hzT hR
  have hz0 : 0 < z ∨ all = 0 := by
    rcases Nat.eq_zero_or_pos z with q | q
    · right; rw [hall, q, Nat.zero_mul]
    · left; exact q
  have hc0 := seq0_can hs7 hz0 hok
  obtain ⟨pw, hpw⟩ : ∃ p, p = ngd c z all all := ⟨_, rfl⟩
  have hpwl : pw ≤ 600 := by have := ngd_le c z all all; omega
  -- the third part: D's at the front are counted, the rest goes to the front
  have sh : ∀ (n first : Nat) (B : Sq) (Q : Nat → Int32), first ≤ n → n ≤ all → Rch s all (seq0 c s z all) B → Nf s all B → (∀ f, n ≤ f → B f = idF) → (∀ f, f < n → B f ≠ idF) → (∀ f, f < first → B f = revF s) → (first < n → B first ≠ revF s) → ∀ (d f : Nat) (P : Nat → Int32) (o8 : Option Value), f + d = n → first ≤ f → (∀ q, q + first < f → ∀ x, 1 ≤ x → x ≤ s → P (8 * q + x) = nI (B (q + first) x)) → (∀ q, f ≤ q → q < n → ∀ x, 1 ≤ x → x ≤ s → P (8 * q + x) = nI (B q x)) → V X 0 0 269 [some (.ref h), some (.int (nI j)), some (.int (nI T)), some (.int (nI s)), none, none, some (.int (nI first)), some (.int (nI f)), o8] [] (mW G h ad (va_up (va_up M 20 (-nI pw + nI first)) 19 (nI n)) (va_up (va_up R 21 Q) 18 P)) := by
    intro n first B Q hfn hna hr hnf hz1 hz2 hd1 hd2 d
    induction d with
    | zero =>
      intro f P o8 hfd hff hP1 hP2
      have hfe : f = n := by omega
      subst hfe
      refine r_iload C dX7_form_269 rfl ?_
      refine r_aload_n C dX7_form_271 rfl rfl ?_
      refine mg_perms C dX7_form_272 ?_
      show V X 0 0 275 _ [.int (nI f), .int (nI f)] _
      refine r_icmp_ge (tgt := 323) C dX7_form_275 (by decide) (fun c275 => ?_) (fun c275 => absurd c275 ((fun q => q (nI_le (by omega) (by omega)))))
      refine r_aload_n C dX7_form_323 rfl rfl ?_
      refine r_dup C dX7_form_324 rfl ?_
      refine mg_perms C dX7_form_325 ?_
      refine r_iload C dX7_form_328 rfl ?_
      refine r_isub C dX7_form_330 ?_
      show V X 0 0 331 _ [.int (nI f - nI first), .ref h] _
      rw [pk_sub hfn]
      refine mp_perms C dX7_form_331 ?_
      rw [up_up]
      exact hR _ _ _ _ dX7_form_334 ⟨f, first, B, P, Q, hfn, hna, hr, hnf, hz1, hz2, hd1, hd2, by rw [hpw], rfl, fun q hq x x1 x2 => hP1 q (by omega) x x1 x2⟩
    | succ d ih =>
      intro f P o8 hfd hff hP1 hP2
      have inner : ∀ (m x : Nat) (P : Nat → Int32), x + m = s + 1 → 1 ≤ x → (∀ q, q + first < f → ∀ y, 1 ≤ y → y ≤ s → P (8 * q + y) = nI (B (q + first) y)) → (∀ y, 1 ≤ y → y < x → P (8 * (f - first) + y) = nI (B f y)) → (∀ q, f < q → q < n → ∀ y, 1 ≤ y → y ≤ s → P (8 * q + y) = nI (B q y)) → (∀ y, x ≤ y → y ≤ s → P (8 * f + y) = nI (B f y)) → V X 0 0 281 [some (.ref h), some (.int (nI j)), some (.int (nI T)), some (.int (nI s)), none, none, some (.int (nI first)), some (.int (nI f)), some (.int (nI x))] [] (mW G h ad (va_up (va_up M 20 (-nI pw + nI first)) 19 (nI n)) (va_up (va_up R 21 Q) 18 P)) := by
        intro m
        induction m with
        | zero =>
          intro x P hxm hx1 q1 q2 q3 q4
          refine r_iload C dX7_form_281 rfl ?_
          refine r_iload_n C dX7_form_283 rfl rfl ?_
          refine r_icmp_gt (tgt := 317) C dX7_form_284 (by decide) (fun c284 => ?_) (fun c284 => absurd c284 ((fun q => q (nI_lt (by omega) (by omega)))))
          refine r_iinc (v := _ + 1) C dX7_form_317 rfl (by rfl) (by decide) ?_
          rw [nI_1]
          refine r_goto (tgt := 269) C dX7_form_320 (by decide) ?_
          exact ih (f + 1) P _ (by omega) (by omega) (fun q hq y y1 y2 => by
            by_cases e : q = f - first
            · subst e
              rw [show f - first + first = f by omega]
              exact q2 y y1 (by omega)
            · exact q1 q (by omega) y y1 y2) (fun q w1 w2 => q3 q (by omega) w2)
        | succ m ih2 =>
          intro x P hxm hx1 q1 q2 q3 q4
          refine r_iload C dX7_form_281 rfl ?_
          refine r_iload_n C dX7_form_283 rfl rfl ?_
          refine r_icmp_gt (tgt := 317) C dX7_form_284 (by decide) (fun c284 => absurd c284 ((nI_nlt (by omega) (by omega)))) (fun c284 => ?_)
          refine r_aload_n C dX7_form_287 rfl rfl ?_
          refine mg_perm C dX7_form_288 ?_
          refine r_bipush (v := 8) C dX7_form_291 (by decide) ?_
          refine r_iload C dX7_form_293 rfl ?_
          refine r_iload C dX7_form_295 rfl ?_
          refine r_isub C dX7_form_297 ?_
          refine r_imul C dX7_form_298 ?_
          refine r_iload C dX7_form_299 rfl ?_
          refine r_iadd C dX7_form_301 ?_
          refine r_aload_n C dX7_form_302 rfl rfl ?_
          refine r_iload C dX7_form_303 rfl ?_
          refine r_iload C dX7_form_305 rfl ?_
          refine m_calli C (c_get G h ad _ (va_up (va_up R 21 Q) 18 P) f x (by omega) (by omega)) kM_get dX7_form_307 rfl (by decide) (by decide) (by decide) (Nat.le_of_ble_eq_true rfl) rfl rfl (fun r M1 R1 hq => ?_)
          obtain ⟨rfl, rfl, rfl⟩ := hq
          rw [show va_up (va_up R 21 Q) 18 P 18 (8 * f + x) = nI (B f x) from q4 x (Nat.le_refl _) (by omega)]
          show V X 0 0 310 _ [.int (nI (B f x)), .int (nI 8 * (nI f - nI first) + nI x), .ref (ad 18)] _
          rw [pk_sub hff, pk_mul, nI_add]
          refine ms_perm C dX7_form_310 (vp_in_nI (show 8 * (f - first) + x < 4808 by omega) (by decide)) ?_
          rw [nI_clamp (by omega)]
          show V X 0 0 311 _ _ (mW G h ad _ (va_up (va_up (va_up R 21 Q) 18 P) 18 (upd P (8 * (f - first) + x) (nI (B f x)))))
          rw [up_up]
          refine r_iinc (v := _ + 1) C dX7_form_311 rfl (by rfl) (by decide) ?_
          rw [nI_1]
          refine r_goto (tgt := 281) C dX7_form_314 (by decide) ?_
          exact ih2 (x + 1) _ (by omega) (by omega) (fun q hq y y1 y2 => by rw [pk_un (by omega)]; exact q1 q hq y y1 y2) (fun y y1 y2 => by
            by_cases e : y = x
            · subst e; exact pk_us
            · rw [pk_un (by omega)]; exact q2 y y1 (by omega)) (fun q w1 w2 y y1 y2 => by rw [pk_un (by omega)]; exact q3 q w1 w2 y y1 y2) (fun y y1 y2 => by rw [pk_un (by omega)]; exact q4 y (by omega) y2)
      refine r_iload C dX7_form_269 rfl ?_
      refine r_aload_n C dX7_form_271 rfl rfl ?_
      refine mg_perms C dX7_form_272 ?_
      show V X 0 0 275 _ [.int (nI n), .int (nI f)] _
      refine r_icmp_ge (tgt := 323) C dX7_form_275 (by decide) (fun c275 => absurd c275 ((nI_ge (by omega) (by omega)))) (fun c275 => ?_)
      refine r_iconst (v := 1) C dX7_form_278 (by decide) ?_
      refine r_istore C dX7_form_279 (by decide) ?_
      exact inner s 1 P (by omega) (Nat.le_refl _) hP1 (fun y y1 y2 => by omega) (fun q w1 w2 => hP2 q (by omega) w2) (fun y y1 y2 => hP2 f (Nat.le_refl _) (by omega) y y1 y2)
  have ph3 : ∀ (n : Nat) (B : Sq) (Q P : Nat → Int32), n ≤ all → Rch s all (seq0 c s z all) B → Nf s all B → SeqOK (va_up (va_up R 21 Q) 18 P) n s B → (∀ f, n ≤ f → B f = idF) → (∀ f, f < n → B f ≠ idF) → ∀ (d f : Nat), f + d = n → (∀ q, q < f → B q = revF s) → V X 0 0 229 [some (.ref h), some (.int (nI j)), some (.int (nI T)), some (.int (nI s)), none, none, some (.int (nI f)), none, none] [] (mW G h ad (va_up (va_up M 20 (-nI pw)) 19 (nI n)) (va_up (va_up R 21 Q) 18 P)) := by
    intro n B Q P hna hr hnf hB hz1 hz2
    have hcB := hr.can hc0
    have ex : ∀ f, f ≤ n → (∀ q, q < f → B q = revF s) → (f < n → B f ≠ revF s) → V X 0 0 254 [some (.ref h), some (.int (nI j)), some (.int (nI T)), some (.int (nI s)), none, none, some (.int (nI f)), none, none] [] (mW G h ad (va_up (va_up M 20 (-nI pw)) 19 (nI n)) (va_up (va_up R 21 Q) 18 P)) := by
      intro f hfn h1 h2
      refine r_aload_n C dX7_form_254 rfl rfl ?_
      refine r_dup C dX7_form_255 rfl ?_
      refine mg_power C dX7_form_256 ?_
      refine r_iload C dX7_form_259 rfl ?_
      refine r_iadd C dX7_form_261 ?_
      refine mp_power C dX7_form_262 ?_
      show V X 0 0 265 _ _ (mW G h ad (va_up (va_up (va_up M 20 (-nI pw)) 19 (nI n)) 20 (-nI pw + nI f)) _)
      rw [up_comm (show (19 : Nat) ≠ 20 by decide), up_up]
      refine r_iload C dX7_form_265 rfl ?_
      refine r_istore C dX7_form_267 (by decide) ?_
      exact sh n f B Q hfn hna hr hnf hz1 hz2 h1 h2 (n - f) f P _ (by omega) (Nat.le_refl _) (fun q hq => by omega) (fun q w1 w2 x x1 x2 => hB q w2 x x1 x2)
    intro d
    induction d with
    | zero =>
      intro f hfd h1
      have hfe : f = n := by omega
      subst hfe
      refine r_iload C dX7_form_229 rfl ?_
      refine r_aload_n C dX7_form_231 rfl rfl ?_
      refine mg_perms C dX7_form_232 ?_
      show V X 0 0 235 _ [.int (nI f), .int (nI f)] _
      refine r_icmp_ge (tgt := 254) C dX7_form_235 (by decide) (fun c235 => ?_) (fun c235 => absurd c235 ((fun q => q (nI_le (by omega) (by omega)))))
      exact ex f (Nat.le_refl _) h1 (by omega)
    | succ d ih =>
      intro f hfd h1
      have hF : FacOK (va_up (va_up R 21 Q) 18 P) f s (B f) := ⟨hB f (by omega), (hcB.1 f).1⟩
      have hrev : (∀ x, 1 ≤ x → x ≤ s → B f x = s + 1 - x) → B f = revF s := by
        intro w
        funext x
        unfold revF
        by_cases e : 1 ≤ x ∧ x ≤ s
        · rw [if_pos e]; exact w x e.1 e.2
        · rw [if_neg e]; exact (hcB.1 f).2 x (by omega)
      refine r_iload C dX7_form_229 rfl ?_
      refine r_aload_n C dX7_form_231 rfl rfl ?_
      refine mg_perms C dX7_form_232 ?_
      show V X 0 0 235 _ [.int (nI n), .int (nI f)] _
      refine r_icmp_ge (tgt := 254) C dX7_form_235 (by decide) (fun c235 => absurd c235 ((nI_ge (by omega) (by omega)))) (fun c235 => ?_)
      refine r_aload_n C dX7_form_238 rfl rfl ?_
      refine r_iload C dX7_form_239 rfl ?_
      refine r_iload_n C dX7_form_241 rfl rfl ?_
      refine m_calli C (c_isAll G h ad _ _ (show f ≤ 600 by omega) hs7 hF) kM_isAll dX7_form_242 rfl (by decide) (by decide) (by decide) (Nat.le_of_ble_eq_true rfl) rfl rfl (fun r M1 R1 hq => ?_)
      obtain ⟨hr2, rfl, rfl⟩ := hq
      refine r_if_eq (tgt := 254) C dX7_form_245 (by decide) (fun c245 => ?_) (fun c245 => ?_)
      · exact ex f (by omega) h1 (fun _ e => hr2.elim (fun q => absurd (q.1.symm.trans c245) (by decide)) (fun q => q.2 (fun x x1 x2 => by rw [e]; unfold revF; rw [if_pos ⟨x1, x2⟩])))
      · refine r_iinc (v := _ + 1) C dX7_form_248 rfl (by rfl) (by decide) ?_
        rw [nI_1]
        refine r_goto (tgt := 229) C dX7_form_251 (by decide) ?_
        exact ih (f + 1) (by omega) (fun q hq => by
          by_cases e : q = f
          · subst e; exact hrev (hr2.elim (fun w => w.2) (fun w => absurd w.1 c245))
          · exact h1 q (by omega))
  -- the second part: until nothing moves
  have ph2 : ∀ (w : Nat) (n : Nat) (B : Sq) (Q P : Nat → Int32) (o6 : Option Value), mu s B all < w → n ≤ all → Rch s all (seq0 c s z all) B → SeqOK (va_up (va_up R 21 Q) 18 P) n s B → (∀ f, n ≤ f → B f = idF) → V X 0 0 174 [some (.ref h), some (.int (nI j)), some (.int (nI T)), some (.int (nI s)), none, none, o6, none, none] [] (mW G h ad (va_up (va_up M 20 (-nI pw)) 19 (nI n)) (va_up (va_up R 21 Q) 18 P)) := by
    intro w
    induction w with
    | zero => intro n B Q P o6 hw; omega
    | succ w ihw =>
      intro n B Q P o6 hw hna hr hB hz1
      have hcB := hr.can hc0
      have hcn : Can s n B := hcB.less hz1
      -- behind the round of takes: drops, and again or out
      have after : ∀ (B' : Sq) (P : Nat → Int32) (mr : Int32) (o6 : Option Value), Rch s n B B' → SeqOK (va_up (va_up R 21 Q) 18 P) n s B' → ((mr = 1 ∧ mu s B' n < mu s B n) ∨ (mr = 0 ∧ B' = B ∧ ∀ k, k + 1 < n → ∀ i, ¬ MvOK s B k i)) → V X 0 0 218 [some (.ref h), some (.int (nI j)), some (.int (nI T)), some (.int (nI s)), none, some (.int mr), o6, none, none] [] (mW G h ad (va_up (va_up M 20 (-nI pw)) 19 (nI n)) (va_up (va_up R 21 Q) 18 P)) := by
        intro B' P mr o6 hr' hB' hmr
        have hz' := hr'.keepN hz1
        have hcB' := (hr'.more hna).can hcB
        refine r_aload_n C dX7_form_218 rfl rfl ?_
        refine r_iload_n C dX7_form_219 rfl rfl ?_
        refine m_callv C (c_drops G h ad _ _ hzT hna hs7 hcB' rfl hB' hz') kM_drops dX7_form_220 rfl (by decide) (by decide) (by decide) (Nat.le_of_ble_eq_true rfl) rfl rfl (fun M1 R1 hq => ?_)
        obtain ⟨n', P', B2, hn', rfl, rfl, hr2, hB2, hz2, hz3⟩ := hq
        rw [up_up, up_up]
        refine r_goto (tgt := 169) C dX7_form_223 (by decide) ?_
        refine r_iload C dX7_form_169 rfl ?_
        refine r_if_eq (tgt := 226) C dX7_form_171 (by decide) (fun c171 => ?_) (fun c171 => ?_)
        · refine r_iconst (v := 0) C dX7_form_226 (by decide) ?_
          refine r_istore C dX7_form_227 (by decide) ?_
          exact (by
            have e0 : mr = 0 := c171
            obtain ⟨-, eB, hno⟩ : mr = 0 ∧ B' = B ∧ ∀ k, k + 1 < n → ∀ i, ¬ MvOK s B k i := hmr.elim (fun q => absurd (q.1.symm.trans e0) (by decide)) id
            subst eB
            have hnf : Nf s all B' := fun k i hk hm => by
              by_cases e : k + 1 < n
              · exact hno k e i hm
              · have := hm.2.2.1
                rw [hz1 (k + 1) (by omega)] at this
                have : i + 1 < i := this
                omega
            have e2 := hr2.nf hnf
            subst e2
            exact V.keep [true, true, true, true, true, false, true, true, true] (ph3 n' B2 Q P' (by omega) hr hnf (by rw [up_up] at hB2; exact hB2) hz2 hz3 n' 0 (by omega) (fun q hq => by omega)))
        · exact V.keep [true, true, true, true, true, false, true, true, true] (ihw n' B2 Q P' _ (by
            rcases hmr with q | q
            · have q1 := mu_tail (s := s) (A := B') (B := B) (n := n) (fun f hf => by rw [hz' f hf, hz1 f hf]) q.2 (all - n)
              rw [show n + (all - n) = all by omega] at q1
              have q2 := hr2.muL hcB'
              omega
            · exact absurd q.1 c171) (by omega) ((hr.trans (hr'.more hna)).trans hr2) (by rw [up_up] at hB2; exact hB2) hz2)
      have round : ∀ (d m : Nat) (B' : Sq) (P : Nat → Int32) (mr : Int32), m = d → m ≤ n → Rch s n B B' → SeqOK (va_up (va_up R 21 Q) 18 P) n s B' → ((mr = 1 ∧ mu s B' n < mu s B n) ∨ (mr = 0 ∧ B' = B ∧ ∀ k, m ≤ k + 1 → k + 1 < n → ∀ i, ¬ MvOK s B k i)) → V X 0 0 185 [some (.ref h), some (.int (nI j)), some (.int (nI T)), some (.int (nI s)), none, some (.int mr), some (.int (nI m - 2)), none, none] [] (mW G h ad (va_up (va_up M 20 (-nI pw)) 19 (nI n)) (va_up (va_up R 21 Q) 18 P)) := by
        intro d
        induction d with
        | zero =>
          intro m B' P mr hmd hmn hr' hB' hmr
          subst hmd
          refine r_iload C dX7_form_185 rfl ?_
          refine r_if_lt (tgt := 218) C dX7_form_187 (by decide) (fun c187 => ?_) (fun c187 => absurd c187 ((fun q => q (by decide))))
          exact after B' P mr _ hr' hB' (hmr.elim Or.inl (fun q => Or.inr ⟨q.1, q.2.1, fun k hk => q.2.2 k (by omega) hk⟩))
        | succ d ihd =>
          intro m B' P mr hmd hmn hr' hB' hmr
          by_cases hm1 : m = 1
          · subst hm1
            refine r_iload C dX7_form_185 rfl ?_
            refine r_if_lt (tgt := 218) C dX7_form_187 (by decide) (fun c187 => ?_) (fun c187 => absurd c187 ((fun q => q (by decide))))
            exact after B' P mr _ hr' hB' (hmr.elim Or.inl (fun q => Or.inr ⟨q.1, q.2.1, fun k hk => q.2.2 k (by omega) hk⟩))
          · obtain ⟨k, rfl⟩ : ∃ k, m = k + 2 := ⟨m - 2, by omega⟩
            have ek : nI (k + 2) - 2 = nI k := by
              have := pk_sub (a := k + 2) (b := 2) (by omega)
              rw [show k + 2 - 2 = k by omega] at this
              exact this
            have hcB' := hr'.can hcn
            rw [ek]
            refine r_iload C dX7_form_185 rfl ?_
            refine r_if_lt (tgt := 218) C dX7_form_187 (by decide) (fun c187 => absurd c187 ((nI_pos (by omega)))) (fun c187 => ?_)
            refine r_aload_n C dX7_form_190 rfl rfl ?_
            refine r_iload C dX7_form_191 rfl ?_
            refine r_iload_n C dX7_form_193 rfl rfl ?_
            refine m_calli C (c_takes G h ad _ _ (N := n) (A := B') (by omega) (show k + 1 < n by omega) hs7 hcB' hB') kM_takes dX7_form_194 rfl (by decide) (by decide) (by decide) (Nat.le_of_ble_eq_true rfl) rfl rfl (fun r M1 R1 hq => ?_)
            obtain ⟨rfl, P2, B2, rfl, hr2, hB2, hno2, hrr⟩ := hq
            rw [up_up]
            refine r_if_ne (tgt := 205) C dX7_form_197 (by decide) (fun c197 => ?_) (fun c197 => ?_)
            · refine r_iconst (v := 1) C dX7_form_205 (by decide) ?_
              refine r_goto (tgt := 210) C dX7_form_206 (by decide) ?_
              refine r_istore C dX7_form_210 (by decide) ?_
              refine r_iinc (v := _ + (-1)) C dX7_form_212 rfl (by rfl) (by decide) ?_
              rw [dec2 k (by omega)]
              refine r_goto (tgt := 185) C dX7_form_215 (by decide) ?_
              first
                | exact ihd (k + 1) B2 P2 1 (by omega) (by omega) (hr'.trans hr2) (by rw [up_up] at hB2; exact hB2) (Or.inl ⟨rfl, hrr.elim (fun q => absurd q.1 c197) (fun q => hmr.elim (fun q' => Nat.lt_trans q.2 q'.2) (fun q' => by rw [← q'.2.1]; exact q.2))⟩)
                | exact ihd (k + 1) B2 P2 1 (by omega) (by omega) (hr'.trans hr2) (by rw [up_up] at hB2; exact hB2) (Or.inl ⟨rfl, hrr.elim (fun q => by rw [q.2]; exact hmr.elim (fun q' => q'.2) (fun q' => absurd q'.1 c202)) (fun q => absurd (q.1.symm.trans c197) (by decide))⟩)
                | exact ihd (k + 1) B2 P2 0 (by omega) (by omega) (hr'.trans hr2) (by rw [up_up] at hB2; exact hB2) (Or.inr (by
                    have e1 : B2 = B' := hrr.elim (fun q => q.2) (fun q => absurd (q.1.symm.trans c197) (by decide))
                    have e2 := hmr.elim (fun q' => absurd (q'.1.symm.trans c202) (by decide)) id
                    refine ⟨rfl, e1.trans e2.2.1, fun k' w1 w2 => ?_⟩
                    by_cases e : k' = k
                    · subst e; rw [← e2.2.1, ← e1]; exact hno2
                    · exact e2.2.2 k' (by omega) w2))
            · refine r_iload C dX7_form_200 rfl ?_
              refine r_if_eq (tgt := 209) C dX7_form_202 (by decide) (fun c202 => ?_) (fun c202 => ?_)
              · refine r_iconst (v := 0) C dX7_form_209 (by decide) ?_
                refine r_istore C dX7_form_210 (by decide) ?_
                refine r_iinc (v := _ + (-1)) C dX7_form_212 rfl (by rfl) (by decide) ?_
                rw [dec2 k (by omega)]
                refine r_goto (tgt := 185) C dX7_form_215 (by decide) ?_
                first
                  | exact ihd (k + 1) B2 P2 1 (by omega) (by omega) (hr'.trans hr2) (by rw [up_up] at hB2; exact hB2) (Or.inl ⟨rfl, hrr.elim (fun q => absurd q.1 c197) (fun q => hmr.elim (fun q' => Nat.lt_trans q.2 q'.2) (fun q' => by rw [← q'.2.1]; exact q.2))⟩)
                  | exact ihd (k + 1) B2 P2 1 (by omega) (by omega) (hr'.trans hr2) (by rw [up_up] at hB2; exact hB2) (Or.inl ⟨rfl, hrr.elim (fun q => by rw [q.2]; exact hmr.elim (fun q' => q'.2) (fun q' => absurd q'.1 c202)) (fun q => absurd (q.1.symm.trans c197) (by decide))⟩)
                  | exact ihd (k + 1) B2 P2 0 (by omega) (by omega) (hr'.trans hr2) (by rw [up_up] at hB2; exact hB2) (Or.inr (by
                      have e1 : B2 = B' := hrr.elim (fun q => q.2) (fun q => absurd (q.1.symm.trans c197) (by decide))
                      have e2 := hmr.elim (fun q' => absurd (q'.1.symm.trans c202) (by decide)) id
                      refine ⟨rfl, e1.trans e2.2.1, fun k' w1 w2 => ?_⟩
                      by_cases e : k' = k
                      · subst e; rw [← e2.2.1, ← e1]; exact hno2
                      · exact e2.2.2 k' (by omega) w2))
              · refine r_iconst (v := 1) C dX7_form_205 (by decide) ?_
                refine r_goto (tgt := 210) C dX7_form_206 (by decide) ?_
                refine r_istore C dX7_form_210 (by decide) ?_
                refine r_iinc (v := _ + (-1)) C dX7_form_212 rfl (by rfl) (by decide) ?_
                rw [dec2 k (by omega)]
                refine r_goto (tgt := 185) C dX7_form_215 (by decide) ?_
                first
                  | exact ihd (k + 1) B2 P2 1 (by omega) (by omega) (hr'.trans hr2) (by rw [up_up] at hB2; exact hB2) (Or.inl ⟨rfl, hrr.elim (fun q => absurd q.1 c197) (fun q => hmr.elim (fun q' => Nat.lt_trans q.2 q'.2) (fun q' => by rw [← q'.2.1]; exact q.2))⟩)
                  | exact ihd (k + 1) B2 P2 1 (by omega) (by omega) (hr'.trans hr2) (by rw [up_up] at hB2; exact hB2) (Or.inl ⟨rfl, hrr.elim (fun q => by rw [q.2]; exact hmr.elim (fun q' => q'.2) (fun q' => absurd q'.1 c202)) (fun q => absurd (q.1.symm.trans c197) (by decide))⟩)
                  | exact ihd (k + 1) B2 P2 0 (by omega) (by omega) (hr'.trans hr2) (by rw [up_up] at hB2; exact hB2) (Or.inr (by
                      have e1 : B2 = B' := hrr.elim (fun q => q.2) (fun q => absurd (q.1.symm.trans c197) (by decide))
                      have e2 := hmr.elim (fun q' => absurd (q'.1.symm.trans c202) (by decide)) id
                      refine ⟨rfl, e1.trans e2.2.1, fun k' w1 w2 => ?_⟩
                      by_cases e : k' = k
                      · subst e; rw [← e2.2.1, ← e1]; exact hno2
                      · exact e2.2.2 k' (by omega) w2))
      refine r_iconst (v := 0) C dX7_form_174 (by decide) ?_
      refine r_istore C dX7_form_175 (by decide) ?_
      refine r_aload_n C dX7_form_177 rfl rfl ?_
      refine mg_perms C dX7_form_178 ?_
      refine r_iconst (v := 2) C dX7_form_181 (by decide) ?_
      show V X 0 0 182 _ [.int 2, .int (nI n)] _
      refine r_isub C dX7_form_182 ?_
      refine r_istore C dX7_form_183 (by decide) ?_
      exact round n n B P 0 rfl (Nat.le_refl _) Rch.rf hB (Or.inr ⟨rfl, rfl, fun k w1 w2 => by omega⟩)
  have ph1 : ∀ (m : Nat) (Q P : Nat → Int32) (o6 o7 : Option Value), m ≤ all → (∀ f, m ≤ f → f < all → ∀ x, 1 ≤ x → x ≤ s → P (8 * f + x) = nI (seq0 c s z all f x)) → V X 0 0 39 [some (.ref h), some (.int (nI j)), some (.int (nI T)), some (.int (nI s)), some (.int (nI all)), some (.int (nI m - 1)), o6, o7, none] [] (mW G h ad (va_up (va_up M 20 (-nI (ngd c z all (all - m)))) 19 (nI all)) (va_up (va_up R 21 Q) 18 P)) := by
    intro m
    induction m with
    | zero =>
      intro Q P o6 o7 hm hP
      have e : ngd c z all (all - 0) = pw := by rw [hpw, Nat.sub_zero]
      rw [e]
      refine r_iload C dX7_form_39 rfl ?_
      refine r_if_lt (tgt := 166) C dX7_form_41 (by decide) (fun c41 => ?_) (fun c41 => absurd c41 ((fun q => q (by decide))))
      refine r_iconst (v := 1) C dX7_form_166 (by decide) ?_
      refine r_istore C dX7_form_167 (by decide) ?_
      refine r_iload C dX7_form_169 rfl ?_
      refine r_if_eq (tgt := 226) C dX7_form_171 (by decide) (fun c171 => absurd c171 ((by decide))) (fun c171 => ?_)
      exact V.keep [true, true, true, true, false, false, true, false, false] (ph2 (mu s (seq0 c s z all) all + 1) all (seq0 c s z all) Q P _ (by omega) (Nat.le_refl _) Rch.rf (fun f hf x x1 x2 => hP f (by omega) hf x x1 x2) (fun f hf => by unfold seq0; rw [if_neg (by omega)]))
    | succ q ih =>
      intro Q P o6 o7 hm hP
      have hzp : 0 < z := by omega
      have hqz : q % z < z := Nat.mod_lt _ hzp
      obtain ⟨i0, hi1, hi2, hci⟩ := hok (q % z) hqz
      have hokc := hok (q % z) hqz
      have hai : ai (c (q % z)) = i0 := by rcases hci with hci | hci <;> rw [hci] <;> first | exact ai_nI (by omega) | exact ai_neg (by omega)
      obtain ⟨g, hg⟩ : ∃ g, g = ngd c z all (all - (q + 1)) := ⟨_, rfl⟩
      have hgl : g ≤ 600 := by have := ngd_le c z all (all - (q + 1)); omega
      have hgn : ngd c z all (all - q) = g + if c (q % z) < 0 then 1 else 0 := by
        rw [show all - q = (all - (q + 1)) + 1 by omega]
        show ngd c z all (all - (q + 1)) + (if c ((all - 1 - (all - (q + 1))) % z) < 0 then 1 else 0) = _
        rw [show all - 1 - (all - (q + 1)) = q by omega, ← hg]
      have hsq : seq0 c s z all q = if g % 2 = 1 then turnF s (e0F s (c (q % z))) else e0F s (c (q % z)) := by
        unfold seq0
        rw [if_pos (by omega), show all - 1 - q = all - (q + 1) by omega, ← hg]
      have he0 := e0F_can hokc hs7
      rw [← hg, nI_pred]
      obtain ⟨F, hF⟩ : ∃ F, F = (if 0 < c (q % z) then idF else revF s) := ⟨_, rfl⟩
      have hFc : PermOn F s ∧ ∀ x, (x < 1 ∨ s < x) → F x = x := by
        rw [hF]
        split
        · exact idF_can s
        · exact revF_can s
      have he0F : ∀ x, e0F s (c (q % z)) x = sw i0 (F x) := fun x => by unfold e0F; rw [hai, ← hF]; rfl
      have j145 : ∀ (Q P : Nat → Int32) (o7 : Option Value), (∀ f, q ≤ f → f < all → ∀ x, 1 ≤ x → x ≤ s → P (8 * f + x) = nI (seq0 c s z all f x)) → V X 0 0 145 [some (.ref h), some (.int (nI j)), some (.int (nI T)), some (.int (nI s)), some (.int (nI all)), some (.int (nI q)), some (.int (c (q % z))), o7, none] [] (mW G h ad (va_up (va_up M 20 (-nI g)) 19 (nI all)) (va_up (va_up R 21 Q) 18 P)) := by
        intro Q P o7 hP
        have nx := fun o6 o7 => ih Q P o6 o7 (by omega) hP
        rw [hgn] at nx
        refine r_iload C dX7_form_145 rfl ?_
        refine r_if_ge (tgt := 160) C dX7_form_147 (by decide) (fun c147 => ?_) (fun c147 => ?_)
        · refine r_iinc (v := _ + (-1)) C dX7_form_160 rfl (by rfl) (by decide) ?_
          rw [dec1' q (by omega)]
          refine r_goto (tgt := 39) C dX7_form_163 (by decide) ?_
          first
            | (rw [if_neg (Int32.not_lt.mpr c147)] at nx; exact nx _ _)
            | (rw [if_pos (Int32.not_le.mp c147)] at nx; rw [up_comm (show (19 : Nat) ≠ 20 by decide), up_up]; exact nx _ _)
        · refine r_aload_n C dX7_form_150 rfl rfl ?_
          refine r_dup C dX7_form_151 rfl ?_
          refine mg_power C dX7_form_152 ?_
          refine r_iconst (v := 1) C dX7_form_155 (by decide) ?_
          refine r_isub C dX7_form_156 ?_
          show V X 0 0 157 _ [.int (-nI g - 1), .ref h] _
          rw [neg_dec g (by omega)]
          refine mp_power C dX7_form_157 ?_
          refine r_iinc (v := _ + (-1)) C dX7_form_160 rfl (by rfl) (by decide) ?_
          rw [dec1' q (by omega)]
          refine r_goto (tgt := 39) C dX7_form_163 (by decide) ?_
          first
            | (rw [if_neg (Int32.not_lt.mpr c147)] at nx; exact nx _ _)
            | (rw [if_pos (Int32.not_le.mp c147)] at nx; rw [up_comm (show (19 : Nat) ≠ 20 by decide), up_up]; exact nx _ _)
      have j129 : ∀ (P : Nat → Int32) (o7 : Option Value), (∀ f, q < f → f < all → ∀ x, 1 ≤ x → x ≤ s → P (8 * f + x) = nI (seq0 c s z all f x)) → (∀ x, 1 ≤ x → x ≤ s → P (8 * q + x) = nI (e0F s (c (q % z)) x)) → V X 0 0 129 [some (.ref h), some (.int (nI j)), some (.int (nI T)), some (.int (nI s)), some (.int (nI all)), some (.int (nI q)), some (.int (c (q % z))), o7, none] [] (mW G h ad (va_up (va_up M 20 (-nI g)) 19 (nI all)) (va_up (va_up R 21 Q) 18 P)) := by
        intro P o7 h1 h2
        have hFac : FacOK (va_up (va_up R 21 Q) 18 P) q s (e0F s (c (q % z))) := ⟨h2, he0.1⟩
        refine r_aload_n C dX7_form_129 rfl rfl ?_
        refine mg_power C dX7_form_130 ?_
        refine r_iconst (v := 2) C dX7_form_133 (by decide) ?_
        refine r_irem C dX7_form_134 ((by decide)) ?_
        show V X 0 0 135 _ [.int (-nI g - -nI g / 2 * 2)] _
        refine r_if_eq (tgt := 145) C dX7_form_135 (by decide) (fun c135 => ?_) (fun c135 => ?_)
        · first
            | exact j145 B2 P2 _ (fun f f1 f2 x x1 x2 => by
                by_cases e : f = q
                · subst e
                  rw [hP2 x x1 x2, hsq, if_pos (by omega)]
                  show _ = nI (if 1 ≤ x ∧ x ≤ s then _ else _)
                  rw [if_pos ⟨x1, x2⟩]
                · rw [hQ2 _ (by omega)]; exact h1 f (by omega) f2 x x1 x2)
            | exact j145 Q P _ (fun f f1 f2 x x1 x2 => by
                rw [par_neg g (by omega)] at c135
                by_cases e : f = q
                · subst e
                  rw [h2 x x1 x2, hsq, if_neg (by omega)]
                · exact h1 f (by omega) f2 x x1 x2)
        · rw [par_neg g (by omega)] at c135
          refine r_aload_n C dX7_form_138 rfl rfl ?_
          refine r_iload C dX7_form_139 rfl ?_
          refine r_iload_n C dX7_form_141 rfl rfl ?_
          refine m_callv C (c_turns G h ad _ _ (show q ≤ 600 by omega) hs7 hFac) kM_turns dX7_form_142 rfl (by decide) (by decide) (by decide) (Nat.le_of_ble_eq_true rfl) rfl rfl (fun M1 R1 hq => ?_)
          obtain ⟨rfl, B2, P2, rfl, hP2, hQ2⟩ := hq
          rw [up_comm (i := 18) (j := 21) (by decide), up_up (k := 21), up_up (k := 18)]
          first
            | exact j145 B2 P2 _ (fun f f1 f2 x x1 x2 => by
                by_cases e : f = q
                · subst e
                  rw [hP2 x x1 x2, hsq, if_pos (by omega)]
                  show _ = nI (if 1 ≤ x ∧ x ≤ s then _ else _)
                  rw [if_pos ⟨x1, x2⟩]
                · rw [hQ2 _ (by omega)]; exact h1 f (by omega) f2 x x1 x2)
            | exact j145 Q P _ (fun f f1 f2 x x1 x2 => by
                rw [par_neg g (by omega)] at c135
                by_cases e : f = q
                · subst e
                  rw [h2 x x1 x2, hsq, if_neg (by omega)]
                · exact h1 f (by omega) f2 x x1 x2)
      have j126 : ∀ (P : Nat → Int32) (o7 : Option Value), (∀ f, q < f → f < all → ∀ x, 1 ≤ x → x ≤ s → P (8 * f + x) = nI (seq0 c s z all f x)) → (∀ x, 1 ≤ x → x ≤ s → P (8 * q + x) = nI (F x)) → V X 0 0 126 [some (.ref h), some (.int (nI j)), some (.int (nI T)), some (.int (nI s)), some (.int (nI all)), some (.int (nI q)), some (.int (c (q % z))), o7, none] [.int (nI i0), .int (nI q), .ref h] (mW G h ad (va_up (va_up M 20 (-nI g)) 19 (nI all)) (va_up (va_up R 21 Q) 18 P)) := by
        intro P o7 h1 h2
        have hFac : FacOK (va_up (va_up R 21 Q) 18 P) q s F := ⟨h2, hFc.1⟩
        refine m_callv C (c_behind G h ad _ _ (show q ≤ 600 by omega) hs7 hFac hi1 hi2) kM_behind dX7_form_126 rfl (by decide) (by decide) (by decide) (Nat.le_of_ble_eq_true rfl) rfl rfl (fun M1 R1 hq => ?_)
        obtain ⟨rfl, P2, rfl, hP2, hQ2⟩ := hq
        rw [up_up]
        exact j129 P2 _ (fun f f1 f2 x x1 x2 => by rw [hQ2 _ (by omega)]; exact h1 f f1 f2 x x1 x2) (fun x x1 x2 => by rw [hP2 x x1 x2, he0F])
      have lay : ∀ (n x : Nat) (P : Nat → Int32), x + n = s + 1 → 1 ≤ x → (∀ f, q < f → f < all → ∀ x, 1 ≤ x → x ≤ s → P (8 * f + x) = nI (seq0 c s z all f x)) → (∀ y, 1 ≤ y → y < x → P (8 * q + y) = nI (F y)) → V X 0 0 69 [some (.ref h), some (.int (nI j)), some (.int (nI T)), some (.int (nI s)), some (.int (nI all)), some (.int (nI q)), some (.int (c (q % z))), some (.int (nI x)), none] [] (mW G h ad (va_up (va_up M 20 (-nI g)) 19 (nI all)) (va_up (va_up R 21 Q) 18 P)) := by
        intro n
        induction n with
        | zero =>
          intro x P hxn hx1 h1 h2
          have q126 := fun o => j126 P o h1 (fun y y1 y2 => h2 y y1 (by omega))
          refine r_iload C dX7_form_69 rfl ?_
          refine r_iload_n C dX7_form_71 rfl rfl ?_
          refine r_icmp_gt (tgt := 110) C dX7_form_72 (by decide) (fun c72 => ?_) (fun c72 => absurd c72 ((fun q => q (nI_lt (by omega) (by omega)))))
          refine r_aload_n C dX7_form_110 rfl rfl ?_
          refine r_iload C dX7_form_111 rfl ?_
          rcases hci with hci | hci <;> rw [hci] at q126 ⊢
          · refine r_iload C dX7_form_113 rfl ?_
            refine r_if_le (tgt := 123) C dX7_form_115 (by decide) (fun c115 => absurd c115 ((Int32.not_le.mpr (pos_nI hi1 (by omega))))) (fun c115 => ?_)
            refine r_iload C dX7_form_118 rfl ?_
            refine r_goto (tgt := 126) C dX7_form_120 (by decide) ?_
            exact q126 _
          · refine r_iload C dX7_form_113 rfl ?_
            refine r_if_le (tgt := 123) C dX7_form_115 (by decide) (fun c115 => ?_) (fun c115 => absurd c115 ((fun q => q (Int32.le_of_lt (neg_lt0 hi1 (by omega))))))
            refine r_iload C dX7_form_123 rfl ?_
            refine r_ineg C dX7_form_125 ?_
            rw [Int32.neg_neg]
            exact q126 _
        | succ n ih2 =>
          intro x P hxn hx1 h1 h2
          have nx := fun v (hv : v = nI (F x)) => ih2 (x + 1) (upd P (8 * q + x) v) (by omega) (by omega) (fun f f1 f2 y y1 y2 => by rw [pk_un (by omega)]; exact h1 f f1 f2 y y1 y2) (fun y y1 y2 => by
            by_cases e : y = x
            · subst e; rw [pk_us]; exact hv
            · rw [pk_un (by omega)]; exact h2 y y1 (by omega))
          have j103 : ∀ v, v = nI (F x) → V X 0 0 103 [some (.ref h), some (.int (nI j)), some (.int (nI T)), some (.int (nI s)), some (.int (nI all)), some (.int (nI q)), some (.int (c (q % z))), some (.int (nI x)), none] [.int v, .int (nI 8 * nI q + nI x), .ref (ad 18)] (mW G h ad (va_up (va_up M 20 (-nI g)) 19 (nI all)) (va_up (va_up R 21 Q) 18 P)) := by
            intro v hv
            rw [pk_mul, nI_add]
            refine ms_perm C dX7_form_103 (vp_in_nI (show 8 * q + x < 4808 by omega) (by decide)) ?_
            rw [nI_clamp (by omega)]
            show V X 0 0 104 _ _ (mW G h ad _ (va_up (va_up (va_up R 21 Q) 18 P) 18 (upd P (8 * q + x) v)))
            rw [up_up]
            refine r_iinc (v := _ + 1) C dX7_form_104 rfl (by rfl) (by decide) ?_
            rw [nI_1]
            refine r_goto (tgt := 69) C dX7_form_107 (by decide) ?_
            exact nx v hv
          refine r_iload C dX7_form_69 rfl ?_
          refine r_iload_n C dX7_form_71 rfl rfl ?_
          refine r_icmp_gt (tgt := 110) C dX7_form_72 (by decide) (fun c72 => absurd c72 ((nI_nlt (by omega) (by omega)))) (fun c72 => ?_)
          refine r_aload_n C dX7_form_75 rfl rfl ?_
          refine mg_perm C dX7_form_76 ?_
          refine r_bipush (v := 8) C dX7_form_79 (by decide) ?_
          refine r_iload C dX7_form_81 rfl ?_
          refine r_imul C dX7_form_83 ?_
          refine r_iload C dX7_form_84 rfl ?_
          refine r_iadd C dX7_form_86 ?_
          refine r_iload C dX7_form_87 rfl ?_
          refine r_if_le (tgt := 97) C dX7_form_89 (by decide) (fun c89 => ?_) (fun c89 => ?_)
          · refine r_iload_n C dX7_form_97 rfl rfl ?_
            refine r_iconst (v := 1) C dX7_form_98 (by decide) ?_
            refine r_iadd C dX7_form_99 ?_
            refine r_iload C dX7_form_100 rfl ?_
            refine r_isub C dX7_form_102 ?_
            first
              | exact j103 _ (by rw [hF, if_pos (Int32.not_le.mp c89)]; rfl)
              | exact j103 _ (by rw [hF, if_neg (Int32.not_lt.mpr c89), nI_1, pk_sub (by omega)]; unfold revF; rw [if_pos ⟨hx1, by omega⟩])
          · refine r_iload C dX7_form_92 rfl ?_
            refine r_goto (tgt := 103) C dX7_form_94 (by decide) ?_
            first
              | exact j103 _ (by rw [hF, if_pos (Int32.not_le.mp c89)]; rfl)
              | exact j103 _ (by rw [hF, if_neg (Int32.not_lt.mpr c89), nI_1, pk_sub (by omega)]; unfold revF; rw [if_pos ⟨hx1, by omega⟩])
      have hrow : ∀ i, va_up (va_up R 21 Q) 18 P 7 (300 * j + i) = c i := fun i => by rw [hc]; rfl
      refine r_iload C dX7_form_39 rfl ?_
      refine r_if_lt (tgt := 166) C dX7_form_41 (by decide) (fun c41 => absurd c41 ((nI_pos (by omega)))) (fun c41 => ?_)
      refine r_aload_n C dX7_form_44 rfl rfl ?_
      refine mg_rows C dX7_form_45 ?_
      refine r_sipush (v := 300) C dX7_form_48 (by decide) ?_
      refine r_iload_n C dX7_form_51 rfl rfl ?_
      refine r_imul C dX7_form_52 ?_
      refine r_iload C dX7_form_53 rfl ?_
      refine r_aload_n C dX7_form_55 rfl rfl ?_
      refine mg_sizes C dX7_form_56 ?_
      refine r_iload_n C dX7_form_59 rfl rfl ?_
      refine ml_sizes C dX7_form_60 (vp_in_nI hj (by decide)) ?_
      rw [nI_clamp (by omega)]
      show V X 0 0 61 _ [.int (R 6 j), .int (nI q), .int (nI 300 * nI j), .ref (ad 7)] _
      rw [hz, pk_mul]
      refine r_irem C dX7_form_61 (nI_ne0 hzp (by omega)) ?_
      rw [pk_rem (by omega) hzp (by omega)]
      refine r_iadd C dX7_form_62 ?_
      rw [nI_add]
      refine ml_rows C dX7_form_63 (vp_in_nI (show 300 * j + q % z < 2400 by omega) (by decide)) ?_
      rw [nI_clamp (by omega), hrow]
      refine r_istore C dX7_form_64 (by decide) ?_
      refine r_iconst (v := 1) C dX7_form_66 (by decide) ?_
      refine r_istore C dX7_form_67 (by decide) ?_
      exact lay s 1 P (by omega) (Nat.le_refl _) (fun f f1 f2 => hP f (by omega) f2) (fun y y1 y2 => by omega)
  have q0 := ph1 all (R 21) (R 18) none none (Nat.le_refl _) (fun f f1 f2 => by omega)
  rw [show va_up (va_up R 21 (R 21)) 18 (R 18) = R by rw [up_same (f := R) (k := 21) rfl, up_same rfl], Nat.sub_self, show (-nI (ngd c z all 0) : Int32) = 0 from (by show -nI 0 = (0 : Int32); decide)] at q0
  refine r_aload_n C dX7_form_0 rfl rfl ?_
  refine mg_straws C dX7_form_1 ?_
  refine r_iload_n C dX7_form_4 rfl rfl ?_
  refine ml_straws C dX7_form_5 (vp_in_nI hj (by decide)) ?_
  rw [nI_clamp (by omega), hs5]
  refine r_istore_n C dX7_form_6 rfl (by decide) ?_
  refine r_aload_n C dX7_form_7 rfl rfl ?_
  refine r_iconst (v := 0) C dX7_form_8 (by decide) ?_
  refine mp_perms C dX7_form_9 ?_
  refine r_aload_n C dX7_form_12 rfl rfl ?_
  refine r_iconst (v := 0) C dX7_form_13 (by decide) ?_
  refine mp_power C dX7_form_14 ?_
  refine r_aload_n C dX7_form_17 rfl rfl ?_
  refine mg_sizes C dX7_form_18 ?_
  refine r_iload_n C dX7_form_21 rfl rfl ?_
  refine ml_sizes C dX7_form_22 (vp_in_nI hj (by decide)) ?_
  rw [nI_clamp (by omega)]
  show V X 0 0 23 _ [.int (R 6 j)] _
  rw [hz]
  refine r_iload_n C dX7_form_23 rfl rfl ?_
  refine r_imul C dX7_form_24 ?_
  rw [pk_mul, ← hall]
  refine r_istore C dX7_form_25 (by decide) ?_
  refine r_aload_n C dX7_form_27 rfl rfl ?_
  refine r_iload C dX7_form_28 rfl ?_
  refine mp_perms C dX7_form_30 ?_
  refine r_iload C dX7_form_33 rfl ?_
  refine r_iconst (v := 1) C dX7_form_35 (by decide) ?_
  refine r_isub C dX7_form_36 ?_
  refine r_istore C dX7_form_37 (by decide) ?_
  rw [up_comm (i := 19) (j := 20) (by decide), up_up]
  exact q0
end M16
end
section
/-! the reference: factor, untwined, about -/
/-- what stays of the rows and of the numbers where only scratch is written -/
def SamP (R R' : Rt) : Prop := ∀ i, (i = 1 ∨ i = 5 ∨ i = 6 ∨ i = 7 ∨ (31 ≤ i ∧ i ≤ 42)) → R' i = R i
def SamM (M M' : Mt) : Prop := ∀ i, (i = 2 ∨ i = 3 ∨ i = 4 ∨ (28 ≤ i ∧ i ≤ 30)) → M' i = M i
theorem SamP.rf {R : Rt} : SamP R R := fun _ _ => rfl
theorem SamM.rf {M : Mt} : SamM M M := fun _ _ => rfl
theorem SamP.tr {R R' R2 : Rt} (h : SamP R R') (h2 : SamP R' R2) : SamP R R2 := fun i hi => (h2 i hi).trans (h i hi)
theorem SamM.tr {R R' R2 : Mt} (h : SamM R R') (h2 : SamM R' R2) : SamM R R2 := fun i hi => (h2 i hi).trans (h i hi)
theorem SamP.up {R R' : Rt} {k : Nat} {P : Nat → Int32} (h : SamP R R') (hk : ¬ (k = 1 ∨ k = 5 ∨ k = 6 ∨ k = 7 ∨ (31 ≤ k ∧ k ≤ 42))) : SamP R (va_up R' k P) := fun i hi => by
  rw [va_up_no (show i ≠ k from fun e => hk (by subst e; exact hi))]
  exact h i hi
theorem SamM.up {R R' : Mt} {k : Nat} {v : Int32} (h : SamM R R') (hk : ¬ (k = 2 ∨ k = 3 ∨ k = 4 ∨ (28 ≤ k ∧ k ≤ 30))) : SamM R (va_up R' k v) := fun i hi => by
  rw [va_up_no (show i ≠ k from fun e => hk (by subst e; exact hi))]
  exact h i hi
theorem SamP.pat {R R' : Rt} (h : SamP R R') {j s z : Nat} (hp : PatOK R j s z) : PatOK R' j s z := by
  unfold PatOK rowOf at *
  rw [h 5 (by omega), h 6 (by omega), h 7 (by omega)]
  exact hp
theorem SamP.row {R R' : Rt} (h : SamP R R') {j : Nat} : rowOf R' j = rowOf R j := by
  unfold rowOf
  rw [h 7 (by omega)]
theorem SamP.isP {R R' : Rt} (h : SamP R R') {k : Int32} : isPat R' k ↔ isPat R k := by
  unfold isPat
  rw [h 5 (by omega)]
theorem SamP.pats {R R' : Rt} (h : SamP R R') (hp : PatsOK R) : PatsOK R' := fun j hj h0 => by
  rw [h 5 (by omega)] at h0
  obtain ⟨s, z, q⟩ := hp j hj h0
  exact ⟨s, z, h.pat q⟩
/-- the form of a row made so many times: n factors that are not empty, the first of them D -/
def NFof (c : Nat → Int32) (s z all n first : Nat) (B : Sq) : Prop := first ≤ n ∧ n ≤ all ∧ Rch s all (seq0 c s z all) B ∧ Nf s all B ∧ (∀ f, n ≤ f → B f = idF) ∧ (∀ f, f < n → B f ≠ idF) ∧ (∀ f, f < first → B f = revF s) ∧ (first < n → B first ≠ revF s)
theorem NFof.one {c : Nat → Int32} {s z all n first n' first' : Nat} {B B' : Sq} (hs : s ≤ 7) (hz : 0 < z ∨ all = 0) (hok : ∀ i, i < z → okC s (c i)) (h : NFof c s z all n first B) (h' : NFof c s z all n' first' B') : B = B' ∧ n = n' ∧ first = first' := by
  obtain ⟨a1, a2, a3, a4, a5, a6, a7, a8⟩ := h
  obtain ⟨b1, b2, b3, b4, b5, b6, b7, b8⟩ := h'
  have e := nf_one (mu s (seq0 c s z all) all + 1) _ B B' (seq0_can hs hz hok) (by omega) a3 b3 a4 b4
  subst e
  have en : n = n' := by
    rcases Nat.lt_trichotomy n n' with w | w | w
    · exact absurd (a5 n (Nat.le_refl _)) (b6 n w)
    · exact w
    · exact absurd (b5 n' (Nat.le_refl _)) (a6 n' w)
  subst en
  refine ⟨rfl, rfl, ?_⟩
  rcases Nat.lt_trichotomy first first' with w | w | w
  · exact absurd (b7 first w) (a8 (by omega))
  · exact w
  · exact absurd (a7 first' w) (b8 (by omega))
theorem FormOut.get {c : Nat → Int32} {s z all : Nat} {M M' : Mt} {R R' : Rt} (h : FormOut c s z all M M' R R') : ∃ n first B, NFof c s z all n first B ∧ M' 19 = nI (n - first) ∧ M' 20 = -nI (ngd c z all all) + nI first ∧ M' 0 = M 0 ∧ SamM M M' ∧ SamP R R' ∧ SeqOK R' (n - first) s (fun f => B (f + first)) ∧ R' 22 = R 22 := by
  obtain ⟨n, first, B, P, Q, a1, a2, a3, a4, a5, a6, a7, a8, rfl, rfl, a9⟩ := h
  exact ⟨n, first, B, ⟨a1, a2, a3, a4, a5, a6, a7, a8⟩, rfl, rfl, rfl, (SamM.rf.up (by omega)).up (by omega), (SamP.rf.up (by omega)).up (by omega), a9, rfl⟩
section M17
variable (G : Gx) (h : Nat) (ad : Nat → Nat) (M : Mt) (R : Rt)
theorem c_factor (kk jj : Int32) (hP : PatsOK R) : mI G h ad yX7_factor cX7_factor 3 .int 5 [.int kk, .int jj] M R (fun r M' R' => SamM M M' ∧ SamP R R' ∧ ((∃ j s z n first B i, j < 8 ∧ kk = nI j ∧ PatOK R j s z ∧ NFof (rowOf R j) s z z n first B ∧ jj = nI i ∧ i < n - first ∧ r = codeF (B (i + first)) s ∧ M' 0 = 0) ∨ ((¬ isPat R kk ∨ ∃ j s z n first B, j < 8 ∧ kk = nI j ∧ PatOK R j s z ∧ NFof (rowOf R j) s z z n first B ∧ ∀ i, i < n - first → jj ≠ nI i) ∧ r = 0 ∧ M' 0 = 1))) := by
  refine mI.intro (by decide) (Nat.le_of_ble_eq_true rfl) (cat1 (xs := [kk, jj])) fun X C hR => ?_
  refine r_aload_n C dX7_factor_0 rfl rfl ?_
  refine r_iload_n C dX7_factor_1 rfl rfl ?_
  refine m_calli C (c_isPattern G h ad M R kk) kM_isPattern dX7_factor_2 rfl (by decide) (by decide) (by decide) (by decide) rfl rfl (fun r M1 R1 hq => ?_)
  obtain ⟨rfl, ⟨hpat, rfl, rfl⟩ | ⟨hpat, rfl, rfl⟩⟩ := hq
  rotate_left
  · refine r_if_ne (tgt := 10) C dX7_factor_5 (by decide) (fun c5 => absurd c5 ((fun q => q rfl))) (fun c5 => ?_)
    refine r_iconst (v := 0) C dX7_factor_8 (by decide) ?_
    exact hR _ _ _ _ _ rfl dX7_factor_9 ⟨SamM.rf.up (by omega), SamP.rf, Or.inr ⟨Or.inl hpat, rfl, rfl⟩⟩
  obtain ⟨j, s, z, hj, rfl, hp⟩ := isPat_at hpat hP
  obtain ⟨hs5, hs2, hs7, hz, hz3, hok⟩ := id hp
  refine r_if_ne (tgt := 10) C dX7_factor_5 (by decide) (fun c5 => ?_) (fun c5 => absurd c5 ((by decide)))
  refine r_aload_n C dX7_factor_10 rfl rfl ?_
  refine r_iload_n C dX7_factor_11 rfl rfl ?_
  refine r_iconst (v := 1) C dX7_factor_12 (by decide) ?_
  refine m_callv C (c_form G h ad (va_up M 0 0) R1 (T := 1) hj hp (by decide) (by omega)) kM_form dX7_factor_13 rfl (by decide) (by decide) (by decide) (by decide) rfl rfl (fun M2 R2 hq => ?_)
  rw [Nat.mul_one] at hq
  obtain ⟨n, first, B, hnf, hM19, hM20, hM0, hSM, hSP, hSeq, -⟩ := hq.get
  skip
  have hl : n - first ≤ 600 := by have := hnf.2.1; omega
  have hS1 : SamM M M2 := (SamM.rf.up (by omega)).tr hSM
  have j33 : (∀ i, i < n - first → jj ≠ nI i) → V X 0 0 33 (ent [.ref h, .int (nI j), .int jj] 3) [.ref h] (mW G h ad M2 R2) := by
    intro hno
    refine r_iconst (v := 0) C dX7_factor_33 (by decide) ?_
    refine r_iconst (v := 1) C dX7_factor_34 (by decide) ?_
    refine m_calli C (c_right0 G h ad _ _ 1 (by decide) hM0) kM_right dX7_factor_35 rfl (by decide) (by decide) (by decide) (by decide) rfl rfl (fun r M3 R3 hq => ?_)
    obtain ⟨rfl, rfl, rfl⟩ := hq
    refine r_if_eq (tgt := 55) C dX7_factor_38 (by decide) (fun c38 => ?_) (fun c38 => absurd c38 ((fun q => q rfl)))
    refine r_iconst (v := 0) C dX7_factor_55 (by decide) ?_
    exact hR _ _ _ _ _ rfl dX7_factor_56 ⟨hS1.up (by omega), hSP, Or.inr ⟨Or.inr ⟨j, s, z, n, first, B, hj, rfl, hp, hnf, hno⟩, rfl, rfl⟩⟩
  have hcB := hnf.2.2.1.can (seq0_can hs7 (by omega) hok)
  refine r_aload_n C dX7_factor_16 rfl rfl ?_
  refine r_iload_n C dX7_factor_17 rfl rfl ?_
  refine r_if_lt (tgt := 33) C dX7_factor_18 (by decide) (fun c18 => ?_) (fun c18 => ?_)
  · exact j33 (fun i hi e => by subst e; first | exact absurd c18 (nI_pos (by omega)) | (rw [nI_leI (by omega) (by omega)] at c26; omega))
  · refine r_iload_n C dX7_factor_21 rfl rfl ?_
    refine r_aload_n C dX7_factor_22 rfl rfl ?_
    refine mg_perms C dX7_factor_23 ?_
    rw [hM19]
    refine r_icmp_ge (tgt := 33) C dX7_factor_26 (by decide) (fun c26 => ?_) (fun c26 => ?_)
    · exact j33 (fun i hi e => by subst e; first | exact absurd c18 (nI_pos (by omega)) | (rw [nI_leI (by omega) (by omega)] at c26; omega))
    · obtain ⟨i, hi31, rfl⟩ := nI_of c18
      rw [nI_leI (by omega) (by omega)] at c26
      refine r_iconst (v := 1) C dX7_factor_29 (by decide) ?_
      refine r_goto (tgt := 34) C dX7_factor_30 (by decide) ?_
      refine r_iconst (v := 1) C dX7_factor_34 (by decide) ?_
      refine m_calli C (c_right1 G h ad _ _ 1 hM0) kM_right dX7_factor_35 rfl (by decide) (by decide) (by decide) (by decide) rfl rfl (fun r M3 R3 hq => ?_)
      obtain ⟨rfl, rfl, rfl⟩ := hq
      refine r_if_eq (tgt := 55) C dX7_factor_38 (by decide) (fun c38 => absurd c38 ((by decide))) (fun c38 => ?_)
      refine r_aload_n C dX7_factor_41 rfl rfl ?_
      refine r_iload_n C dX7_factor_42 rfl rfl ?_
      refine r_aload_n C dX7_factor_43 rfl rfl ?_
      refine mg_straws C dX7_factor_44 ?_
      refine r_iload_n C dX7_factor_47 rfl rfl ?_
      refine ml_straws C dX7_factor_48 (vp_in_nI hj (by decide)) ?_
      rw [nI_clamp (by omega), hSP 5 (by omega), hs5]
      refine m_calli C (c_coded G h ad _ _ (f := i) (s := s) (F := B (i + first)) (by omega) hs7 ⟨hSeq i (by omega), (hcB.1 _).1⟩) kM_coded dX7_factor_49 rfl (by decide) (by decide) (by decide) (by decide) rfl rfl (fun r M4 R4 hq => ?_)
      obtain ⟨rfl, rfl, rfl⟩ := hq
      refine r_goto (tgt := 56) C dX7_factor_52 (by decide) ?_
      exact hR _ _ _ _ _ rfl dX7_factor_56 ⟨hS1, hSP, Or.inl ⟨j, s, z, n, first, B, i, hj, rfl, hp, hnf, rfl, by omega, rfl, hM0⟩⟩
/-- m times make an even power of D -/
def evenAt (c : Nat → Int32) (s z m : Nat) : Prop := ∃ n B, NFof c s z (z * m) n n B ∧ (ngd c z (z * m) (z * m) + n) % 2 = 0
end M17
end
section
/-! the reference: untwined, about -/
theorem mix_ge {g f : Nat} (h : g ≤ f) : -nI g + nI f = nI (f - g) := by
  rw [Int32.add_comm, ← Int32.sub_eq_add_neg]
  exact pk_sub h
theorem mix_lt {g f : Nat} (h : f ≤ g) : -nI g + nI f = -nI (g - f) := by
  rw [← pk_sub h, Int32.neg_sub, Int32.add_comm, ← Int32.sub_eq_add_neg]
theorem mix_par {g f : Nat} (hg : g ≤ 600) (hf : f ≤ 600) : ((-nI g + nI f) - (-nI g + nI f) / 2 * 2 = 0 ↔ (g + f) % 2 = 0) := by
  rcases Nat.le_total g f with w | w
  · rw [mix_ge w]
    have e := pk_rem (a := f - g) (d := 2) (by omega) (by decide) (by decide)
    rw [show nI (f - g) - nI (f - g) / 2 * 2 = nI ((f - g) % 2) from e]
    have := nI_eq (a := (f - g) % 2) (b := 0) (by omega) (by decide)
    rw [show (0 : Int32) = nI 0 from rfl, this]
    omega
  · rw [mix_lt w, par_neg (g - f) (by omega)]
    omega
section M18
variable (G : Gx) (h : Nat) (ad : Nat → Nat) (M : Mt) (R : Rt)
theorem c_untwined (kk : Int32) (hP : PatsOK R) : mI G h ad yX7_untwined cX7_untwined 3 .int 5 [.int kk] M R (fun r M' R' => SamM M M' ∧ SamP R R' ∧ ((∃ j s z m, j < 8 ∧ kk = nI j ∧ PatOK R j s z ∧ 1 ≤ m ∧ m ≤ 12 ∧ m * z ≤ 600 ∧ evenAt (rowOf R j) s z m ∧ (∀ m', 1 ≤ m' → m' < m → ¬ evenAt (rowOf R j) s z m') ∧ r = nI m ∧ M' 0 = 0) ∨ (∃ j s z, j < 8 ∧ kk = nI j ∧ PatOK R j s z ∧ (∀ m, 1 ≤ m → m ≤ 12 → m * z ≤ 600 → ¬ evenAt (rowOf R j) s z m) ∧ r = -1 ∧ M' 0 = 0) ∨ (¬ isPat R kk ∧ r = 0 ∧ M' 0 = 1))) := by
  refine mI.intro (by decide) (Nat.le_of_ble_eq_true rfl) (cat1 (xs := [kk])) fun X C hR => ?_
  refine r_aload_n C dX7_untwined_0 rfl rfl ?_
  refine r_iload_n C dX7_untwined_1 rfl rfl ?_
  refine m_calli C (c_isPattern G h ad M R kk) kM_isPattern dX7_untwined_2 rfl (by decide) (by decide) (by decide) (by decide) rfl rfl (fun r M1 R1 hq => ?_)
  obtain ⟨rfl, ⟨hpat, rfl, rfl⟩ | ⟨hpat, rfl, rfl⟩⟩ := hq
  rotate_left
  · refine r_if_ne (tgt := 10) C dX7_untwined_5 (by decide) (fun c5 => absurd c5 ((fun q => q rfl))) (fun c5 => ?_)
    refine r_iconst (v := 0) C dX7_untwined_8 (by decide) ?_
    exact hR _ _ _ _ _ rfl dX7_untwined_9 ⟨SamM.rf.up (by omega), SamP.rf, Or.inr (Or.inr ⟨hpat, rfl, rfl⟩)⟩
  obtain ⟨j, s, z, hj, rfl, hp⟩ := isPat_at hpat hP
  obtain ⟨hs5, hs2, hs7, hz, hz3, hok⟩ := id hp
  have stop : ∀ (M1 : Mt) (R2 : Rt) (o2 : Option Value), SamM M M1 → SamP R1 R2 → M1 0 = 0 → (∀ m, 1 ≤ m → m ≤ 12 → m * z ≤ 600 → ¬ evenAt (rowOf R1 j) s z m) → V X 0 0 62 [some (.ref h), some (.int (nI j)), o2] [] (mW G h ad M1 R2) := by
    intro M1 R2 o2 h1 h2 h3 h4
    refine r_iconst (v := -1) C dX7_untwined_62 (by decide) ?_
    exact hR _ _ _ _ _ rfl dX7_untwined_63 ⟨h1, h2, Or.inr (Or.inl ⟨j, s, z, hj, rfl, hp, h4, rfl, h3⟩)⟩
  have key : ∀ (f m : Nat) (M1 : Mt) (R2 : Rt), m + f = 13 → 1 ≤ m → SamM M M1 → SamP R1 R2 → M1 0 = 0 → (∀ m', 1 ≤ m' → m' < m → ¬ evenAt (rowOf R1 j) s z m') → V X 0 0 12 [some (.ref h), some (.int (nI j)), some (.int (nI m))] [] (mW G h ad M1 R2) := by
    intro f
    induction f with
    | zero =>
      intro m M1 R2 hm hm1 h1 h2 h3 h4
      have hm13 : m = 13 := by omega
      subst hm13
      refine r_iload_n C dX7_untwined_12 rfl rfl ?_
      refine r_bipush (v := 12) C dX7_untwined_13 (by decide) ?_
      refine r_icmp_gt (tgt := 62) C dX7_untwined_15 (by decide) (fun c15 => ?_) (fun c15 => absurd c15 ((fun q => q (by decide))))
      exact stop M1 R2 _ h1 h2 h3 (fun m w1 w2 _ => h4 m w1 (by omega))
    | succ f ih =>
      intro m M1 R2 hm hm1 h1 h2 h3 h4
      have hmz : m * z ≤ 12 * 300 := Nat.mul_le_mul (by omega) hz3
      have c600 : (600 : Int32) = nI 600 := rfl
      have j38 : m * z ≤ 600 → ∀ (M2 : Mt) (R3 : Rt), FormOut (rowOf R1 j) s z (z * m) M1 M2 R2 R3 → V X 0 0 38 [some (.ref h), some (.int (nI j)), some (.int (nI m))] [] (mW G h ad M2 R3) := by
        intro c29 M2 R3 hq
        obtain ⟨n, first, B, hnf, hM19, hM20, hM0, hSM, hSP, hSeq, -⟩ := hq.get
        have hzm : z * m ≤ 600 := by rw [Nat.mul_comm]; omega
        have hgl := ngd_le (rowOf R1 j) z (z * m) (z * m)
        have hev : evenAt (rowOf R1 j) s z m ↔ n = first ∧ (ngd (rowOf R1 j) z (z * m) (z * m) + first) % 2 = 0 := by
          constructor
          · rintro ⟨n2, B2, w1, w2⟩
            obtain ⟨-, e1, e2⟩ := NFof.one hs7 (by rcases Nat.eq_zero_or_pos z with q | q; right; rw [q, Nat.zero_mul]; left; exact q) hok hnf w1
            subst e1; subst e2
            exact ⟨rfl, w2⟩
          · rintro ⟨e, w⟩
            subst e
            exact ⟨n, B, hnf, w⟩
        have hfn := hnf.1
        have hna := hnf.2.1
        have nx : ¬ evenAt (rowOf R1 j) s z m → V X 0 0 56 [some (.ref h), some (.int (nI j)), some (.int (nI m))] [] (mW G h ad M2 R3) := by
          intro hno
          refine r_iinc (v := _ + 1) C dX7_untwined_56 rfl (by rfl) (by decide) ?_
          rw [nI_1]
          refine r_goto (tgt := 12) C dX7_untwined_59 (by decide) ?_
          exact ih (m + 1) M2 R3 (by omega) (by omega) (h1.tr hSM) (h2.tr hSP) (hM0.trans h3) (fun m' w1 w2 => by
            by_cases e : m' = m
            · subst e; exact hno
            · exact h4 m' w1 (by omega))
        refine r_aload_n C dX7_untwined_38 rfl rfl ?_
        refine mg_perms C dX7_untwined_39 ?_
        rw [hM19]
        refine r_if_ne (tgt := 56) C dX7_untwined_42 (by decide) (fun c42 => ?_) (fun c42 => ?_)
        · first
            | exact nx (fun w => c51 ((mix_par (by omega) (by omega)).mpr (hev.mp w).2))
            | exact nx (fun w => c42 (by rw [(hev.mp w).1, Nat.sub_self]; rfl))
        · have e0 : n - first = 0 := (nI_eq (b := 0) (by omega) (by decide)).mp c42
          refine r_aload_n C dX7_untwined_45 rfl rfl ?_
          refine mg_power C dX7_untwined_46 ?_
          rw [hM20]
          refine r_iconst (v := 2) C dX7_untwined_49 (by decide) ?_
          refine r_irem C dX7_untwined_50 ((by decide)) ?_
          show V X 0 0 51 _ [.int ((-nI (ngd (rowOf R1 j) z (z * m) (z * m)) + nI first) - (-nI (ngd (rowOf R1 j) z (z * m) (z * m)) + nI first) / 2 * 2)] _
          refine r_if_ne (tgt := 56) C dX7_untwined_51 (by decide) (fun c51 => ?_) (fun c51 => ?_)
          · first
              | exact nx (fun w => c51 ((mix_par (by omega) (by omega)).mpr (hev.mp w).2))
              | exact nx (fun w => c42 (by rw [(hev.mp w).1, Nat.sub_self]; rfl))
          · refine r_iload_n C dX7_untwined_54 rfl rfl ?_
            exact hR _ _ _ _ _ rfl dX7_untwined_55 ⟨h1.tr hSM, h2.tr hSP, Or.inl ⟨j, s, z, m, hj, rfl, hp, hm1, by omega, by omega, hev.mpr ⟨by omega, (mix_par (by omega) (by omega)).mp c51⟩, h4, rfl, hM0.trans h3⟩⟩
      refine r_iload_n C dX7_untwined_12 rfl rfl ?_
      refine r_bipush (v := 12) C dX7_untwined_13 (by decide) ?_
      refine r_icmp_gt (tgt := 62) C dX7_untwined_15 (by decide) (fun c15 => absurd c15 ((Int32.not_lt.mpr (nI_le (a := m) (b := 12) (by omega) (by decide))))) (fun c15 => ?_)
      refine r_iload_n C dX7_untwined_18 rfl rfl ?_
      refine r_aload_n C dX7_untwined_19 rfl rfl ?_
      refine mg_sizes C dX7_untwined_20 ?_
      refine r_iload_n C dX7_untwined_23 rfl rfl ?_
      refine ml_sizes C dX7_untwined_24 (vp_in_nI hj (by decide)) ?_
      rw [nI_clamp (by omega), h2 6 (by omega), hz]
      refine r_imul C dX7_untwined_25 ?_
      refine r_sipush (v := 600) C dX7_untwined_26 (by decide) ?_
      rw [pk_mul, c600]
      refine r_icmp_gt (tgt := 62) C dX7_untwined_29 (by decide) (fun c29 => ?_) (fun c29 => ?_)
      · exact stop M1 R2 _ h1 h2 h3 (fun m' w1 w2 w3 => by
          rw [nI_ltI (by omega) (by omega)] at c29
          by_cases e : m' < m
          · exact h4 m' w1 e
          · have := Nat.mul_le_mul (show m ≤ m' by omega) (Nat.le_refl z)
            omega)
      · rw [nI_ltI (by omega) (by omega)] at c29
        refine r_aload_n C dX7_untwined_32 rfl rfl ?_
        refine r_iload_n C dX7_untwined_33 rfl rfl ?_
        refine r_iload_n C dX7_untwined_34 rfl rfl ?_
        refine m_callv C (c_form G h ad M1 R2 (T := m) hj (h2.pat hp) (by omega) (by rw [Nat.mul_comm]; omega)) kM_form dX7_untwined_35 rfl (by decide) (by decide) (by decide) (by decide) rfl rfl (fun M2 R3 hq => ?_)
        rw [h2.row] at hq
        exact j38 (by omega) M2 R3 hq
  refine r_if_ne (tgt := 10) C dX7_untwined_5 (by decide) (fun c5 => ?_) (fun c5 => absurd c5 ((by decide)))
  refine r_iconst (v := 1) C dX7_untwined_10 (by decide) ?_
  refine r_istore_n C dX7_untwined_11 rfl (by decide) ?_
  exact key 12 1 _ R1 (by omega) (Nat.le_refl _) (SamM.rf.up (by omega)) SamP.rf rfl (fun m' w1 w2 => by omega)
end M18
end
section
/-! the reference: about, alike -/
/-- what about() answers of a pattern -/
def abQ (c : Nat → Int32) (s z : Nat) (w : Nat) (r : Int32) : Prop :=
  (w = 0 ∧ r = nI s) ∨ (w = 1 ∧ ∃ m, isHome (gT c z) s m ∧ m ≤ 420 ∧ r = nI m) ∨ (w = 2 ∧ r = nI (rgN (gT c z) s)) ∨ (w = 3 ∧ ((HoldsP c z s ∧ r = 1) ∨ (¬ HoldsP c z s ∧ r = 0))) ∨ (w = 4 ∧ r = nI (lvMost c z)) ∨ (w = 5 ∧ ∃ n first B, NFof c s z z n first B ∧ r = -nI (ngd c z z z) + nI first) ∨ (w = 6 ∧ ∃ n first B, NFof c s z z n first B ∧ r = nI (n - first))
section M19
variable (G : Gx) (h : Nat) (ad : Nat → Nat) (M : Mt) (R : Rt)
theorem c_about (kk ww : Int32) (hP : PatsOK R) : mI G h ad yX7_about cX7_about 3 .int 5 [.int kk, .int ww] M R (fun r M' R' => SamM M M' ∧ SamP R R' ∧ ((∃ j s z w, j < 8 ∧ kk = nI j ∧ PatOK R j s z ∧ w ≤ 6 ∧ ww = nI w ∧ abQ (rowOf R j) s z w r ∧ M' 0 = 0) ∨ ((¬ isPat R kk ∨ ∀ w, w ≤ 6 → ww ≠ nI w) ∧ r = 0 ∧ M' 0 = 1))) := by
  refine mI.intro (by decide) (Nat.le_of_ble_eq_true rfl) (cat1 (xs := [kk, ww])) fun X C hR => ?_
  refine r_aload_n C dX7_about_0 rfl rfl ?_
  refine r_iload_n C dX7_about_1 rfl rfl ?_
  refine m_calli C (c_isPattern G h ad M R kk) kM_isPattern dX7_about_2 rfl (by decide) (by decide) (by decide) (by decide) rfl rfl (fun r M1 R1 hq => ?_)
  obtain ⟨rfl, ⟨hpat, rfl, rfl⟩ | ⟨hpat, rfl, rfl⟩⟩ := hq
  rotate_left
  · refine r_if_eq (tgt := 31) C dX7_about_5 (by decide) (fun c5 => ?_) (fun c5 => absurd c5 ((fun q => q rfl)))
    refine r_iconst (v := 0) C dX7_about_31 (by decide) ?_
    exact hR _ _ _ _ _ rfl dX7_about_32 ⟨SamM.rf.up (by omega), SamP.rf, Or.inr ⟨Or.inl hpat, rfl, rfl⟩⟩
  obtain ⟨j, s, z, hj, rfl, hp⟩ := isPat_at hpat hP
  obtain ⟨hs5, hs2, hs7, hz, hz3, hok⟩ := id hp
  have hS0 : SamM M (va_up M 0 0) := SamM.rf.up (by omega)
  have j23 : (∀ w, w ≤ 6 → ww ≠ nI w) → V X 0 0 23 (ent [.ref h, .int (nI j), .int ww] 3) [.ref h] (mW G h ad (va_up M 0 0) R1) := by
    intro hno
    refine r_iconst (v := 0) C dX7_about_23 (by decide) ?_
    refine r_iconst (v := 1) C dX7_about_24 (by decide) ?_
    refine m_calli C (c_right0 G h ad _ _ 1 (by decide) rfl) kM_right dX7_about_25 rfl (by decide) (by decide) (by decide) (by decide) rfl rfl (fun r M3 R3 hq => ?_)
    obtain ⟨rfl, rfl, rfl⟩ := hq
    refine r_if_ne (tgt := 33) C dX7_about_28 (by decide) (fun c28 => absurd c28 ((fun q => q rfl))) (fun c28 => ?_)
    refine r_iconst (v := 0) C dX7_about_31 (by decide) ?_
    exact hR _ _ _ _ _ rfl dX7_about_32 ⟨hS0.up (by omega), SamP.rf, Or.inr ⟨Or.inr hno, rfl, rfl⟩⟩
  refine r_if_eq (tgt := 31) C dX7_about_5 (by decide) (fun c5 => absurd c5 ((by decide))) (fun c5 => ?_)
  refine r_aload_n C dX7_about_8 rfl rfl ?_
  refine r_iload_n C dX7_about_9 rfl rfl ?_
  refine r_if_lt (tgt := 23) C dX7_about_10 (by decide) (fun c10 => ?_) (fun c10 => ?_)
  · first
      | exact j23 (fun w hw e => absurd c10 (by rw [e]; exact nI_pos (by omega)))
      | exact j23 (fun w hw e => absurd c16 (by rw [e]; exact Int32.not_lt.mpr (nI_le (a := w) (b := 6) hw (by decide))))
  · refine r_iload_n C dX7_about_13 rfl rfl ?_
    refine r_bipush (v := 6) C dX7_about_14 (by decide) ?_
    refine r_icmp_gt (tgt := 23) C dX7_about_16 (by decide) (fun c16 => ?_) (fun c16 => ?_)
    · first
        | exact j23 (fun w hw e => absurd c10 (by rw [e]; exact nI_pos (by omega)))
        | exact j23 (fun w hw e => absurd c16 (by rw [e]; exact Int32.not_lt.mpr (nI_le (a := w) (b := 6) hw (by decide))))
    · obtain ⟨w, hw6, rfl⟩ := nI_of2 (n := 6) (by decide) c10 (Int32.not_lt.mp c16)
      refine r_iconst (v := 1) C dX7_about_19 (by decide) ?_
      refine r_goto (tgt := 24) C dX7_about_20 (by decide) ?_
      refine r_iconst (v := 1) C dX7_about_24 (by decide) ?_
      refine m_calli C (c_right1 G h ad _ _ 1 rfl) kM_right dX7_about_25 rfl (by decide) (by decide) (by decide) (by decide) rfl rfl (fun r M3 R3 hq => ?_)
      obtain ⟨rfl, rfl, rfl⟩ := hq
      refine r_if_ne (tgt := 33) C dX7_about_28 (by decide) (fun c28 => ?_) (fun c28 => absurd c28 ((by decide)))
      refine r_iload_n C dX7_about_33 rfl rfl ?_
      refine r_tab C dX7_about_34 (by decide) (by decide) (fun i34 off34 ho34 hx34 => ?_) (fun hx34 => ⟨107, by decide, ?_⟩)
      · have hi34 : i34 < 5 := (Array.getElem?_eq_some_iff.mp ho34).1
        rcases (show i34 = 0 ∨ i34 = 1 ∨ i34 = 2 ∨ i34 = 3 ∨ i34 = 4 by omega) with rfl | rfl | rfl | rfl | rfl
        · cases ho34
          refine ⟨68, by decide, ?_⟩
          refine r_aload_n C dX7_about_68 rfl rfl ?_
          refine mg_straws C dX7_about_69 ?_
          refine r_iload_n C dX7_about_72 rfl rfl ?_
          refine ml_straws C dX7_about_73 (vp_in_nI hj (by decide)) ?_
          rw [nI_clamp (by omega), hs5]
          exact hR _ _ _ _ _ rfl dX7_about_74 ⟨hS0, SamP.rf, Or.inl ⟨j, s, z, w, hj, rfl, hp, hw6, rfl, Or.inl ⟨(nI_eq (b := 0) (by omega) (by decide)).mp hx34, rfl⟩, rfl⟩⟩
        · cases ho34
          refine ⟨75, by decide, ?_⟩
          refine r_aload_n C dX7_about_75 rfl rfl ?_
          refine r_iload_n C dX7_about_76 rfl rfl ?_
          refine m_calli C (c_home G h ad _ _ hj hp) kM_home dX7_about_77 rfl (by decide) (by decide) (by decide) (by decide) rfl rfl (fun r M4 R4 hq => ?_)
          obtain ⟨⟨m, hm, hm4, rfl⟩, rfl, P, rfl⟩ := hq
          exact hR _ _ _ _ _ rfl dX7_about_80 ⟨hS0, SamP.rf.up (by omega), Or.inl ⟨j, s, z, w, hj, rfl, hp, hw6, rfl, Or.inr (Or.inl ⟨(nI_eq (b := 1) (by omega) (by decide)).mp hx34, m, hm, hm4, rfl⟩), rfl⟩⟩
        · cases ho34
          refine ⟨81, by decide, ?_⟩
          refine r_aload_n C dX7_about_81 rfl rfl ?_
          refine r_iload_n C dX7_about_82 rfl rfl ?_
          refine m_calli C (c_rings G h ad _ _ hj hp) kM_rings dX7_about_83 rfl (by decide) (by decide) (by decide) (by decide) rfl rfl (fun r M4 R4 hq => ?_)
          obtain ⟨rfl, rfl, rfl⟩ := hq
          exact hR _ _ _ _ _ rfl dX7_about_86 ⟨hS0, SamP.rf, Or.inl ⟨j, s, z, w, hj, rfl, hp, hw6, rfl, Or.inr (Or.inr (Or.inl ⟨(nI_eq (b := 2) (by omega) (by decide)).mp hx34, rfl⟩)), rfl⟩⟩
        · cases ho34
          refine ⟨87, by decide, ?_⟩
          refine r_aload_n C dX7_about_87 rfl rfl ?_
          refine r_iload_n C dX7_about_88 rfl rfl ?_
          refine m_calli C (c_holds G h ad _ _ hj hp) kM_holds dX7_about_89 rfl (by decide) (by decide) (by decide) (by decide) rfl rfl (fun r M4 R4 hq => ?_)
          obtain ⟨hh, rfl, P, rfl⟩ := hq
          refine r_if_eq (tgt := 99) C dX7_about_92 (by decide) (fun c92 => ?_) (fun c92 => ?_)
          · refine r_iconst (v := 0) C dX7_about_99 (by decide) ?_
            exact hR _ _ _ _ _ rfl dX7_about_100 ⟨hS0, SamP.rf.up (by omega), Or.inl ⟨j, s, z, w, hj, rfl, hp, hw6, rfl, Or.inr (Or.inr (Or.inr (Or.inl ⟨(nI_eq (b := 3) (by omega) (by decide)).mp hx34, by first | exact Or.inl ⟨hh.elim (fun q => q.2) (fun q => absurd q.1 c92), rfl⟩ | exact Or.inr ⟨hh.elim (fun q => absurd (q.1.symm.trans c92) (by decide)) (fun q => q.2), rfl⟩⟩))), rfl⟩⟩
          · refine r_iconst (v := 1) C dX7_about_95 (by decide) ?_
            refine r_goto (tgt := 100) C dX7_about_96 (by decide) ?_
            exact hR _ _ _ _ _ rfl dX7_about_100 ⟨hS0, SamP.rf.up (by omega), Or.inl ⟨j, s, z, w, hj, rfl, hp, hw6, rfl, Or.inr (Or.inr (Or.inr (Or.inl ⟨(nI_eq (b := 3) (by omega) (by decide)).mp hx34, by first | exact Or.inl ⟨hh.elim (fun q => q.2) (fun q => absurd q.1 c92), rfl⟩ | exact Or.inr ⟨hh.elim (fun q => absurd (q.1.symm.trans c92) (by decide)) (fun q => q.2), rfl⟩⟩))), rfl⟩⟩
        · cases ho34
          refine ⟨101, by decide, ?_⟩
          refine r_aload_n C dX7_about_101 rfl rfl ?_
          refine r_iload_n C dX7_about_102 rfl rfl ?_
          refine m_calli C (c_levels G h ad _ _ hj hp) kM_levels dX7_about_103 rfl (by decide) (by decide) (by decide) (by decide) rfl rfl (fun r M4 R4 hq => ?_)
          obtain ⟨rfl, rfl, P, rfl⟩ := hq
          exact hR _ _ _ _ _ rfl dX7_about_106 ⟨hS0, SamP.rf.up (by omega), Or.inl ⟨j, s, z, w, hj, rfl, hp, hw6, rfl, Or.inr (Or.inr (Or.inr (Or.inr (Or.inl ⟨(nI_eq (b := 4) (by omega) (by decide)).mp hx34, rfl⟩)))), rfl⟩⟩
      · have hw56 : w = 5 ∨ w = 6 := by
          rcases (show w = 0 ∨ w = 1 ∨ w = 2 ∨ w = 3 ∨ w = 4 ∨ w = 5 ∨ w = 6 by omega) with rfl | rfl | rfl | rfl | rfl | rfl | rfl
          · exact absurd rfl (hx34 0 (by decide))
          · exact absurd rfl (hx34 1 (by decide))
          · exact absurd rfl (hx34 2 (by decide))
          · exact absurd rfl (hx34 3 (by decide))
          · exact absurd rfl (hx34 4 (by decide))
          · exact Or.inl rfl
          · exact Or.inr rfl
        refine r_aload_n C dX7_about_107 rfl rfl ?_
        refine r_iload_n C dX7_about_108 rfl rfl ?_
        refine r_iconst (v := 1) C dX7_about_109 (by decide) ?_
        refine m_callv C (c_form G h ad _ _ (T := 1) hj hp (by decide) (by omega)) kM_form dX7_about_110 rfl (by decide) (by decide) (by decide) (by decide) rfl rfl (fun M4 R4 hq => ?_)
        rw [Nat.mul_one] at hq
        obtain ⟨n, first, B, hnf, hM19, hM20, hM0, hSM, hSP, hSeq, -⟩ := hq.get
        refine r_iload_n C dX7_about_113 rfl rfl ?_
        refine r_iconst (v := 5) C dX7_about_114 (by decide) ?_
        refine r_icmp_ne (tgt := 125) C dX7_about_115 (by decide) (fun c115 => ?_) (fun c115 => ?_)
        · have h6 : w = 6 := hw56.elim (fun e => absurd (by rw [e]; rfl) c115) id
          refine r_aload_n C dX7_about_125 rfl rfl ?_
          refine mg_perms C dX7_about_126 ?_
          first
            | (rw [hM19]; exact hR _ _ _ _ _ rfl dX7_about_129 ⟨hS0.tr hSM, hSP, Or.inl ⟨j, s, z, w, hj, rfl, hp, hw6, rfl, Or.inr (Or.inr (Or.inr (Or.inr (Or.inr (Or.inr ⟨h6, n, first, B, hnf, rfl⟩))))), hM0⟩⟩)
            | exact hR _ _ _ _ _ rfl dX7_about_129 ⟨hS0.tr hSM, hSP, Or.inl ⟨j, s, z, w, hj, rfl, hp, hw6, rfl, Or.inr (Or.inr (Or.inr (Or.inr (Or.inr (Or.inl ⟨h5, n, first, B, hnf, rfl⟩))))), hM0⟩⟩
        · have h5 : w = 5 := (nI_eq (b := 5) (by omega) (by decide)).mp c115
          refine r_aload_n C dX7_about_118 rfl rfl ?_
          refine mg_power C dX7_about_119 ?_
          rw [hM20]
          refine r_goto (tgt := 129) C dX7_about_122 (by decide) ?_
          first
            | (rw [hM19]; exact hR _ _ _ _ _ rfl dX7_about_129 ⟨hS0.tr hSM, hSP, Or.inl ⟨j, s, z, w, hj, rfl, hp, hw6, rfl, Or.inr (Or.inr (Or.inr (Or.inr (Or.inr (Or.inr ⟨h6, n, first, B, hnf, rfl⟩))))), hM0⟩⟩)
            | exact hR _ _ _ _ _ rfl dX7_about_129 ⟨hS0.tr hSM, hSP, Or.inl ⟨j, s, z, w, hj, rfl, hp, hw6, rfl, Or.inr (Or.inr (Or.inr (Or.inr (Or.inr (Or.inl ⟨h5, n, first, B, hnf, rfl⟩))))), hM0⟩⟩
end M19
end
section
/-! the reference: alike -/
def alQ (c c' : Nat → Int32) (s z z' : Nat) : Prop := ∃ n first B n' first' B', NFof c s z z n first B ∧ NFof c' s z' z' n' first' B' ∧ n - first = n' - first' ∧ -nI (ngd c z z z) + nI first = -nI (ngd c' z' z' z') + nI first' ∧ ∀ f, f < n' - first' → codeF (B (f + first)) s = codeF (B' (f + first')) s
section M20
variable (G : Gx) (h : Nat) (ad : Nat → Nat) (M : Mt) (R : Rt)
theorem c_alike (kk ll : Int32) (hP : PatsOK R) : mI G h ad yX7_alike cX7_alike 5 .boolean 5 [.int kk, .int ll] M R (fun r M' R' => SamM M M' ∧ SamP R R' ∧ ((∃ j s z j' z', j < 8 ∧ kk = nI j ∧ PatOK R j s z ∧ j' < 8 ∧ ll = nI j' ∧ PatOK R j' s z' ∧ ((r = 1 ∧ alQ (rowOf R j) (rowOf R j') s z z') ∨ (r = 0 ∧ ¬ alQ (rowOf R j) (rowOf R j') s z z')) ∧ M' 0 = 0) ∨ (∃ j s z j' s' z', j < 8 ∧ kk = nI j ∧ PatOK R j s z ∧ j' < 8 ∧ ll = nI j' ∧ PatOK R j' s' z' ∧ s ≠ s' ∧ r = 0 ∧ M' 0 = 0) ∨ ((¬ isPat R kk ∨ ¬ isPat R ll) ∧ r = 0 ∧ M' 0 = 1))) := by
  refine mI.intro (by decide) (Nat.le_of_ble_eq_true rfl) (cat1 (xs := [kk, ll])) fun X C hR => ?_
  refine r_aload_n C dX7_alike_0 rfl rfl ?_
  refine r_iload_n C dX7_alike_1 rfl rfl ?_
  refine m_calli C (c_isPattern G h ad M R kk) kM_isPattern dX7_alike_2 rfl (by decide) (by decide) (by decide) (by decide) rfl rfl (fun r M1 R1 hq => ?_)
  obtain ⟨rfl, ⟨hpat, rfl, rfl⟩ | ⟨hpat, rfl, rfl⟩⟩ := hq
  rotate_left
  · refine r_if_eq (tgt := 31) C dX7_alike_5 (by decide) (fun c5 => ?_) (fun c5 => absurd c5 ((fun q => q rfl)))
    refine r_iconst (v := 0) C dX7_alike_31 (by decide) ?_
    exact hR _ _ _ _ _ rfl dX7_alike_32 ⟨SamM.rf.up (by omega), SamP.rf, Or.inr (Or.inr ⟨Or.inl hpat, rfl, rfl⟩)⟩
  refine r_if_eq (tgt := 31) C dX7_alike_5 (by decide) (fun c5 => absurd c5 ((by decide))) (fun c5 => ?_)
  refine r_aload_n C dX7_alike_8 rfl rfl ?_
  refine r_iload_n C dX7_alike_9 rfl rfl ?_
  refine m_calli C (c_isPattern G h ad (va_up M 0 0) R1 ll) kM_isPattern dX7_alike_10 rfl (by decide) (by decide) (by decide) (by decide) rfl rfl (fun r M1 R2 hq => ?_)
  obtain ⟨rfl, ⟨hpat2, rfl, rfl⟩ | ⟨hpat2, rfl, rfl⟩⟩ := hq
  rotate_left
  · refine r_if_eq (tgt := 31) C dX7_alike_13 (by decide) (fun c13 => ?_) (fun c13 => absurd c13 ((fun q => q rfl)))
    refine r_iconst (v := 0) C dX7_alike_31 (by decide) ?_
    exact hR _ _ _ _ _ rfl dX7_alike_32 ⟨(SamM.rf.up (by omega)).up (by omega), SamP.rf, Or.inr (Or.inr ⟨Or.inr hpat2, rfl, rfl⟩)⟩
  rw [up_up]
  obtain ⟨j, s, z, hj, rfl, hp⟩ := isPat_at hpat hP
  obtain ⟨j', s', z', hj', rfl, hp'⟩ := isPat_at hpat2 hP
  obtain ⟨hs5, hs2, hs7, hz, hz3, hok⟩ := id hp
  obtain ⟨hs5', hs2', hs7', hz', hz3', hok'⟩ := id hp'
  have hS0 : SamM M (va_up M 0 0) := SamM.rf.up (by omega)
  by_cases hss : s = s'
  rotate_left
  · refine r_if_eq (tgt := 31) C dX7_alike_13 (by decide) (fun c13 => absurd c13 ((by decide))) (fun c13 => ?_)
    refine r_aload_n C dX7_alike_16 rfl rfl ?_
    refine mg_straws C dX7_alike_17 ?_
    refine r_iload_n C dX7_alike_20 rfl rfl ?_
    refine ml_straws C dX7_alike_21 (vp_in_nI hj (by decide)) ?_
    rw [nI_clamp (by omega), hs5]
    refine r_aload_n C dX7_alike_22 rfl rfl ?_
    refine mg_straws C dX7_alike_23 ?_
    refine r_iload_n C dX7_alike_26 rfl rfl ?_
    refine ml_straws C dX7_alike_27 (vp_in_nI hj' (by decide)) ?_
    rw [nI_clamp (by omega), hs5']
    refine r_icmp_eq (tgt := 33) C dX7_alike_28 (by decide) (fun c28 => absurd c28 ((fun e => hss ((nI_eq (by omega) (by omega)).mp e)))) (fun c28 => ?_)
    refine r_iconst (v := 0) C dX7_alike_31 (by decide) ?_
    exact hR _ _ _ _ _ rfl dX7_alike_32 ⟨hS0, SamP.rf, Or.inr (Or.inl ⟨j, s, z, j', s', z', hj, rfl, hp, hj', rfl, hp', hss, rfl, rfl⟩)⟩
  subst hss
  have last : ∀ (n first n' first' : Nat) (B B' : Sq) (M1 : Mt) (Rc : Rt), NFof (rowOf R2 j) s z z n first B → NFof (rowOf R2 j') s z' z' n' first' B' → SamM M M1 → SamP R2 Rc → M1 0 = 0 → M1 19 = nI (n' - first') → SeqOK Rc (n' - first') s (fun f => B' (f + first')) → (∀ f, f < n - first → Rc 22 f = codeF (B (f + first)) s) → ∀ (d f : Nat) (is : Int32), f + d = n' - first' → ((is = 1 ∧ n - first = n' - first' ∧ -nI (ngd (rowOf R2 j) z z z) + nI first = -nI (ngd (rowOf R2 j') z' z' z') + nI first' ∧ ∀ q, q < f → codeF (B (q + first)) s = codeF (B' (q + first')) s) ∨ (is = 0 ∧ ¬ alQ (rowOf R2 j) (rowOf R2 j') s z z')) → V X 0 0 125 [some (.ref h), some (.int (nI j)), some (.int (nI j')), some (.int is), some (.int (nI f))] [] (mW G h ad M1 Rc) := by
    intro n first n' first' B B' M1 Rc hnf hnf' hSM hSP hM0 hM19 hSeq hkept d
    have hl := hnf.2.1
    have hl' := hnf'.2.1
    have hcB' := hnf'.2.2.1.can (seq0_can hs7 (by omega) hok')
    induction d with
    | zero =>
      intro f is hfd his
      have hfin : (is = 1 ∧ alQ (rowOf R2 j) (rowOf R2 j') s z z') ∨ (is = 0 ∧ ¬ alQ (rowOf R2 j) (rowOf R2 j') s z z') := his.elim (fun q => Or.inl ⟨q.1, n, first, B, n', first', B', hnf, hnf', q.2.1, q.2.2.1, fun g hg => q.2.2.2 g (by omega)⟩) Or.inr
      refine r_iload C dX7_alike_125 rfl ?_
      refine r_aload_n C dX7_alike_127 rfl rfl ?_
      refine mg_perms C dX7_alike_128 ?_
      rw [hM19]
      refine r_icmp_ge (tgt := 172) C dX7_alike_131 (by decide) (fun c131 => ?_) (fun c131 => absurd c131 ((fun q => q (nI_le (by omega) (by omega)))))
      refine r_iload_n C dX7_alike_172 rfl rfl ?_
      exact hR _ _ _ _ _ (by rcases hfin with q | q <;> rw [q.1] <;> rfl) dX7_alike_173 ⟨hSM, hSP, Or.inl ⟨j, s, z, j', z', hj, rfl, hp, hj', rfl, hp', hfin, hM0⟩⟩
    | succ d ih =>
      intro f is hfd his
      refine r_iload C dX7_alike_125 rfl ?_
      refine r_aload_n C dX7_alike_127 rfl rfl ?_
      refine mg_perms C dX7_alike_128 ?_
      rw [hM19]
      refine r_icmp_ge (tgt := 172) C dX7_alike_131 (by decide) (fun c131 => absurd c131 ((nI_ge (by omega) (by omega)))) (fun c131 => ?_)
      refine r_iload_n C dX7_alike_134 rfl rfl ?_
      refine r_if_eq (tgt := 172) C dX7_alike_135 (by decide) (fun c135 => ?_) (fun c135 => ?_)
      · refine r_iload_n C dX7_alike_172 rfl rfl ?_
        exact hR _ _ _ _ _ (by rw [c135]; rfl) dX7_alike_173 ⟨hSM, hSP, Or.inl ⟨j, s, z, j', z', hj, rfl, hp, hj', rfl, hp', Or.inr ⟨c135, his.elim (fun q => absurd (q.1.symm.trans c135) (by decide)) (fun q => q.2)⟩, hM0⟩⟩
      · have hi1 := his.elim id (fun q => absurd q.1 c135)
        refine r_aload_n C dX7_alike_138 rfl rfl ?_
        refine mg_kept C dX7_alike_139 ?_
        refine r_iload C dX7_alike_142 rfl ?_
        refine ml_kept C dX7_alike_144 (vp_in_nI (show f < 4808 by omega) (by decide)) ?_
        rw [nI_clamp (by omega), hkept f (by have := hi1.2.1; omega)]
        refine r_aload_n C dX7_alike_145 rfl rfl ?_
        refine r_iload C dX7_alike_146 rfl ?_
        refine r_aload_n C dX7_alike_148 rfl rfl ?_
        refine mg_straws C dX7_alike_149 ?_
        refine r_iload_n C dX7_alike_152 rfl rfl ?_
        refine ml_straws C dX7_alike_153 (vp_in_nI hj' (by decide)) ?_
        rw [nI_clamp (by omega), hSP 5 (by omega), hs5']
        refine m_calli C (c_coded G h ad _ _ (f := f) (s := s) (F := B' (f + first')) (by omega) hs7 ⟨hSeq f (by omega), (hcB'.1 _).1⟩) kM_coded dX7_alike_154 rfl (by decide) (by decide) (by decide) (Nat.le_of_ble_eq_true rfl) rfl rfl (fun r M4 R4 hq => ?_)
        obtain ⟨rfl, rfl, rfl⟩ := hq
        refine r_icmp_ne (tgt := 164) C dX7_alike_157 (by decide) (fun c157 => ?_) (fun c157 => ?_)
        · refine r_iconst (v := 0) C dX7_alike_164 (by decide) ?_
          refine r_istore_n C dX7_alike_165 rfl (by decide) ?_
          refine r_iinc (v := _ + 1) C dX7_alike_166 rfl (by rfl) (by decide) ?_
          rw [nI_1]
          refine r_goto (tgt := 125) C dX7_alike_169 (by decide) ?_
          first
            | exact ih (f + 1) 1 (by omega) (Or.inl ⟨rfl, hi1.2.1, hi1.2.2.1, fun q hq => (Nat.lt_or_ge q f).elim (fun w => hi1.2.2.2 q w) (fun w => (show q = f by omega) ▸ c157)⟩)
            | exact ih (f + 1) 0 (by omega) (Or.inr ⟨rfl, fun ⟨a1, a2, a3, b1, b2, b3, w1, w2, _, _, w5⟩ => by
                obtain ⟨e1, e2, e3⟩ := NFof.one hs7 (by omega) hok hnf w1
                obtain ⟨e4, e5, e6⟩ := NFof.one hs7 (by omega) hok' hnf' w2
                subst e1; subst e2; subst e3; subst e4; subst e5; subst e6
                exact c157 (w5 f (by omega))⟩)
        · refine r_iconst (v := 1) C dX7_alike_160 (by decide) ?_
          refine r_goto (tgt := 165) C dX7_alike_161 (by decide) ?_
          refine r_istore_n C dX7_alike_165 rfl (by decide) ?_
          refine r_iinc (v := _ + 1) C dX7_alike_166 rfl (by rfl) (by decide) ?_
          rw [nI_1]
          refine r_goto (tgt := 125) C dX7_alike_169 (by decide) ?_
          first
            | exact ih (f + 1) 1 (by omega) (Or.inl ⟨rfl, hi1.2.1, hi1.2.2.1, fun q hq => (Nat.lt_or_ge q f).elim (fun w => hi1.2.2.2 q w) (fun w => (show q = f by omega) ▸ c157)⟩)
            | exact ih (f + 1) 0 (by omega) (Or.inr ⟨rfl, fun ⟨a1, a2, a3, b1, b2, b3, w1, w2, _, _, w5⟩ => by
                obtain ⟨e1, e2, e3⟩ := NFof.one hs7 (by omega) hok hnf w1
                obtain ⟨e4, e5, e6⟩ := NFof.one hs7 (by omega) hok' hnf' w2
                subst e1; subst e2; subst e3; subst e4; subst e5; subst e6
                exact c157 (w5 f (by omega))⟩)
  have mid : ∀ (n first : Nat) (B : Sq) (M1 : Mt) (Rc : Rt), NFof (rowOf R2 j) s z z n first B → SamM M M1 → SamP R2 Rc → M1 0 = 0 → M1 19 = nI (n - first) → M1 23 = nI (n - first) → M1 24 = -nI (ngd (rowOf R2 j) z z z) + nI first → SeqOK Rc (n - first) s (fun f => B (f + first)) → ∀ (d f : Nat) (K : Nat → Int32), f + d = n - first → (∀ q, q < f → K q = codeF (B (q + first)) s) → V X 0 0 57 [some (.ref h), some (.int (nI j)), some (.int (nI j')), some (.int (nI f)), none] [] (mW G h ad M1 (va_up Rc 22 K)) := by
    intro n first B M1 Rc hnf hSM hSP hM0 hM19 hM23 hM24 hSeq d
    have hl := hnf.2.1
    have hcB := hnf.2.2.1.can (seq0_can hs7 (by omega) hok)
    induction d with
    | zero =>
      intro f K hfd hK
      have hSP2 : SamP R2 (va_up Rc 22 K) := hSP.up (by omega)
      have j94 : ∀ (M2 : Mt) (R3 : Rt), FormOut (rowOf R2 j') s z' z' M1 M2 (va_up Rc 22 K) R3 → V X 0 0 94 [some (.ref h), some (.int (nI j)), some (.int (nI j')), some (.int (nI f)), none] [] (mW G h ad M2 R3) := by
        intro M2 R3 hq
        have hM23' : M2 23 = M1 23 := by obtain ⟨_, _, _, _, _, _, _, _, _, _, _, _, _, rfl, _, _⟩ := hq; rfl
        have hM24' : M2 24 = M1 24 := by obtain ⟨_, _, _, _, _, _, _, _, _, _, _, _, _, rfl, _, _⟩ := hq; rfl
        obtain ⟨n', first', B', hnf', hN19, hN20, hN0, hNM, hNP, hNSeq, hN22⟩ := hq.get
        have hl' := hnf'.2.1
        have hf' := hnf'.1
        have fin := last n first n' first' B B' M2 R3 hnf hnf' (hSM.tr hNM) (hSP2.tr hNP) (hN0.trans hM0) hN19 hNSeq (fun q hq => by rw [hN22]; exact hK q (by omega)) (n' - first') 0
        refine r_aload_n C dX7_alike_94 rfl rfl ?_
        refine mg_keptPerms C dX7_alike_95 ?_
        refine r_aload_n C dX7_alike_98 rfl rfl ?_
        refine mg_perms C dX7_alike_99 ?_
        rw [hM23', hM23, hN19]
        refine r_icmp_ne (tgt := 120) C dX7_alike_102 (by decide) (fun c102 => ?_) (fun c102 => ?_)
        · refine r_iconst (v := 0) C dX7_alike_120 (by decide) ?_
          refine r_istore_n C dX7_alike_121 rfl (by decide) ?_
          refine r_iconst (v := 0) C dX7_alike_122 (by decide) ?_
          refine r_istore C dX7_alike_123 (by decide) ?_
          first
            | exact V.keep [true, true, true, true, true] (fin 1 (by omega) (Or.inl ⟨rfl, c102, c113, fun q hq => by omega⟩))
            | exact V.keep [true, true, true, true, true] (fin 0 (by omega) (Or.inr ⟨rfl, fun ⟨a1, a2, a3, b1, b2, b3, w1, w2, w3, w4, w5⟩ => by
                obtain ⟨e1, e2, e3⟩ := NFof.one hs7 (by omega) hok hnf w1
                obtain ⟨e4, e5, e6⟩ := NFof.one hs7 (by omega) hok' hnf' w2
                subst e1; subst e2; subst e3; subst e4; subst e5; subst e6
                first | exact c113 w4 | exact c102 (by rw [w3])⟩))
        · rw [nI_eq (by omega) (by omega)] at c102
          refine r_aload_n C dX7_alike_105 rfl rfl ?_
          refine mg_keptPower C dX7_alike_106 ?_
          refine r_aload_n C dX7_alike_109 rfl rfl ?_
          refine mg_power C dX7_alike_110 ?_
          rw [hM24', hM24, hN20]
          refine r_icmp_ne (tgt := 120) C dX7_alike_113 (by decide) (fun c113 => ?_) (fun c113 => ?_)
          · refine r_iconst (v := 0) C dX7_alike_120 (by decide) ?_
            refine r_istore_n C dX7_alike_121 rfl (by decide) ?_
            refine r_iconst (v := 0) C dX7_alike_122 (by decide) ?_
            refine r_istore C dX7_alike_123 (by decide) ?_
            first
              | exact V.keep [true, true, true, true, true] (fin 1 (by omega) (Or.inl ⟨rfl, c102, c113, fun q hq => by omega⟩))
              | exact V.keep [true, true, true, true, true] (fin 0 (by omega) (Or.inr ⟨rfl, fun ⟨a1, a2, a3, b1, b2, b3, w1, w2, w3, w4, w5⟩ => by
                  obtain ⟨e1, e2, e3⟩ := NFof.one hs7 (by omega) hok hnf w1
                  obtain ⟨e4, e5, e6⟩ := NFof.one hs7 (by omega) hok' hnf' w2
                  subst e1; subst e2; subst e3; subst e4; subst e5; subst e6
                  first | exact c113 w4 | exact c102 (by rw [w3])⟩))
          · refine r_iconst (v := 1) C dX7_alike_116 (by decide) ?_
            refine r_goto (tgt := 121) C dX7_alike_117 (by decide) ?_
            refine r_istore_n C dX7_alike_121 rfl (by decide) ?_
            refine r_iconst (v := 0) C dX7_alike_122 (by decide) ?_
            refine r_istore C dX7_alike_123 (by decide) ?_
            first
              | exact V.keep [true, true, true, true, true] (fin 1 (by omega) (Or.inl ⟨rfl, c102, c113, fun q hq => by omega⟩))
              | exact V.keep [true, true, true, true, true] (fin 0 (by omega) (Or.inr ⟨rfl, fun ⟨a1, a2, a3, b1, b2, b3, w1, w2, w3, w4, w5⟩ => by
                  obtain ⟨e1, e2, e3⟩ := NFof.one hs7 (by omega) hok hnf w1
                  obtain ⟨e4, e5, e6⟩ := NFof.one hs7 (by omega) hok' hnf' w2
                  subst e1; subst e2; subst e3; subst e4; subst e5; subst e6
                  first | exact c113 w4 | exact c102 (by rw [w3])⟩))
      refine r_iload_n C dX7_alike_57 rfl rfl ?_
      refine r_aload_n C dX7_alike_58 rfl rfl ?_
      refine mg_perms C dX7_alike_59 ?_
      rw [hM19]
      refine r_icmp_ge (tgt := 88) C dX7_alike_62 (by decide) (fun c62 => ?_) (fun c62 => absurd c62 ((fun q => q (nI_le (by omega) (by omega)))))
      refine r_aload_n C dX7_alike_88 rfl rfl ?_
      refine r_iload_n C dX7_alike_89 rfl rfl ?_
      refine r_iconst (v := 1) C dX7_alike_90 (by decide) ?_
      refine m_callv C (c_form G h ad _ _ (T := 1) hj' (hSP2.pat hp') (by decide) (by omega)) kM_form dX7_alike_91 rfl (by decide) (by decide) (by decide) (by decide) rfl rfl (fun M2 R3 hq => ?_)
      rw [Nat.mul_one, hSP2.row] at hq
      exact j94 M2 R3 hq
    | succ d ih =>
      intro f K hfd hK
      refine r_iload_n C dX7_alike_57 rfl rfl ?_
      refine r_aload_n C dX7_alike_58 rfl rfl ?_
      refine mg_perms C dX7_alike_59 ?_
      rw [hM19]
      refine r_icmp_ge (tgt := 88) C dX7_alike_62 (by decide) (fun c62 => absurd c62 ((nI_ge (by omega) (by omega)))) (fun c62 => ?_)
      refine r_aload_n C dX7_alike_65 rfl rfl ?_
      refine mg_kept C dX7_alike_66 ?_
      refine r_iload_n C dX7_alike_69 rfl rfl ?_
      refine r_aload_n C dX7_alike_70 rfl rfl ?_
      refine r_iload_n C dX7_alike_71 rfl rfl ?_
      refine r_aload_n C dX7_alike_72 rfl rfl ?_
      refine mg_straws C dX7_alike_73 ?_
      refine r_iload_n C dX7_alike_76 rfl rfl ?_
      refine ml_straws C dX7_alike_77 (vp_in_nI hj (by decide)) ?_
      rw [nI_clamp (by omega), show va_up Rc 22 K 5 j = nI s from (by rw [← hs5]; exact congrFun (hSP 5 (by omega)) j)]
      refine m_calli C (c_coded G h ad M1 (va_up Rc 22 K) (f := f) (s := s) (F := B (f + first)) (by omega) hs7 ⟨hSeq f (by omega), (hcB.1 _).1⟩) kM_coded dX7_alike_78 rfl (by decide) (by decide) (by decide) (Nat.le_of_ble_eq_true rfl) rfl rfl (fun r M4 R4 hq => ?_)
      obtain ⟨rfl, rfl, rfl⟩ := hq
      refine ms_kept C dX7_alike_81 (vp_in_nI (show f < 4808 by omega) (by decide)) ?_
      rw [nI_clamp (by omega)]
      show V X 0 0 82 _ _ (mW G h ad _ (va_up (va_up Rc 22 K) 22 (upd K f (codeF (B (f + first)) s))))
      rw [up_up]
      refine r_iinc (v := _ + 1) C dX7_alike_82 rfl (by rfl) (by decide) ?_
      rw [nI_1]
      refine r_goto (tgt := 57) C dX7_alike_85 (by decide) ?_
      exact ih (f + 1) _ (by omega) (fun q hq => by
        by_cases e : q = f
        · subst e; exact pk_us
        · rw [pk_un e]; exact hK q (by omega))
  refine r_if_eq (tgt := 31) C dX7_alike_13 (by decide) (fun c13 => absurd c13 ((by decide))) (fun c13 => ?_)
  refine r_aload_n C dX7_alike_16 rfl rfl ?_
  refine mg_straws C dX7_alike_17 ?_
  refine r_iload_n C dX7_alike_20 rfl rfl ?_
  refine ml_straws C dX7_alike_21 (vp_in_nI hj (by decide)) ?_
  rw [nI_clamp (by omega), hs5]
  refine r_aload_n C dX7_alike_22 rfl rfl ?_
  refine mg_straws C dX7_alike_23 ?_
  refine r_iload_n C dX7_alike_26 rfl rfl ?_
  refine ml_straws C dX7_alike_27 (vp_in_nI hj' (by decide)) ?_
  rw [nI_clamp (by omega), hs5']
  refine r_icmp_eq (tgt := 33) C dX7_alike_28 (by decide) (fun c28 => ?_) (fun c28 => absurd c28 ((fun q => q rfl)))
  refine r_aload_n C dX7_alike_33 rfl rfl ?_
  refine r_iload_n C dX7_alike_34 rfl rfl ?_
  refine r_iconst (v := 1) C dX7_alike_35 (by decide) ?_
  refine m_callv C (c_form G h ad (va_up M 0 0) R2 (T := 1) hj hp (by decide) (by omega)) kM_form dX7_alike_36 rfl (by decide) (by decide) (by decide) (by decide) rfl rfl (fun M2 R3 hq => ?_)
  rw [Nat.mul_one] at hq
  obtain ⟨n, first, B, hnf, hN19, hN20, hN0, hNM, hNP, hNSeq, hN22⟩ := hq.get
  refine r_aload_n C dX7_alike_39 rfl rfl ?_
  refine r_aload_n C dX7_alike_40 rfl rfl ?_
  refine mg_perms C dX7_alike_41 ?_
  refine mp_keptPerms C dX7_alike_44 ?_
  refine r_aload_n C dX7_alike_47 rfl rfl ?_
  refine r_aload_n C dX7_alike_48 rfl rfl ?_
  refine mg_power C dX7_alike_49 ?_
  refine mp_keptPower C dX7_alike_52 ?_
  refine r_iconst (v := 0) C dX7_alike_55 (by decide) ?_
  refine r_istore_n C dX7_alike_56 rfl (by decide) ?_
  skip
  have q := mid n first B (va_up (va_up M2 23 (M2 19)) 24 (M2 20)) R3 hnf (((hS0.tr hNM).up (by omega)).up (by omega)) hNP hN0 hN19 hN19 hN20 hNSeq (n - first) 0 (R3 22) (by omega) (fun q hq => by omega)
  rw [up_same rfl] at q
  exact V.keep [true, true, true, true, true] q
end M20
end
section
/-! the reference: the call of isDigit, number, opens -/
section MD
variable {X : Fx} {G : Gx} {nL : Nat} {cc : ByteArray} {d mc ms k n pc : Nat} {L : List (Option Value)} {st : List Value} {h : Nat} {ad : Nat → Nat} {M : Mt} {R : Rt}
theorem m_isDigit (C : Cx X G nL cc RX7 d mc ms) {c : Int32} (hdg : decode cc pc = .ok (.invokestatic 124, 3)) (hd : 1 ≤ d) (hk : k ≤ mc) (hn : n ≤ ms) (hst : (st.map fun v => v.category).sum ≤ 8) (kk : V X k n (pc + 3) L (.int (if 48 ≤ c ∧ c ≤ 57 then 1 else 0) :: st) (mW G h ad M R)) : V X k n pc L (.int c :: st) (mW G h ad M R) := by
  refine r_callSi C (c_isDigit G c) kM_isDigit hdg rfl hd hk hn hst [] is28 rfl (wc := []) rfl (wr := mW G h ad M R) rfl (by decide) (fun i _ h => absurd h List.not_mem_nil) (st0 := .int c :: st) rfl (fun r u hr => ?_)
  subst hr
  rw [List.append_nil]
  exact kk
end MD
def isDg (t : Nat → Int32) (e a : Nat) : Prop := a < e ∧ 48 ≤ t a ∧ t a ≤ 57
/-- how many digits stand from a on -/
def dgN (t : Nat → Int32) (e : Nat) : Nat → Nat → Nat
  | 0, _ => 0
  | f + 1, a => if a < e ∧ 48 ≤ t a ∧ t a ≤ 57 then dgN t e f (a + 1) + 1 else 0
def dgs (t : Nat → Int32) (e a : Nat) : Nat := dgN t e (e - a) a
theorem dgs_go {t : Nat → Int32} {e a : Nat} (h : isDg t e a) : dgs t e a = dgs t e (a + 1) + 1 := by
  unfold dgs
  have h1 := h.1
  rw [show e - a = (e - (a + 1)) + 1 by omega]
  exact if_pos h
theorem dgs_stop {t : Nat → Int32} {e a : Nat} (h : ¬ isDg t e a) : dgs t e a = 0 := by
  unfold dgs
  cases e - a with
  | zero => rfl
  | succ f => exact if_neg h
theorem dgs_le {t : Nat → Int32} {e : Nat} : ∀ (f a : Nat), a ≤ e → e - a ≤ f → a + dgs t e a ≤ e
  | 0, a, h, hf => by
    rw [dgs_stop (fun w => by have := w.1; omega)]
    omega
  | f + 1, a, h, hf => by
    by_cases w : isDg t e a
    · rw [dgs_go w]
      have := w.1
      have := dgs_le (t := t) (e := e) f (a + 1) (by omega) (by omega)
      omega
    · rw [dgs_stop w]
      omega
def rvF (t : Nat → Int32) (a : Nat) : Nat → Nat
  | 0 => 0
  | k + 1 => if 1000 < rvF t a k then rvF t a k else 10 * rvF t a k + (cl (t (a + k)) - 48)
theorem rvF_le {t : Nat → Int32} {a : Nat} : ∀ k, (∀ q, q < k → cl (t (a + q)) ≤ 57) → rvF t a k ≤ 10009
  | 0, _ => by simp [rvF]
  | k + 1, h => by
    have ih := rvF_le (t := t) (a := a) k (fun q hq => h q (by omega))
    have h1 := h k (by omega)
    unfold rvF
    split <;> omega
theorem dg_cl {x : Int32} (h1 : 48 ≤ x) (h2 : x ≤ 57) : ∃ d, 48 ≤ d ∧ d ≤ 57 ∧ x = nI d ∧ cl x = d := by
  obtain ⟨d, hd, rfl⟩ := nI_of2 (x := x) (M := 57) (n := 57) (by decide) (fun q => absurd (Int32.lt_of_lt_of_le q (show (0 : Int32) ≤ 48 by decide)) (Int32.not_lt.mpr h1)) h2
  have h3 : nI 48 ≤ nI d := h1
  rw [nI_leI (by decide) (by omega)] at h3
  exact ⟨d, h3, hd, rfl, cl_nI (by omega)⟩
section M21
variable (G : Gx) (h : Nat) (ad : Nat → Nat) (M : Mt) (R : Rt)
theorem c_number {a e : Nat} (ha : M 9 = nI a) (he : M 8 = nI e) (h8 : e ≤ 800) (hae : a ≤ e) : mI G h ad yX7_number cX7_number 2 .int 1 [] M R (fun r M' R' => r = nI (rvF (R 1) a (dgs (R 1) e a)) ∧ M' = va_up (va_up (va_up M 16 (nI a)) 17 (nI (dgs (R 1) e a))) 9 (nI (a + dgs (R 1) e a)) ∧ R' = R) := by
  refine mI.intro (by decide) (Nat.le_of_ble_eq_true rfl) (cat1 (xs := [])) fun X C hR => ?_
  have key : ∀ (f k : Nat), e - (a + k) ≤ f → a + k ≤ e → (∀ q, q < k → isDg (R 1) e (a + q)) → k + dgs (R 1) e (a + k) = dgs (R 1) e a → V X 0 0 15 [some (.ref h), some (.int (nI (rvF (R 1) a k)))] [] (mW G h ad (va_up (va_up (va_up M 16 (nI a)) 17 (nI k)) 9 (nI (a + k))) R) := by
    intro f
    induction f with
    | zero =>
      intro k hf hk hd hs
      have hno : ¬ isDg (R 1) e (a + k) := fun w => by have := w.1; omega
      rw [dgs_stop hno] at hs
      refine r_aload_n C dX7_number_15 rfl rfl ?_
      refine m_calli C (c_now G h ad (va_up (va_up (va_up M 16 (nI a)) 17 (nI k)) 9 (nI (a + k))) R (a := a + k) (e := e) rfl he h8 hk) kM_now dX7_number_16 rfl (by decide) (by decide) (by decide) (by decide) rfl rfl (fun r M1 R1 hq => ?_)
      obtain ⟨rfl, rfl, rfl⟩ := hq
      rw [if_neg (by omega)]
      refine m_isDigit C dX7_number_19 (by decide) (by decide) (by decide) (by decide) ?_
      rw [if_neg (by decide)]
      refine r_if_eq (tgt := 72) C dX7_number_22 (by decide) (fun c22 => ?_) (fun c22 => absurd c22 ((fun q => q rfl)))
      refine r_iload_n C dX7_number_72 rfl rfl ?_
      exact hR _ _ _ _ _ rfl dX7_number_73 ⟨by rw [← hs]; rfl, by rw [← hs]; rfl, rfl⟩
    | succ f ih =>
      intro k hf hk hd hs
      by_cases hno : isDg (R 1) e (a + k)
      · have hlt := hno.1
        obtain ⟨dv, hd1, hd2, hdx, hdc⟩ := dg_cl hno.2.1 hno.2.2
        have hrv := rvF_le (t := R 1) (a := a) k (fun q hq => by
          obtain ⟨d2, _, w2, _, w4⟩ := dg_cl (hd q hq).2.1 (hd q hq).2.2
          omega)
        have hrs : rvF (R 1) a (k + 1) = if 1000 < rvF (R 1) a k then rvF (R 1) a k else 10 * rvF (R 1) a k + (dv - 48) := by
          show (if 1000 < rvF (R 1) a k then _ else 10 * rvF (R 1) a k + (cl (R 1 (a + k)) - 48)) = _
          rw [hdc]
        have nx := ih (k + 1) (by omega) (by omega) (fun q hq => by
          by_cases w : q = k
          · subst w; exact hno
          · exact hd q (by omega)) (by rw [dgs_go hno] at hs; rw [show a + (k + 1) = a + k + 1 by omega]; omega)
        rw [hrs] at nx
        have j48 : ∀ v : Nat, v = (if 1000 < rvF (R 1) a k then rvF (R 1) a k else 10 * rvF (R 1) a k + (dv - 48)) → V X 0 0 48 [some (.ref h), some (.int (nI (rvF (R 1) a k)))] [.int (nI v)] (mW G h ad (va_up (va_up (va_up M 16 (nI a)) 17 (nI k)) 9 (nI (a + k))) R) := by
          intro v hv
          rw [← hv] at nx
          refine r_istore_n C dX7_number_48 rfl (by decide) ?_
          refine r_aload_n C dX7_number_49 rfl rfl ?_
          refine r_dup C dX7_number_50 rfl ?_
          refine mg_digits C dX7_number_51 ?_
          refine r_iconst (v := 1) C dX7_number_54 (by decide) ?_
          refine r_iadd C dX7_number_55 ?_
          show V X 0 0 56 _ [.int (nI k + 1), .ref h] _
          rw [nI_1]
          refine mp_digits C dX7_number_56 ?_
          refine r_aload_n C dX7_number_59 rfl rfl ?_
          refine r_dup C dX7_number_60 rfl ?_
          refine mg_at C dX7_number_61 ?_
          refine r_iconst (v := 1) C dX7_number_64 (by decide) ?_
          refine r_iadd C dX7_number_65 ?_
          show V X 0 0 66 _ [.int (nI (a + k) + 1), .ref h] _
          rw [nI_1]
          refine mp_at C dX7_number_66 ?_
          refine r_goto (tgt := 15) C dX7_number_69 (by decide) ?_
          rw [up_comm (i := 9) (j := 17) (by decide), up_up (k := 17), up_up (k := 9)]
          exact nx
        refine r_aload_n C dX7_number_15 rfl rfl ?_
        refine m_calli C (c_now G h ad (va_up (va_up (va_up M 16 (nI a)) 17 (nI k)) 9 (nI (a + k))) R (a := a + k) (e := e) rfl he h8 hk) kM_now dX7_number_16 rfl (by decide) (by decide) (by decide) (by decide) rfl rfl (fun r M1 R1 hq => ?_)
        obtain ⟨rfl, rfl, rfl⟩ := hq
        rw [if_pos hlt]
        refine m_isDigit C dX7_number_19 (by decide) (by decide) (by decide) (by decide) ?_
        rw [if_pos hno.2]
        refine r_if_eq (tgt := 72) C dX7_number_22 (by decide) (fun c22 => absurd c22 ((by decide))) (fun c22 => ?_)
        refine r_iload_n C dX7_number_25 rfl rfl ?_
        refine r_sipush (v := 1000) C dX7_number_26 (by decide) ?_
        refine r_icmp_le (tgt := 36) C dX7_number_29 (by decide) (fun c29 => ?_) (fun c29 => ?_)
        · rw [show (1000 : Int32) = nI 1000 from rfl, nI_leI (by omega) (by omega)] at c29
          refine r_bipush (v := 10) C dX7_number_36 (by decide) ?_
          refine r_iload_n C dX7_number_38 rfl rfl ?_
          refine r_imul C dX7_number_39 ?_
          refine r_aload_n C dX7_number_40 rfl rfl ?_
          refine m_calli C (c_now G h ad (va_up (va_up (va_up M 16 (nI a)) 17 (nI k)) 9 (nI (a + k))) R1 (a := a + k) (e := e) rfl he h8 hk) kM_now dX7_number_41 rfl (by decide) (by decide) (by decide) (Nat.le_of_ble_eq_true rfl) rfl rfl (fun r M2 R2 hq => ?_)
          obtain ⟨rfl, rfl, rfl⟩ := hq
          rw [if_pos hlt, hdx, show (10 : Int32) = nI 10 from rfl]
          rw [pk_mul]
          refine r_iadd C dX7_number_44 ?_
          rw [nI_add]
          refine r_bipush (v := 48) C dX7_number_45 (by decide) ?_
          rw [show (48 : Int32) = nI 48 from rfl]
          refine r_isub C dX7_number_47 ?_
          first
            | exact j48 _ (by rw [if_pos (by omega)])
            | (rw [pk_sub (by omega)]; exact j48 _ (by rw [if_neg (by omega)]; omega))
        · rw [show (1000 : Int32) = nI 1000 from rfl, nI_leI (by omega) (by omega)] at c29
          refine r_iload_n C dX7_number_32 rfl rfl ?_
          refine r_goto (tgt := 48) C dX7_number_33 (by decide) ?_
          first
            | exact j48 _ (by rw [if_pos (by omega)])
            | (rw [pk_sub (by omega)]; exact j48 _ (by rw [if_neg (by omega)]; omega))
      · rw [dgs_stop hno] at hs
        have hr0 : (if 48 ≤ (if a + k < e then R 1 (a + k) else 0) ∧ (if a + k < e then R 1 (a + k) else 0) ≤ 57 then (1 : Int32) else 0) = 0 := by
          by_cases w : a + k < e
          · rw [if_pos w, if_neg (fun q => hno ⟨w, q⟩)]
          · rw [if_neg w, if_neg (by decide)]
        refine r_aload_n C dX7_number_15 rfl rfl ?_
        refine m_calli C (c_now G h ad (va_up (va_up (va_up M 16 (nI a)) 17 (nI k)) 9 (nI (a + k))) R (a := a + k) (e := e) rfl he h8 hk) kM_now dX7_number_16 rfl (by decide) (by decide) (by decide) (by decide) rfl rfl (fun r M1 R1 hq => ?_)
        obtain ⟨rfl, rfl, rfl⟩ := hq
        refine m_isDigit C dX7_number_19 (by decide) (by decide) (by decide) (by decide) ?_
        rw [hr0]
        refine r_if_eq (tgt := 72) C dX7_number_22 (by decide) (fun c22 => ?_) (fun c22 => absurd c22 ((fun q => q rfl)))
        refine r_iload_n C dX7_number_72 rfl rfl ?_
        exact hR _ _ _ _ _ rfl dX7_number_73 ⟨by rw [← hs]; rfl, by rw [← hs]; rfl, rfl⟩
  have q0 := key (e - a) 0 (by omega) (by omega) (fun q hq => by omega) (by rw [Nat.zero_add, Nat.add_zero])
  refine r_iconst (v := 0) C dX7_number_0 (by decide) ?_
  refine r_istore_n C dX7_number_1 rfl (by decide) ?_
  refine r_aload_n C dX7_number_2 rfl rfl ?_
  refine r_aload_n C dX7_number_3 rfl rfl ?_
  refine mg_at C dX7_number_4 ?_
  rw [ha]
  refine mp_numberAt C dX7_number_7 ?_
  refine r_aload_n C dX7_number_10 rfl rfl ?_
  refine r_iconst (v := 0) C dX7_number_11 (by decide) ?_
  refine mp_digits C dX7_number_12 ?_
  exact (by
    rw [Nat.add_zero] at q0
    rw [show va_up (va_up (va_up M 16 (nI a)) 17 (nI 0)) 9 (nI a) = va_up (va_up M 16 (nI a)) 17 0 from up_same ha] at q0
    exact q0)
end M21
end
section
/-! the reference: what a reading stands at; opens -/
def okK (k : Nat) : Prop := (1 ≤ k ∧ k ≤ 50) ∨ k = 109 ∨ k = 116 ∨ k = 117
/-- a reading: e bytes of n straws, at a, mny crossings row so far, dp brackets open, kd and fr -/
def RdS (M : Mt) (R : Rt) (e n a mny dp : Nat) (row : Nat → Int32) (kd fr : Nat → Nat) : Prop :=
  M 8 = nI e ∧ M 9 = nI a ∧ M 10 = nI n ∧ M 12 = nI mny ∧ M 15 = nI dp ∧ M 3 = 0 ∧ M 4 = -1 ∧ e ≤ 800 ∧ a ≤ e ∧ 2 ≤ n ∧ n ≤ 7 ∧ mny ≤ 300 ∧ dp ≤ 8 ∧ (∀ i, i < mny → R 11 i = row i ∧ okC n (row i)) ∧ ∀ i, i < dp → R 13 i = nI (kd i) ∧ okK (kd i) ∧ R 14 i = nI (fr i) ∧ fr i ≤ mny
/-- what reading leaves alone: all but at, made, many, the brackets, the number, the fault -/
def RdM (M M' : Mt) : Prop := ∀ i, (i = 0 ∨ i = 2 ∨ i = 8 ∨ i = 10 ∨ (19 ≤ i ∧ i ≤ 44)) → M' i = M i
def RdR (R R' : Rt) : Prop := ∀ i, i ≠ 11 → i ≠ 13 → i ≠ 14 → R' i = R i
theorem RdM.rf {M : Mt} : RdM M M := fun _ _ => rfl
theorem RdR.rf {R : Rt} : RdR R R := fun _ _ _ _ => rfl
theorem RdM.tr {M M' M2 : Mt} (h : RdM M M') (h2 : RdM M' M2) : RdM M M2 := fun i hi => (h2 i hi).trans (h i hi)
theorem RdR.tr {R R' R2 : Rt} (h : RdR R R') (h2 : RdR R' R2) : RdR R R2 := fun i h1 h3 h4 => (h2 i h1 h3 h4).trans (h i h1 h3 h4)
theorem RdM.up {M M' : Mt} {k : Nat} {v : Int32} (h : RdM M M') (hk : ¬ (k = 0 ∨ k = 2 ∨ k = 8 ∨ k = 10 ∨ (19 ≤ k ∧ k ≤ 44))) : RdM M (va_up M' k v) := fun i hi => by
  rw [va_up_no (show i ≠ k from fun e => hk (by subst e; exact hi))]
  exact h i hi
theorem RdR.up {R R' : Rt} {k : Nat} {P : Nat → Int32} (h : RdR R R') (hk : k = 11 ∨ k = 13 ∨ k = 14) : RdR R (va_up R' k P) := fun i h1 h2 h3 => by
  rw [va_up_no (by omega)]
  exact h i h1 h2 h3
section M22
variable (G : Gx) (h : Nat) (ad : Nat → Nat) (M : Mt) (R : Rt)
theorem c_opens {e n a mny dp : Nat} {row : Nat → Int32} {kd fr : Nat → Nat} (kv : Nat) (hk : okK kv) (hS : RdS M R e n a mny dp row kd fr) (hae : a < e) : mI G h ad yX7_opens cX7_opens 2 .boolean 1 [.int (nI kv)] M R (fun r M' R' => RdM M M' ∧ RdR R R' ∧ ((dp = 8 ∧ r = 0 ∧ M' 3 = 2 ∧ M' 4 = nI a ∧ M' 8 = nI e ∧ M' 9 = nI a) ∨ (dp < 8 ∧ r = 1 ∧ RdS M' R' e n (a + 1) mny (dp + 1) row (va_up kd dp kv) (va_up fr dp mny)))) := by
  refine mI.intro (by decide) (Nat.le_of_ble_eq_true rfl) (cat1 (xs := [nI kv])) fun X C hR => ?_
  obtain ⟨h8, h9, h10, h12, h15, h3, h4, he, ha, hn2, hn7, hm3, hd8, hrow, hbr⟩ := id hS
  have hcl : (M 15).toNatClampNeg = dp := by rw [h15, nI_clamp (by omega)]
  refine r_aload_n C dX7_opens_0 rfl rfl ?_
  refine mg_deep C dX7_opens_1 ?_
  refine r_bipush (v := 8) C dX7_opens_4 (by decide) ?_
  rw [h15]
  refine r_icmp_ne (tgt := 19) C dX7_opens_6 (by decide) (fun c6 => ?_) (fun c6 => ?_)
  · have hd : dp < 8 := Nat.lt_of_le_of_ne hd8 (fun q => c6 (by rw [q]; rfl))
    refine r_aload_n C dX7_opens_19 rfl rfl ?_
    refine mg_openKind C dX7_opens_20 ?_
    refine r_aload_n C dX7_opens_23 rfl rfl ?_
    refine mg_deep C dX7_opens_24 ?_
    refine r_iload_n C dX7_opens_27 rfl rfl ?_
    refine ms_openKind C dX7_opens_28 (by rw [h15]; exact vp_in_nI (show dp < 9 by omega) (by decide)) ?_
    refine r_aload_n C dX7_opens_29 rfl rfl ?_
    refine mg_openFrom C dX7_opens_30 ?_
    refine r_aload_n C dX7_opens_33 rfl rfl ?_
    refine mg_deep C dX7_opens_34 ?_
    refine r_aload_n C dX7_opens_37 rfl rfl ?_
    refine mg_many C dX7_opens_38 ?_
    refine ms_openFrom C dX7_opens_41 (by show vp_in (M 15) 9; rw [h15]; exact vp_in_nI (show dp < 9 by omega) (by decide)) ?_
    show V X 0 0 42 _ _ (mW G h ad M (va_up (va_up R 13 (upd (R 13) (M 15).toNatClampNeg (nI kv))) 14 (upd (R 14) (M 15).toNatClampNeg (M 12))))
    rw [hcl]
    refine r_aload_n C dX7_opens_42 rfl rfl ?_
    refine r_dup C dX7_opens_43 rfl ?_
    refine mg_deep C dX7_opens_44 ?_
    refine r_iconst (v := 1) C dX7_opens_47 (by decide) ?_
    refine r_iadd C dX7_opens_48 ?_
    rw [h15, nI_1]
    refine mp_deep C dX7_opens_49 ?_
    refine r_aload_n C dX7_opens_52 rfl rfl ?_
    refine r_dup C dX7_opens_53 rfl ?_
    refine mg_at C dX7_opens_54 ?_
    refine r_iconst (v := 1) C dX7_opens_57 (by decide) ?_
    refine r_iadd C dX7_opens_58 ?_
    show V X 0 0 59 _ [.int (M 9 + 1), .ref h] _
    rw [h9, nI_1]
    refine mp_at C dX7_opens_59 ?_
    refine r_iconst (v := 1) C dX7_opens_62 (by decide) ?_
    exact hR _ _ _ _ _ rfl dX7_opens_63 ⟨(RdM.rf.up (by omega)).up (by omega), (RdR.rf.up (by omega)).up (by omega), Or.inr ⟨hd, rfl, h8, rfl, h10, h12, rfl, h3, h4, he, by omega, hn2, hn7, hm3, by omega, hrow, fun i hi => by
      show upd (R 13) dp (nI kv) i = _ ∧ _ ∧ upd (R 14) dp (M 12) i = _ ∧ _
      by_cases q : i = dp
      · subst q
        rw [pk_us, pk_us, va_up_at, va_up_at]
        exact ⟨rfl, hk, h12, Nat.le_refl _⟩
      · rw [pk_un q, pk_un q, va_up_no q, va_up_no q]
        exact hbr i (by omega)⟩⟩
  · have hd : dp = 8 := (nI_eq (b := 8) (by omega) (by decide)).mp c6
    refine r_aload_n C dX7_opens_9 rfl rfl ?_
    refine r_iconst (v := 2) C dX7_opens_10 (by decide) ?_
    refine r_aload_n C dX7_opens_11 rfl rfl ?_
    refine mg_at C dX7_opens_12 ?_
    refine m_calli C (c_wrong G h ad M R 2 (M 9)) kM_wrong dX7_opens_15 rfl (by decide) (by decide) (by decide) (by decide) rfl rfl (fun r M1 R1 hq => ?_)
    obtain ⟨rfl, rfl, rfl⟩ := hq
    rw [if_pos h3]
    exact hR _ _ _ _ _ rfl dX7_opens_18 ⟨(RdM.rf.up (by omega)).up (by omega), RdR.rf, Or.inl ⟨hd, rfl, rfl, h9, h8, h9⟩⟩
end M22
end
section
/-! the reference: closes -/
def tnC (n : Nat) (c : Int32) : Int32 := if 0 < c then nI n - c else -nI n - c
theorem ok_neg {s : Nat} {c : Int32} (h : okC s c) : okC s (-c) := by
  obtain ⟨i, h1, h2, rfl | rfl⟩ := h
  · exact ⟨i, h1, h2, Or.inr rfl⟩
  · exact ⟨i, h1, h2, Or.inl Int32.neg_neg⟩
theorem ok_tn {s : Nat} {c : Int32} (hs : s ≤ 7) (h : okC s c) : okC s (tnC s c) := by
  obtain ⟨i, h1, h2, rfl | rfl⟩ := h
  · unfold tnC
    rw [if_pos (pos_nI h1 (by omega)), pk_sub (by omega)]
    exact ⟨s - i, by omega, by omega, Or.inl rfl⟩
  · unfold tnC
    rw [if_neg (neg_npos h1 (by omega))]
    refine ⟨s - i, by omega, by omega, Or.inr ?_⟩
    rw [← pk_sub (show i ≤ s by omega), Int32.neg_sub, Int32.sub_eq_add_neg, Int32.neg_neg, Int32.add_comm, ← Int32.sub_eq_add_neg]
/-- a part closed: made again, undone, mirrored, turned -/
def clR (n kind : Nat) (row : Nat → Int32) (fm own : Nat) : Nat → Int32 := fun i =>
  if i < fm then row i else if kind < 100 then row (fm + (i - fm) % own) else if kind = 117 then -row (fm + (own - 1 - (i - fm))) else if kind = 109 then -row i else tnC n (row i)
def clN (kind fm own : Nat) : Nat := if kind < 100 then fm + own * kind else fm + own
theorem clR_ok {n kind fm own : Nat} {row : Nat → Int32} (hn : n ≤ 7) (h : ∀ i, i < fm + own → okC n (row i)) : ∀ i, i < clN kind fm own → okC n (clR n kind row fm own i) := by
  intro i hi
  unfold clN at hi
  unfold clR
  by_cases e1 : i < fm
  · rw [if_pos e1]; exact h i (by omega)
  · rw [if_neg e1]
    by_cases e2 : kind < 100
    · rw [if_pos e2]
      rw [if_pos e2] at hi
      have hown : 0 < own := by
        rcases Nat.eq_zero_or_pos own with q | q
        · rw [q, Nat.zero_mul] at hi; omega
        · exact q
      have := Nat.mod_lt (i - fm) hown
      exact h _ (by omega)
    · rw [if_neg e2]
      rw [if_neg e2] at hi
      by_cases e3 : kind = 117
      · rw [if_pos e3]; exact ok_neg (h _ (by omega))
      · rw [if_neg e3]
        by_cases e4 : kind = 109
        · rw [if_pos e4]; exact ok_neg (h i hi)
        · rw [if_neg e4]; exact ok_tn hn (h i hi)
section M23
variable (G : Gx) (h : Nat) (ad : Nat → Nat) (M : Mt) (R : Rt)
theorem c_closes {e n a mny dp : Nat} {row : Nat → Int32} {kd fr : Nat → Nat} (hS : RdS M R e n a mny dp row kd fr) (hae : a < e) : mI G h ad yX7_closes cX7_closes 6 .boolean 1 [] M R (fun r M' R' => RdM M M' ∧ RdR R R' ∧ ((dp = 0 ∧ r = 0 ∧ M' 3 = 1 ∧ M' 4 = nI a ∧ M' 8 = nI e ∧ M' 9 = nI a) ∨ (0 < dp ∧ kd (dp - 1) < 100 ∧ 300 < fr (dp - 1) + (mny - fr (dp - 1)) * kd (dp - 1) ∧ r = 0 ∧ M' 3 = 2 ∧ M' 4 = nI a ∧ M' 8 = nI e ∧ M' 9 = nI a) ∨ (0 < dp ∧ clN (kd (dp - 1)) (fr (dp - 1)) (mny - fr (dp - 1)) ≤ 300 ∧ r = 1 ∧ RdS M' R' e n (a + 1) (clN (kd (dp - 1)) (fr (dp - 1)) (mny - fr (dp - 1))) (dp - 1) (clR n (kd (dp - 1)) row (fr (dp - 1)) (mny - fr (dp - 1))) kd fr))) := by
  refine mI.intro (by decide) (Nat.le_of_ble_eq_true rfl) (cat1 (xs := [])) fun X C hR => ?_
  obtain ⟨h8, h9, h10, h12, h15, h3, h4, he, ha, hn2, hn7, hm3, hd8, hrow, hbr⟩ := id hS
  by_cases hd0 : dp = 0
  · subst hd0
    refine r_aload_n C dX7_closes_0 rfl rfl ?_
    refine mg_deep C dX7_closes_1 ?_
    rw [h15]
    refine r_if_ne (tgt := 17) C dX7_closes_4 (by decide) (fun c4 => absurd c4 ((fun q => q rfl))) (fun c4 => ?_)
    refine r_aload_n C dX7_closes_7 rfl rfl ?_
    refine r_iconst (v := 1) C dX7_closes_8 (by decide) ?_
    refine r_aload_n C dX7_closes_9 rfl rfl ?_
    refine mg_at C dX7_closes_10 ?_
    refine m_calli C (c_wrong G h ad M R 1 (M 9)) kM_wrong dX7_closes_13 rfl (by decide) (by decide) (by decide) (by decide) rfl rfl (fun r M1 R1 hq => ?_)
    obtain ⟨rfl, rfl, rfl⟩ := hq
    rw [if_pos h3]
    exact hR _ _ _ _ _ rfl dX7_closes_16 ⟨(RdM.rf.up (by omega)).up (by omega), RdR.rf, Or.inl ⟨rfl, rfl, rfl, h9, h8, h9⟩⟩
  obtain ⟨dq, rfl⟩ : ∃ q, dp = q + 1 := ⟨dp - 1, by omega⟩
  rw [Nat.add_sub_cancel] at hR
  obtain ⟨hb1, hb2, hb3, hb4⟩ := hbr dq (by omega)
  obtain ⟨kind, hkind⟩ : ∃ q, q = kd dq := ⟨_, rfl⟩
  obtain ⟨fm, hfm⟩ : ∃ q, q = fr dq := ⟨_, rfl⟩
  rw [← hkind] at hb1 hb2 hR
  rw [← hfm] at hb3 hb4 hR
  obtain ⟨own, rfl⟩ : ∃ q, mny = fm + q := ⟨mny - fm, by omega⟩
  rw [Nat.add_sub_cancel_left] at hR
  have hkk : kind ≤ 117 := by rcases hb2 with q | q | q | q <;> omega
  -- the end: row P is the closed one
  have fin : ∀ (M' : Mt) (P : Nat → Int32), M' = va_up (va_up (va_up M 15 (nI dq)) 9 (nI (a + 1))) 12 (nI (clN kind fm own)) → clN kind fm own ≤ 300 → (∀ i, i < clN kind fm own → P i = clR n kind row fm own i) → RdM M M' ∧ RdR R (va_up R 11 P) ∧ RdS M' (va_up R 11 P) e n (a + 1) (clN kind fm own) dq (clR n kind row fm own) kd fr := by
    intro M' P hM' hle hP
    subst hM'
    have hge : fm + own ≤ clN kind fm own := by
      unfold clN
      split
      · have : 1 ≤ kind := by rcases hb2 with q | q | q | q <;> omega
        have := Nat.mul_le_mul (Nat.le_refl own) this
        omega
      · exact Nat.le_refl _
    exact ⟨((RdM.rf.up (by omega)).up (by omega)).up (by omega), RdR.rf.up (by omega), h8, rfl, h10, rfl, rfl, h3, h4, he, by omega, hn2, hn7, hle, by omega, fun i hi => ⟨hP i hi, clR_ok hn7 (fun q hq => (hrow q hq).2) i hi⟩, fun i hi => by
      obtain ⟨w1, w2, w3, w4⟩ := hbr i (by omega)
      exact ⟨w1, w2, w3, by omega⟩⟩
  have e9 : nI (dq + 1) - 1 = nI dq := nI_pred dq
  have c100 : (100 : Int32) = nI 100 := rfl
  have M1e : ∀ P : Nat → Int32, kind < 100 → fm + own * kind ≤ 300 → (∀ i, i < fm + own * kind → P i = clR n kind row fm own i) → V X 0 0 138 [some (.ref h), some (.int (nI kind)), some (.int (nI fm)), some (.int (nI own)), none, none] [] (mW G h ad (va_up (va_up M 15 (nI dq)) 9 (nI (a + 1))) (va_up R 11 P)) := by
    intro P hk hle hP
    have hcl : clN kind fm own = fm + own * kind := by unfold clN; rw [if_pos hk]
    obtain ⟨f1, f2, f3⟩ := fin _ P rfl (by omega) (fun i hi => hP i (by omega))
    refine r_aload_n C dX7_closes_138 rfl rfl ?_
    refine r_iload_n C dX7_closes_139 rfl rfl ?_
    refine r_iload_n C dX7_closes_140 rfl rfl ?_
    refine r_iload_n C dX7_closes_141 rfl rfl ?_
    refine r_imul C dX7_closes_142 ?_
    refine r_iadd C dX7_closes_143 ?_
    rw [pk_mul, nI_add, ← hcl]
    refine mp_many C dX7_closes_144 ?_
    refine r_iconst (v := 1) C dX7_closes_147 (by decide) ?_
    exact hR _ _ _ _ _ rfl dX7_closes_148 ⟨f1, f2, Or.inr (Or.inr ⟨by omega, by omega, rfl, f3⟩)⟩
  have kA : kind < 100 → fm + own * kind ≤ 300 → ∀ (f k : Nat) (P : Nat → Int32), k + f = own * kind → own ≤ k → (∀ i, i < fm + k → P i = clR n kind row fm own i) → V X 0 0 104 [some (.ref h), some (.int (nI kind)), some (.int (nI fm)), some (.int (nI own)), some (.int (nI k)), none] [] (mW G h ad (va_up (va_up M 15 (nI dq)) 9 (nI (a + 1))) (va_up R 11 P)) := by
    intro hk hle f
    induction f with
    | zero =>
      intro k P hkf hko hP
      refine r_iload C dX7_closes_104 rfl ?_
      refine r_iload_n C dX7_closes_106 rfl rfl ?_
      refine r_iload_n C dX7_closes_107 rfl rfl ?_
      refine r_imul C dX7_closes_108 ?_
      rw [pk_mul]
      refine r_icmp_ge (tgt := 138) C dX7_closes_109 (by decide) (fun c109 => ?_) (fun c109 => absurd c109 ((fun q => q (nI_le (by omega) (by omega)))))
      exact V.keep [true, true, true, true, false, false] (M1e P hk hle (fun i hi => hP i (by omega)))
    | succ f ih =>
      intro k P hkf hko hP
      have hown : 0 < own := by
        rcases Nat.eq_zero_or_pos own with q | q
        · rw [q, Nat.zero_mul] at hkf; omega
        · exact q
      have hval : P (fm + k - own) = clR n kind row fm own (fm + k) := by
        rw [hP _ (by omega)]
        unfold clR
        rw [if_neg (show ¬ fm + k - own < fm by omega), if_pos hk, if_neg (show ¬ fm + k < fm by omega), if_pos hk, show fm + k - own - fm = k - own by omega, show fm + k - fm = k by omega, Nat.mod_eq_sub_mod hko]
      refine r_iload C dX7_closes_104 rfl ?_
      refine r_iload_n C dX7_closes_106 rfl rfl ?_
      refine r_iload_n C dX7_closes_107 rfl rfl ?_
      refine r_imul C dX7_closes_108 ?_
      rw [pk_mul]
      refine r_icmp_ge (tgt := 138) C dX7_closes_109 (by decide) (fun c109 => absurd c109 ((nI_ge (by omega) (by omega)))) (fun c109 => ?_)
      refine r_aload_n C dX7_closes_112 rfl rfl ?_
      refine mg_made C dX7_closes_113 ?_
      refine r_iload_n C dX7_closes_116 rfl rfl ?_
      refine r_iload C dX7_closes_117 rfl ?_
      refine r_iadd C dX7_closes_119 ?_
      refine r_aload_n C dX7_closes_120 rfl rfl ?_
      refine mg_made C dX7_closes_121 ?_
      refine r_iload_n C dX7_closes_124 rfl rfl ?_
      refine r_iload C dX7_closes_125 rfl ?_
      refine r_iadd C dX7_closes_127 ?_
      refine r_iload_n C dX7_closes_128 rfl rfl ?_
      refine r_isub C dX7_closes_129 ?_
      rw [nI_add, pk_sub (by omega)]
      refine ml_made C dX7_closes_130 (vp_in_nI (show fm + k - own < 300 by omega) (by decide)) ?_
      rw [nI_clamp (by omega)]
      show V X 0 0 131 _ (.int (P (fm + k - own)) :: _) _
      rw [hval]
      refine ms_made C dX7_closes_131 (vp_in_nI (show fm + k < 300 by omega) (by decide)) ?_
      rw [nI_clamp (by omega)]
      show V X 0 0 132 _ _ (mW G h ad _ (va_up (va_up R 11 P) 11 (upd P (fm + k) _)))
      rw [up_up]
      refine r_iinc (v := _ + 1) C dX7_closes_132 rfl (by rfl) (by decide) ?_
      rw [nI_1]
      refine r_goto (tgt := 104) C dX7_closes_135 (by decide) ?_
      exact ih (k + 1) _ (by omega) (by omega) (fun i hi => by
        by_cases q : i = fm + k
        · subst q; exact pk_us
        · rw [pk_un q]; exact hP i (by omega))
  -- undone, mirrored, turned: as long as it was
  have j300 : ∀ (P : Nat → Int32) (o4 o5 : Option Value), ¬ kind < 100 → (∀ i, i < fm + own → P i = clR n kind row fm own i) → V X 0 0 300 [some (.ref h), some (.int (nI kind)), some (.int (nI fm)), some (.int (nI own)), o4, o5] [] (mW G h ad (va_up (va_up M 15 (nI dq)) 9 (nI (a + 1))) (va_up R 11 P)) := by
    intro P o4 o5 hk hP
    have hcl : clN kind fm own = fm + own := by unfold clN; rw [if_neg hk]
    obtain ⟨f1, f2, f3⟩ := fin _ P rfl (by omega) (fun i hi => hP i (by omega))
    have e12 : va_up (va_up (va_up M 15 (nI dq)) 9 (nI (a + 1))) 12 (nI (clN kind fm own)) = va_up (va_up M 15 (nI dq)) 9 (nI (a + 1)) := up_same (by rw [hcl]; exact h12)
    rw [e12] at f1 f3
    refine r_iconst (v := 1) C dX7_closes_300 (by decide) ?_
    exact hR _ _ _ _ _ rfl dX7_closes_301 ⟨f1, f2, Or.inr (Or.inr ⟨by omega, by omega, rfl, f3⟩)⟩
  have kC : kind = 117 → ∀ (f k : Nat) (P : Nat → Int32) (o5 : Option Value), own - 2 * k ≤ f → 2 * k ≤ own + 1 → (∀ i, i < fm → P i = row i) → (∀ q, q < k → q < own → P (fm + q) = -row (fm + (own - 1 - q)) ∧ P (fm + (own - 1 - q)) = -row (fm + q)) → (∀ q, k ≤ q → q + k < own → P (fm + q) = row (fm + q)) → V X 0 0 228 [some (.ref h), some (.int (nI kind)), some (.int (nI fm)), some (.int (nI own)), some (.int (nI k)), o5] [] (mW G h ad (va_up (va_up M 15 (nI dq)) 9 (nI (a + 1))) (va_up R 11 P)) := by
    intro hk f
    have hcl : ∀ (k : Nat) (P : Nat → Int32), own ≤ 2 * k → 2 * k ≤ own + 1 → (∀ i, i < fm → P i = row i) → (∀ q, q < k → q < own → P (fm + q) = -row (fm + (own - 1 - q)) ∧ P (fm + (own - 1 - q)) = -row (fm + q)) → ∀ i, i < fm + own → P i = clR n kind row fm own i := by
      intro k P w1 w2 w3 w4 i hi
      unfold clR
      by_cases e1 : i < fm
      · rw [if_pos e1]; exact w3 i e1
      · rw [if_neg e1, if_neg (by omega), if_pos hk]
        obtain ⟨q, rfl⟩ : ∃ q, i = fm + q := ⟨i - fm, by omega⟩
        rw [Nat.add_sub_cancel_left]
        by_cases e2 : q < k
        · exact (w4 q e2 (by omega)).1
        · have := (w4 (own - 1 - q) (by omega) (by omega)).2
          rw [show own - 1 - (own - 1 - q) = q by omega] at this
          exact this
    induction f with
    | zero =>
      intro k P o5 hf h2k q1 q2 q3
      refine r_iconst (v := 2) C dX7_closes_228 (by decide) ?_
      refine r_iload C dX7_closes_229 rfl ?_
      refine r_imul C dX7_closes_231 ?_
      rw [show (2 : Int32) = nI 2 from rfl, pk_mul]
      refine r_iload_n C dX7_closes_232 rfl rfl ?_
      refine r_icmp_ge (tgt := 300) C dX7_closes_233 (by decide) (fun c233 => ?_) (fun c233 => absurd c233 ((fun q => q (nI_le (by omega) (by omega)))))
      exact j300 P _ _ (by omega) (hcl k P (by omega) h2k q1 q2)
    | succ f ih =>
      intro k P o5 hf h2k q1 q2 q3
      by_cases hlt : 2 * k < own
      rotate_left
      · refine r_iconst (v := 2) C dX7_closes_228 (by decide) ?_
        refine r_iload C dX7_closes_229 rfl ?_
        refine r_imul C dX7_closes_231 ?_
        rw [show (2 : Int32) = nI 2 from rfl, pk_mul]
        refine r_iload_n C dX7_closes_232 rfl rfl ?_
        refine r_icmp_ge (tgt := 300) C dX7_closes_233 (by decide) (fun c233 => ?_) (fun c233 => absurd c233 ((fun q => q (nI_le (by omega) (by omega)))))
        exact j300 P _ _ (by omega) (hcl k P (by omega) h2k q1 q2)
      have v1 := q3 k (Nat.le_refl _) (by omega)
      have v2 := q3 (own - 1 - k) (by omega) (by omega)
      refine r_iconst (v := 2) C dX7_closes_228 (by decide) ?_
      refine r_iload C dX7_closes_229 rfl ?_
      refine r_imul C dX7_closes_231 ?_
      rw [show (2 : Int32) = nI 2 from rfl, pk_mul]
      refine r_iload_n C dX7_closes_232 rfl rfl ?_
      refine r_icmp_ge (tgt := 300) C dX7_closes_233 (by decide) (fun c233 => absurd c233 ((nI_ge (by omega) (by omega)))) (fun c233 => ?_)
      refine r_iload_n C dX7_closes_236 rfl rfl ?_
      refine r_bipush (v := 117) C dX7_closes_237 (by decide) ?_
      refine r_icmp_ne (tgt := 300) C dX7_closes_239 (by decide) (fun c239 => absurd c239 ((fun q => q (by rw [hk]; rfl)))) (fun c239 => ?_)
      refine r_aload_n C dX7_closes_242 rfl rfl ?_
      refine mg_made C dX7_closes_243 ?_
      refine r_iload_n C dX7_closes_246 rfl rfl ?_
      refine r_iload C dX7_closes_247 rfl ?_
      refine r_iadd C dX7_closes_249 ?_
      rw [nI_add]
      refine ml_made C dX7_closes_250 (vp_in_nI (show fm + k < 300 by omega) (by decide)) ?_
      rw [nI_clamp (by omega)]
      show V X 0 0 251 _ [.int (P (fm + k))] _
      rw [v1]
      refine r_istore C dX7_closes_251 (by decide) ?_
      refine r_aload_n C dX7_closes_253 rfl rfl ?_
      refine mg_made C dX7_closes_254 ?_
      refine r_iload_n C dX7_closes_257 rfl rfl ?_
      refine r_iload C dX7_closes_258 rfl ?_
      refine r_iadd C dX7_closes_260 ?_
      refine r_aload_n C dX7_closes_261 rfl rfl ?_
      refine mg_made C dX7_closes_262 ?_
      refine r_aload_n C dX7_closes_265 rfl rfl ?_
      refine mg_many C dX7_closes_266 ?_
      refine r_iconst (v := 1) C dX7_closes_269 (by decide) ?_
      refine r_isub C dX7_closes_270 ?_
      refine r_iload C dX7_closes_271 rfl ?_
      refine r_isub C dX7_closes_273 ?_
      show V X 0 0 274 _ [.int (M 12 - nI 1 - nI k), .ref _, .int (nI fm + nI k), .ref _] _
      rw [h12, pk_sub (by omega), pk_sub (by omega), nI_add, show fm + own - 1 - k = fm + (own - 1 - k) by omega]
      refine ml_made C dX7_closes_274 (vp_in_nI (show fm + (own - 1 - k) < 300 by omega) (by decide)) ?_
      rw [nI_clamp (by omega)]
      show V X 0 0 275 _ (.int (P (fm + (own - 1 - k))) :: _) _
      rw [v2]
      refine r_ineg C dX7_closes_275 ?_
      refine ms_made C dX7_closes_276 (vp_in_nI (show fm + k < 300 by omega) (by decide)) ?_
      rw [nI_clamp (by omega)]
      show V X 0 0 277 _ _ (mW G h ad _ (va_up (va_up R 11 P) 11 (upd P (fm + k) (-row (fm + (own - 1 - k))))))
      rw [up_up]
      refine r_aload_n C dX7_closes_277 rfl rfl ?_
      refine mg_made C dX7_closes_278 ?_
      refine r_aload_n C dX7_closes_281 rfl rfl ?_
      refine mg_many C dX7_closes_282 ?_
      refine r_iconst (v := 1) C dX7_closes_285 (by decide) ?_
      refine r_isub C dX7_closes_286 ?_
      refine r_iload C dX7_closes_287 rfl ?_
      refine r_isub C dX7_closes_289 ?_
      refine r_iload C dX7_closes_290 rfl ?_
      refine r_ineg C dX7_closes_292 ?_
      show V X 0 0 293 _ [.int _, .int (M 12 - nI 1 - nI k), .ref _] _
      rw [h12, pk_sub (by omega), pk_sub (by omega), show fm + own - 1 - k = fm + (own - 1 - k) by omega]
      refine ms_made C dX7_closes_293 (vp_in_nI (show fm + (own - 1 - k) < 300 by omega) (by decide)) ?_
      rw [nI_clamp (by omega)]
      show V X 0 0 294 _ _ (mW G h ad _ (va_up (va_up R 11 _) 11 (upd (upd P (fm + k) (-row (fm + (own - 1 - k)))) (fm + (own - 1 - k)) (-row (fm + k)))))
      rw [up_up]
      refine r_iinc (v := _ + 1) C dX7_closes_294 rfl (by rfl) (by decide) ?_
      rw [nI_1]
      refine r_goto (tgt := 228) C dX7_closes_297 (by decide) ?_
      exact ih (k + 1) _ _ (by omega) (by omega) (fun i hi => by rw [pk_un (by omega), pk_un (by omega)]; exact q1 i hi) (fun q hq hqo => by
        by_cases e1 : q = k
        · subst e1
          refine ⟨?_, pk_us⟩
          by_cases e2 : own - 1 - q = q
          · rw [e2, pk_us]
          · rw [pk_un (by omega), pk_us]
        · have w := q2 q (by omega) hqo
          rw [pk_un (by omega), pk_un (by omega), pk_un (by omega), pk_un (by omega)]
          exact w) (fun q w1 w2 => by rw [pk_un (by omega), pk_un (by omega)]; exact q3 q (by omega) (by omega))
  have kB : ¬ kind < 100 → kind ≠ 117 → ∀ (f k : Nat) (P : Nat → Int32) (o5 : Option Value), k + f = own → (∀ i, i < fm + k → P i = clR n kind row fm own i) → (∀ i, fm + k ≤ i → i < fm + own → P i = row i) → V X 0 0 152 [some (.ref h), some (.int (nI kind)), some (.int (nI fm)), some (.int (nI own)), some (.int (nI k)), o5] [] (mW G h ad (va_up (va_up M 15 (nI dq)) 9 (nI (a + 1))) (va_up R 11 P)) := by
    intro hk hk2 f
    have e117 : ¬ nI kind = 117 := fun q => hk2 ((nI_eq (b := 117) (by omega) (by decide)).mp q)
    induction f with
    | zero =>
      intro k P o5 hkf hP hP2
      refine r_iload C dX7_closes_152 rfl ?_
      refine r_iload_n C dX7_closes_154 rfl rfl ?_
      refine r_icmp_ge (tgt := 225) C dX7_closes_155 (by decide) (fun c155 => ?_) (fun c155 => absurd c155 ((fun q => q (nI_le (by omega) (by omega)))))
      refine r_iconst (v := 0) C dX7_closes_225 (by decide) ?_
      refine r_istore C dX7_closes_226 (by decide) ?_
      refine r_iconst (v := 2) C dX7_closes_228 (by decide) ?_
      refine r_iload C dX7_closes_229 rfl ?_
      refine r_imul C dX7_closes_231 ?_
      rw [show (2 : Int32) = nI 2 from rfl]
      refine r_iload_n C dX7_closes_232 rfl rfl ?_
      refine r_icmp_ge (tgt := 300) C dX7_closes_233 (by decide) (fun c233 => ?_) (fun c233 => ?_)
      · exact j300 P _ _ hk (fun i hi => hP i (by omega))
      · refine r_iload_n C dX7_closes_236 rfl rfl ?_
        refine r_bipush (v := 117) C dX7_closes_237 (by decide) ?_
        refine r_icmp_ne (tgt := 300) C dX7_closes_239 (by decide) (fun c239 => ?_) (fun c239 => absurd c239 ((fun q => e117 q)))
        exact j300 P _ _ hk (fun i hi => hP i (by omega))
    | succ f ih =>
      intro k P o5 hkf hP hP2
      have v1 := hP2 (fm + k) (Nat.le_refl _) (by omega)
      have hclv : clR n kind row fm own (fm + k) = if kind = 109 then -row (fm + k) else tnC n (row (fm + k)) := by
        unfold clR
        rw [if_neg (by omega), if_neg hk, if_neg hk2]
      have nx : ∀ v : Int32, v = clR n kind row fm own (fm + k) → V X 0 0 218 [some (.ref h), some (.int (nI kind)), some (.int (nI fm)), some (.int (nI own)), some (.int (nI k)), some (.int (row (fm + k)))] [.int v, .int (nI (fm + k)), .ref (ad 11)] (mW G h ad (va_up (va_up M 15 (nI dq)) 9 (nI (a + 1))) (va_up R 11 P)) := by
        intro v hv
        refine ms_made C dX7_closes_218 (vp_in_nI (show fm + k < 300 by omega) (by decide)) ?_
        rw [nI_clamp (by omega)]
        show V X 0 0 219 _ _ (mW G h ad _ (va_up (va_up R 11 P) 11 (upd P (fm + k) v)))
        rw [up_up]
        refine r_iinc (v := _ + 1) C dX7_closes_219 rfl (by rfl) (by decide) ?_
        rw [nI_1]
        refine r_goto (tgt := 152) C dX7_closes_222 (by decide) ?_
        exact ih (k + 1) _ _ (by omega) (fun i hi => by
          by_cases q : i = fm + k
          · subst q; rw [pk_us]; exact hv
          · rw [pk_un q]; exact hP i (by omega)) (fun i w1 w2 => by rw [pk_un (by omega)]; exact hP2 i (by omega) w2)
      refine r_iload C dX7_closes_152 rfl ?_
      refine r_iload_n C dX7_closes_154 rfl rfl ?_
      refine r_icmp_ge (tgt := 225) C dX7_closes_155 (by decide) (fun c155 => absurd c155 ((nI_ge (by omega) (by omega)))) (fun c155 => ?_)
      refine r_iload_n C dX7_closes_158 rfl rfl ?_
      refine r_bipush (v := 117) C dX7_closes_159 (by decide) ?_
      refine r_icmp_eq (tgt := 225) C dX7_closes_161 (by decide) (fun c161 => absurd c161 (e117)) (fun c161 => ?_)
      refine r_aload_n C dX7_closes_164 rfl rfl ?_
      refine mg_made C dX7_closes_165 ?_
      refine r_iload_n C dX7_closes_168 rfl rfl ?_
      refine r_iload C dX7_closes_169 rfl ?_
      refine r_iadd C dX7_closes_171 ?_
      rw [nI_add]
      refine ml_made C dX7_closes_172 (vp_in_nI (show fm + k < 300 by omega) (by decide)) ?_
      rw [nI_clamp (by omega)]
      show V X 0 0 173 _ [.int (P (fm + k))] _
      rw [v1]
      refine r_istore C dX7_closes_173 (by decide) ?_
      refine r_aload_n C dX7_closes_175 rfl rfl ?_
      refine mg_made C dX7_closes_176 ?_
      refine r_iload_n C dX7_closes_179 rfl rfl ?_
      refine r_iload C dX7_closes_180 rfl ?_
      refine r_iadd C dX7_closes_182 ?_
      rw [nI_add]
      refine r_iload_n C dX7_closes_183 rfl rfl ?_
      refine r_bipush (v := 109) C dX7_closes_184 (by decide) ?_
      refine r_icmp_ne (tgt := 195) C dX7_closes_186 (by decide) (fun c186 => ?_) (fun c186 => ?_)
      · have k109 : kind ≠ 109 := fun q => c186 (by rw [q]; rfl)
        refine r_iload C dX7_closes_195 rfl ?_
        refine r_if_le (tgt := 210) C dX7_closes_197 (by decide) (fun c197 => ?_) (fun c197 => ?_)
        · refine r_aload_n C dX7_closes_210 rfl rfl ?_
          refine mg_n C dX7_closes_211 ?_
          show V X 0 0 214 _ (.int (M 10) :: _) _
          rw [h10]
          refine r_ineg C dX7_closes_214 ?_
          refine r_iload C dX7_closes_215 rfl ?_
          refine r_isub C dX7_closes_217 ?_
          first
            | exact nx _ (by rw [hclv, if_pos k109])
            | exact nx _ (by rw [hclv, if_neg k109]; unfold tnC; rw [if_pos (Int32.not_le.mp c197)])
            | exact nx _ (by rw [hclv, if_neg k109]; unfold tnC; rw [if_neg (Int32.not_lt.mpr c197)])
        · refine r_aload_n C dX7_closes_200 rfl rfl ?_
          refine mg_n C dX7_closes_201 ?_
          show V X 0 0 204 _ (.int (M 10) :: _) _
          rw [h10]
          refine r_iload C dX7_closes_204 rfl ?_
          refine r_isub C dX7_closes_206 ?_
          refine r_goto (tgt := 218) C dX7_closes_207 (by decide) ?_
          first
            | exact nx _ (by rw [hclv, if_pos k109])
            | exact nx _ (by rw [hclv, if_neg k109]; unfold tnC; rw [if_pos (Int32.not_le.mp c197)])
            | exact nx _ (by rw [hclv, if_neg k109]; unfold tnC; rw [if_neg (Int32.not_lt.mpr c197)])
      · have k109 : kind = 109 := (nI_eq (b := 109) (by omega) (by decide)).mp c186
        refine r_iload C dX7_closes_189 rfl ?_
        refine r_ineg C dX7_closes_191 ?_
        refine r_goto (tgt := 218) C dX7_closes_192 (by decide) ?_
        first
          | exact nx _ (by rw [hclv, if_pos k109])
          | exact nx _ (by rw [hclv, if_neg k109]; unfold tnC; rw [if_pos (Int32.not_le.mp c197)])
          | exact nx _ (by rw [hclv, if_neg k109]; unfold tnC; rw [if_neg (Int32.not_lt.mpr c197)])
  have hcl0 : ∀ i, i < fm → R 11 i = clR n kind row fm own i := fun i hi => by
    unfold clR
    rw [if_pos hi]
    exact (hrow i (by omega)).1
  have hsame : va_up R 11 (R 11) = R := up_same rfl
  have hd1 : vp_in (M 15 - 1) 9 := by rw [h15, e9]; exact vp_in_nI (show dq < 9 by omega) (by decide)
  have hcl9 : (M 15 - 1).toNatClampNeg = dq := by rw [h15, e9, nI_clamp (by omega)]
  have j75 : (kind < 100 → fm + own * kind ≤ 300) → V X 0 0 75 [some (.ref h), some (.int (nI kind)), some (.int (nI fm)), some (.int (nI own)), none, none] [] (mW G h ad M R) := by
    intro hle
    refine r_aload_n C dX7_closes_75 rfl rfl ?_
    refine r_dup C dX7_closes_76 rfl ?_
    refine mg_deep C dX7_closes_77 ?_
    refine r_iconst (v := 1) C dX7_closes_80 (by decide) ?_
    refine r_isub C dX7_closes_81 ?_
    rw [h15, e9]
    refine mp_deep C dX7_closes_82 ?_
    refine r_aload_n C dX7_closes_85 rfl rfl ?_
    refine r_dup C dX7_closes_86 rfl ?_
    refine mg_at C dX7_closes_87 ?_
    refine r_iconst (v := 1) C dX7_closes_90 (by decide) ?_
    refine r_iadd C dX7_closes_91 ?_
    show V X 0 0 92 _ [.int (M 9 + 1), .ref h] _
    rw [h9, nI_1]
    refine mp_at C dX7_closes_92 ?_
    refine r_iload_n C dX7_closes_95 rfl rfl ?_
    refine r_bipush (v := 100) C dX7_closes_96 (by decide) ?_
    refine r_icmp_ge (tgt := 149) C dX7_closes_98 (by decide) (fun c98 => ?_) (fun c98 => ?_)
    · rw [c100, nI_leI (by omega) (by omega)] at c98
      refine r_iconst (v := 0) C dX7_closes_149 (by decide) ?_
      refine r_istore C dX7_closes_150 (by decide) ?_
      exact (by
        by_cases w : kind = 117
        · have q := kC w (own + 1) 0 (R 11) none (by omega) (by omega) (fun i hi => (hrow i (by omega)).1) (fun q hq => by omega) (fun q _ hq => (hrow _ (by omega)).1)
          rw [hsame] at q
          have e117 : nI kind = 117 := by rw [w]; rfl
          by_cases o0 : own = 0
          · refine r_iload C dX7_closes_152 rfl ?_
            refine r_iload_n C dX7_closes_154 rfl rfl ?_
            refine r_icmp_ge (tgt := 225) C dX7_closes_155 (by decide) (fun _ => ?_) (fun c => absurd (show nI own ≤ 0 by rw [o0]; decide) c)
            refine r_iconst (v := 0) C dX7_closes_225 (by decide) ?_
            refine r_istore C dX7_closes_226 (by decide) ?_
            exact q
          · refine r_iload C dX7_closes_152 rfl ?_
            refine r_iload_n C dX7_closes_154 rfl rfl ?_
            refine r_icmp_ge (tgt := 225) C dX7_closes_155 (by decide) (fun c => absurd c (nI_nle (by omega) (by omega))) (fun _ => ?_)
            refine r_iload_n C dX7_closes_158 rfl rfl ?_
            refine r_bipush (v := 117) C dX7_closes_159 (by decide) ?_
            refine r_icmp_eq (tgt := 225) C dX7_closes_161 (by decide) (fun _ => ?_) (fun c => absurd e117 c)
            refine r_iconst (v := 0) C dX7_closes_225 (by decide) ?_
            refine r_istore C dX7_closes_226 (by decide) ?_
            exact q
        · have q := kB (by omega) w own 0 (R 11) none (by omega) (fun i hi => hcl0 i (by omega)) (fun i _ hi => (hrow i hi).1)
          rw [hsame] at q
          exact q)
    · rw [c100, nI_leI (by omega) (by omega)] at c98
      refine r_iload_n C dX7_closes_101 rfl rfl ?_
      refine r_istore C dX7_closes_102 (by decide) ?_
      exact (by
        have q := kA (by omega) (hle (by omega)) (own * kind - own) own (R 11) (by
          have : 1 ≤ kind := by rcases hb2 with q | q | q | q <;> omega
          have := Nat.mul_le_mul (Nat.le_refl own) this
          omega) (Nat.le_refl _) (fun i hi => by
          by_cases w : i < fm
          · exact hcl0 i w
          · unfold clR
            rw [if_neg w, if_pos (by omega), Nat.mod_eq_of_lt (by omega), show fm + (i - fm) = i by omega]
            exact (hrow i hi).1)
        rw [hsame] at q
        exact q)
  refine r_aload_n C dX7_closes_0 rfl rfl ?_
  refine mg_deep C dX7_closes_1 ?_
  rw [h15]
  refine r_if_ne (tgt := 17) C dX7_closes_4 (by decide) (fun c4 => ?_) (fun c4 => absurd c4 ((nI_ne0 (by omega) (by omega))))
  refine r_aload_n C dX7_closes_17 rfl rfl ?_
  refine mg_openKind C dX7_closes_18 ?_
  refine r_aload_n C dX7_closes_21 rfl rfl ?_
  refine mg_deep C dX7_closes_22 ?_
  refine r_iconst (v := 1) C dX7_closes_25 (by decide) ?_
  refine r_isub C dX7_closes_26 ?_
  refine ml_openKind C dX7_closes_27 (hd1) ?_
  rw [hcl9, hb1]
  refine r_istore_n C dX7_closes_28 rfl (by decide) ?_
  refine r_aload_n C dX7_closes_29 rfl rfl ?_
  refine mg_openFrom C dX7_closes_30 ?_
  refine r_aload_n C dX7_closes_33 rfl rfl ?_
  refine mg_deep C dX7_closes_34 ?_
  refine r_iconst (v := 1) C dX7_closes_37 (by decide) ?_
  refine r_isub C dX7_closes_38 ?_
  refine ml_openFrom C dX7_closes_39 (hd1) ?_
  rw [hcl9, hb3]
  refine r_istore_n C dX7_closes_40 rfl (by decide) ?_
  refine r_aload_n C dX7_closes_41 rfl rfl ?_
  refine mg_many C dX7_closes_42 ?_
  refine r_iload_n C dX7_closes_45 rfl rfl ?_
  refine r_isub C dX7_closes_46 ?_
  show V X 0 0 47 _ [.int (M 12 - nI fm)] _
  rw [h12, pk_sub (by omega), Nat.add_sub_cancel_left]
  refine r_istore_n C dX7_closes_47 rfl (by decide) ?_
  refine r_iload_n C dX7_closes_48 rfl rfl ?_
  refine r_bipush (v := 100) C dX7_closes_49 (by decide) ?_
  refine r_icmp_ge (tgt := 75) C dX7_closes_51 (by decide) (fun c51 => ?_) (fun c51 => ?_)
  · first
      | exact j75 (fun _ => by
          have hb : own * kind ≤ 300 * 50 := Nat.mul_le_mul (by omega) (by rcases hb2 with q | q | q | q <;> omega)
          rw [nI_leI (by omega) (by omega)] at c62
          exact c62)
      | exact j75 (fun w => by rw [c100, nI_leI (by omega) (by omega)] at c51; omega)
  · rw [c100, nI_leI (by omega) (by omega)] at c51
    refine r_iload_n C dX7_closes_54 rfl rfl ?_
    refine r_iload_n C dX7_closes_55 rfl rfl ?_
    refine r_iload_n C dX7_closes_56 rfl rfl ?_
    refine r_imul C dX7_closes_57 ?_
    refine r_iadd C dX7_closes_58 ?_
    refine r_sipush (v := 300) C dX7_closes_59 (by decide) ?_
    rw [pk_mul, nI_add, show (300 : Int32) = nI 300 from rfl]
    refine r_icmp_le (tgt := 75) C dX7_closes_62 (by decide) (fun c62 => ?_) (fun c62 => ?_)
    · first
        | exact j75 (fun _ => by
            have hb : own * kind ≤ 300 * 50 := Nat.mul_le_mul (by omega) (by rcases hb2 with q | q | q | q <;> omega)
            rw [nI_leI (by omega) (by omega)] at c62
            exact c62)
        | exact j75 (fun w => by rw [c100, nI_leI (by omega) (by omega)] at c51; omega)
    · have hbo : own * kind ≤ 300 * 50 := Nat.mul_le_mul (by omega) (by rcases hb2 with q | q | q | q <;> omega)
      rw [nI_leI (by omega) (by omega)] at c62
      refine r_aload_n C dX7_closes_65 rfl rfl ?_
      refine r_iconst (v := 2) C dX7_closes_66 (by decide) ?_
      refine r_aload_n C dX7_closes_67 rfl rfl ?_
      refine mg_at C dX7_closes_68 ?_
      refine m_calli C (c_wrong G h ad M R 2 (M 9)) kM_wrong dX7_closes_71 rfl (by decide) (by decide) (by decide) (by decide) rfl rfl (fun r M1 R1 hq => ?_)
      obtain ⟨rfl, rfl, rfl⟩ := hq
      rw [if_pos h3]
      exact hR _ _ _ _ _ rfl dX7_closes_74 ⟨(RdM.rf.up (by omega)).up (by omega), RdR.rf, Or.inr (Or.inl ⟨by omega, by omega, by omega, rfl, rfl, h9, h8, h9⟩)⟩
end M23
end
section
/-! the reference: pattern(), that copies a pattern into the row -/
def RdF (M' : Mt) (e : Nat) (r : Int32) (kind : Int32) (place : Nat) : Prop := r = 0 ∧ M' 3 = kind ∧ M' 4 = nI place ∧ M' 8 = nI e ∧ ∃ a'', a'' ≤ e ∧ M' 9 = nI a''
def apR (row : Nat → Int32) (mny : Nat) (c : Nat → Int32) : Nat → Int32 := fun i => if i < mny then row i else c (i - mny)
/-- a place's move alone -/
theorem RdS.at {M : Mt} {R : Rt} {e n a mny dp : Nat} {row : Nat → Int32} {kd fr : Nat → Nat} (h : RdS M R e n a mny dp row kd fr) {M' : Mt} {a' : Nat} (hM : ∀ i, i ≠ 9 → i ≠ 16 → i ≠ 17 → M' i = M i) (h9 : M' 9 = nI a') (ha : a' ≤ e) : RdS M' R e n a' mny dp row kd fr := by
  obtain ⟨w8, w9, w10, w12, w15, w3, w4, x1, x2, x3, x4, x5, x6, x7, x8⟩ := h
  exact ⟨by rw [hM 8 (by decide) (by decide) (by decide)]; exact w8, h9, by rw [hM 10 (by decide) (by decide) (by decide)]; exact w10, by rw [hM 12 (by decide) (by decide) (by decide)]; exact w12, by rw [hM 15 (by decide) (by decide) (by decide)]; exact w15, by rw [hM 3 (by decide) (by decide) (by decide)]; exact w3, by rw [hM 4 (by decide) (by decide) (by decide)]; exact w4, x1, ha, x3, x4, x5, x6, x7, x8⟩
section M24
variable (G : Gx) (h : Nat) (ad : Nat → Nat) (M : Mt) (R : Rt)
theorem c_pat {e n a mny dp : Nat} {row : Nat → Int32} {kd fr : Nat → Nat} (hP : PatsOK R) (hS : RdS M R e n a mny dp row kd fr) (hae : a < e) {a1 dg v : Nat} (ha1 : a1 = skipTo (R 1) e (a + 1)) (hdg : dg = dgs (R 1) e a1) (hv : v = rvF (R 1) a1 dg) : mI G h ad yX7_pattern cX7_pattern 3 .boolean 2 [] M R (fun r M' R' => RdM M M' ∧ RdR R R' ∧ ((dg = 0 ∧ RdF M' e r 1 a1) ∨ (0 < dg ∧ (7 < v ∨ 2 < dg) ∧ RdF M' e r 2 a1) ∨ (0 < dg ∧ v ≤ 7 ∧ dg ≤ 2 ∧ R 5 v ≠ nI n ∧ RdF M' e r 3 a1) ∨ (∃ z, 0 < dg ∧ v ≤ 7 ∧ dg ≤ 2 ∧ PatOK R v n z ∧ 300 < mny + z ∧ RdF M' e r 2 a1) ∨ (∃ z, 0 < dg ∧ v ≤ 7 ∧ dg ≤ 2 ∧ PatOK R v n z ∧ mny + z ≤ 300 ∧ r = 1 ∧ RdS M' R' e n (a1 + dg) (mny + z) dp (apR row mny (rowOf R v)) kd fr))) := by
  refine mI.intro (by decide) (Nat.le_of_ble_eq_true rfl) (cat1 (xs := [])) fun X C hR => ?_
  obtain ⟨h8, h9, h10, h12, h15, h3, h4, he, ha, hn2, hn7, hm3, hd8, hrow, hbr⟩ := id hS
  have hs1 := skipTo_le (t := R 1) (e := e) (a := a + 1) (by omega)
  rw [← ha1] at hs1
  have hdl := dgs_le (t := R 1) (e := e) (e - a1) a1 hs1.2 (Nat.le_refl _)
  rw [← hdg] at hdl
  have hM1 : RdM M (va_up (va_up M 9 (nI (a + 1))) 9 (nI a1)) := (RdM.rf.up (by omega)).up (by omega)
  refine r_aload_n C dX7_pattern_0 rfl rfl ?_
  refine r_dup C dX7_pattern_1 rfl ?_
  refine mg_at C dX7_pattern_2 ?_
  refine r_iconst (v := 1) C dX7_pattern_5 (by decide) ?_
  refine r_iadd C dX7_pattern_6 ?_
  rw [h9, nI_1]
  refine mp_at C dX7_pattern_7 ?_
  refine r_aload_n C dX7_pattern_10 rfl rfl ?_
  refine m_callv C (c_skip G h ad (va_up M 9 (nI (a + 1))) R (a := a + 1) (e := e) rfl h8 he (by omega)) kM_skip dX7_pattern_11 rfl (by decide) (by decide) (by decide) (by decide) rfl rfl (fun M1 R1 hq => ?_)
  obtain ⟨rfl, rfl⟩ := hq
  rw [← ha1, up_up]
  refine r_aload_n C dX7_pattern_14 rfl rfl ?_
  refine m_calli C (c_now G h ad (va_up M 9 (nI a1)) R1 (a := a1) (e := e) rfl h8 he hs1.2) kM_now dX7_pattern_15 rfl (by decide) (by decide) (by decide) (by decide) rfl rfl (fun r M2 R2 hq => ?_)
  obtain ⟨rfl, rfl, rfl⟩ := hq
  refine m_isDigit C dX7_pattern_18 (by decide) (by decide) (by decide) (by decide) ?_
  skip
  by_cases hno : isDg (R2 1) e a1
  rotate_left
  · have hd0 : dg = 0 := by rw [hdg]; exact dgs_stop hno
    have hr0 : (if 48 ≤ (if a1 < e then R2 1 a1 else 0) ∧ (if a1 < e then R2 1 a1 else 0) ≤ 57 then (1 : Int32) else 0) = 0 := by
      by_cases w : a1 < e
      · rw [if_pos w, if_neg (fun q => hno ⟨w, q⟩)]
      · rw [if_neg w, if_neg (by decide)]
    rw [hr0]
    refine r_if_ne (tgt := 34) C dX7_pattern_21 (by decide) (fun c21 => absurd c21 ((fun q => q rfl))) (fun c21 => ?_)
    refine r_aload_n C dX7_pattern_24 rfl rfl ?_
    refine r_iconst (v := 1) C dX7_pattern_25 (by decide) ?_
    refine r_aload_n C dX7_pattern_26 rfl rfl ?_
    refine mg_at C dX7_pattern_27 ?_
    refine m_calli C (c_wrong G h ad (va_up M 9 (nI a1)) R2 1 (nI a1)) kM_wrong dX7_pattern_30 rfl (by decide) (by decide) (by decide) (by decide) rfl rfl (fun r M3 R3 hq => ?_)
    obtain ⟨rfl, rfl, rfl⟩ := hq
    rw [if_pos (show va_up M 9 (nI a1) 3 = 0 from h3)]
    exact hR _ _ _ _ _ rfl dX7_pattern_33 ⟨((RdM.rf.up (by omega)).up (by omega)).up (by omega), RdR.rf, Or.inl ⟨hd0, rfl, rfl, rfl, h8, a1, hs1.2, rfl⟩⟩
  have hlt := hno.1
  rw [if_pos hlt, if_pos hno.2]
  have hdp : 0 < dg := by rw [hdg, dgs_go hno]; omega
  have hvl : v ≤ 10009 := by
    rw [hv]
    refine rvF_le dg (fun q hq => ?_)
    have hq2 : isDg (R2 1) e (a1 + q) := by
      have gen : ∀ (f b : Nat), e - b ≤ f → ∀ q, q < dgs (R2 1) e b → isDg (R2 1) e (b + q) := by
        intro f
        induction f with
        | zero => intro b hb q hq; rw [dgs_stop (fun w => by have := w.1; omega)] at hq; omega
        | succ f ih =>
          intro b hb q hq
          by_cases w : isDg (R2 1) e b
          · rw [dgs_go w] at hq
            by_cases q0 : q = 0
            · subst q0; exact w
            · have := w.1
              have := ih (b + 1) (by omega) (q - 1) (by omega)
              rw [show b + 1 + (q - 1) = b + q by omega] at this
              exact this
          · rw [dgs_stop w] at hq; omega
      exact gen e a1 (by omega) q (by rw [← hdg]; exact hq)
    obtain ⟨_, _, w2, _, w4⟩ := dg_cl hq2.2.1 hq2.2.2
    omega
  -- behind the number
  have j39 : ∀ M3 : Mt, M3 = va_up (va_up (va_up (va_up M 9 (nI a1)) 16 (nI a1)) 17 (nI dg)) 9 (nI (a1 + dg)) → V X 0 0 39 [some (.ref h), some (.int (nI v)), none] [] (mW G h ad M3 R2) := by
    intro M3 hM3
    have g3 : M3 3 = 0 := by rw [hM3]; exact h3
    have g16 : M3 16 = nI a1 := by rw [hM3]; rfl
    have g17 : M3 17 = nI dg := by rw [hM3]; rfl
    have g8 : M3 8 = nI e := by rw [hM3]; exact h8
    have g9 : M3 9 = nI (a1 + dg) := by rw [hM3]; rfl
    have g10 : M3 10 = nI n := by rw [hM3]; exact h10
    have g12 : M3 12 = nI mny := by rw [hM3]; exact h12
    have gM : RdM M M3 := by rw [hM3]; exact (((RdM.rf.up (by omega)).up (by omega)).up (by omega)).up (by omega)
    have wr : ∀ kind : Int32, RdM M (va_up (va_up M3 3 kind) 4 (nI a1)) ∧ RdF (va_up (va_up M3 3 kind) 4 (nI a1)) e 0 kind a1 := fun kind => ⟨(gM.up (by omega)).up (by omega), rfl, rfl, rfl, g8, a1 + dg, hdl, g9⟩
    have c7 : (7 : Int32) = nI 7 := rfl
    have c2 : (2 : Int32) = nI 2 := rfl
    have j53 : (7 < v ∨ 2 < dg) → V X 0 0 53 [some (.ref h), some (.int (nI v)), none] [] (mW G h ad M3 R2) := by
      intro hor
      refine r_aload_n C dX7_pattern_53 rfl rfl ?_
      refine r_iconst (v := 2) C dX7_pattern_54 (by decide) ?_
      refine r_aload_n C dX7_pattern_55 rfl rfl ?_
      refine mg_numberAt C dX7_pattern_56 ?_
      rw [g16]
      refine m_calli C (c_wrong G h ad M3 R2 2 (nI a1)) kM_wrong dX7_pattern_59 rfl (by decide) (by decide) (by decide) (by decide) rfl rfl (fun r M4 R4 hq => ?_)
      obtain ⟨rfl, rfl, rfl⟩ := hq
      rw [if_pos g3]
      exact hR _ _ _ _ _ rfl dX7_pattern_62 ⟨(wr 2).1, RdR.rf, Or.inr (Or.inl ⟨hdp, hor, (wr 2).2⟩)⟩
    have j63 : v ≤ 7 → dg ≤ 2 → V X 0 0 63 [some (.ref h), some (.int (nI v)), none] [] (mW G h ad M3 R2) := by
      intro hv7 hd2
      have hbv : vp_in (nI v) 8 := vp_in_nI (by omega) (by decide)
      by_cases hst : R2 5 v = nI n
      rotate_left
      · refine r_aload_n C dX7_pattern_63 rfl rfl ?_
        refine mg_straws C dX7_pattern_64 ?_
        refine r_iload_n C dX7_pattern_67 rfl rfl ?_
        refine ml_straws C dX7_pattern_68 (hbv) ?_
        rw [nI_clamp (by omega)]
        refine r_aload_n C dX7_pattern_69 rfl rfl ?_
        refine mg_n C dX7_pattern_70 ?_
        rw [g10]
        refine r_icmp_eq (tgt := 86) C dX7_pattern_73 (by decide) (fun c73 => absurd c73 (hst)) (fun c73 => ?_)
        refine r_aload_n C dX7_pattern_76 rfl rfl ?_
        refine r_iconst (v := 3) C dX7_pattern_77 (by decide) ?_
        refine r_aload_n C dX7_pattern_78 rfl rfl ?_
        refine mg_numberAt C dX7_pattern_79 ?_
        rw [g16]
        refine m_calli C (c_wrong G h ad M3 R2 3 (nI a1)) kM_wrong dX7_pattern_82 rfl (by decide) (by decide) (by decide) (by decide) rfl rfl (fun r M4 R4 hq => ?_)
        obtain ⟨rfl, rfl, rfl⟩ := hq
        rw [if_pos g3]
        exact hR _ _ _ _ _ rfl dX7_pattern_85 ⟨(wr 3).1, RdR.rf, Or.inr (Or.inr (Or.inl ⟨hdp, hv7, hd2, hst, (wr 3).2⟩))⟩
      obtain ⟨s', z, hp'⟩ := hP v (by omega) (by rw [hst]; exact pos_nI (by omega) (by omega))
      have es : s' = n := by
        have := hp'.1.symm.trans hst
        rw [nI_eq (by have := hp'.2.2.1; omega) (by omega)] at this
        exact this
      subst es
      obtain ⟨p5, p2, p7, pz, pz3, pok⟩ := id hp'
      have j113 : mny + z ≤ 300 → V X 0 0 113 [some (.ref h), some (.int (nI v)), none] [] (mW G h ad M3 R2) := by
        intro hle
        have key : ∀ (f i : Nat) (P : Nat → Int32), i + f = z → (∀ q, q < mny → P q = R2 11 q) → (∀ q, q < i → P (mny + q) = rowOf R2 v q) → V X 0 0 115 [some (.ref h), some (.int (nI v)), some (.int (nI i))] [] (mW G h ad M3 (va_up R2 11 P)) := by
          intro f
          induction f with
          | zero =>
            intro i P hif q1 q2
            have hiz : i = z := by omega
            subst hiz
            refine r_iload_n C dX7_pattern_115 rfl rfl ?_
            refine r_aload_n C dX7_pattern_116 rfl rfl ?_
            refine mg_sizes C dX7_pattern_117 ?_
            refine r_iload_n C dX7_pattern_120 rfl rfl ?_
            refine ml_sizes C dX7_pattern_121 (hbv) ?_
            rw [nI_clamp (by omega), show va_up R2 11 P 6 v = nI i from pz]
            refine r_icmp_ge (tgt := 154) C dX7_pattern_122 (by decide) (fun c122 => ?_) (fun c122 => absurd c122 ((fun q => q (nI_le (by omega) (by omega)))))
            refine r_aload_n C dX7_pattern_154 rfl rfl ?_
            refine r_dup C dX7_pattern_155 rfl ?_
            refine mg_many C dX7_pattern_156 ?_
            refine r_aload_n C dX7_pattern_159 rfl rfl ?_
            refine mg_sizes C dX7_pattern_160 ?_
            refine r_iload_n C dX7_pattern_163 rfl rfl ?_
            refine ml_sizes C dX7_pattern_164 (hbv) ?_
            rw [nI_clamp (by omega), show va_up R2 11 P 6 v = nI i from pz, g12]
            refine r_iadd C dX7_pattern_165 ?_
            rw [nI_add]
            refine mp_many C dX7_pattern_166 ?_
            refine r_iconst (v := 1) C dX7_pattern_169 (by decide) ?_
            exact hR _ _ _ _ _ rfl dX7_pattern_170 ⟨gM.up (by omega), RdR.rf.up (by omega), Or.inr (Or.inr (Or.inr (Or.inr ⟨i, hdp, hv7, hd2, hp', hle, rfl, g8, g9, g10, rfl, by rw [hM3]; exact h15, g3, by rw [hM3]; exact h4, he, hdl, hn2, hn7, hle, hd8, fun q hq => by
              show P q = apR row mny (rowOf R2 v) q ∧ okC s' (apR row mny (rowOf R2 v) q)
              unfold apR
              by_cases w : q < mny
              · rw [if_pos w, q1 q w]; exact hrow q w
              · rw [if_neg w]
                have := q2 (q - mny) (by omega)
                rw [show mny + (q - mny) = q by omega] at this
                exact ⟨this, pok _ (by omega)⟩, fun q hq => by
              obtain ⟨w1, w2, w3, w4⟩ := hbr q hq
              exact ⟨w1, w2, w3, by omega⟩⟩)))⟩
          | succ f ih =>
            intro i P hif q1 q2
            refine r_iload_n C dX7_pattern_115 rfl rfl ?_
            refine r_aload_n C dX7_pattern_116 rfl rfl ?_
            refine mg_sizes C dX7_pattern_117 ?_
            refine r_iload_n C dX7_pattern_120 rfl rfl ?_
            refine ml_sizes C dX7_pattern_121 (hbv) ?_
            rw [nI_clamp (by omega), show va_up R2 11 P 6 v = nI z from pz]
            refine r_icmp_ge (tgt := 154) C dX7_pattern_122 (by decide) (fun c122 => absurd c122 ((nI_ge (by omega) (by omega)))) (fun c122 => ?_)
            refine r_aload_n C dX7_pattern_125 rfl rfl ?_
            refine mg_made C dX7_pattern_126 ?_
            refine r_aload_n C dX7_pattern_129 rfl rfl ?_
            refine mg_many C dX7_pattern_130 ?_
            refine r_iload_n C dX7_pattern_133 rfl rfl ?_
            refine r_iadd C dX7_pattern_134 ?_
            refine r_aload_n C dX7_pattern_135 rfl rfl ?_
            refine mg_rows C dX7_pattern_136 ?_
            refine r_sipush (v := 300) C dX7_pattern_139 (by decide) ?_
            refine r_iload_n C dX7_pattern_142 rfl rfl ?_
            refine r_imul C dX7_pattern_143 ?_
            refine r_iload_n C dX7_pattern_144 rfl rfl ?_
            refine r_iadd C dX7_pattern_145 ?_
            show V X 0 0 146 _ [.int (nI 300 * nI v + nI i), .ref (ad 7), .int (M3 12 + nI i), .ref (ad 11)] _
            rw [pk_mul, nI_add, g12, nI_add]
            refine ml_rows C dX7_pattern_146 (vp_in_nI (show 300 * v + i < 2400 by omega) (by decide)) ?_
            rw [nI_clamp (by omega)]
            show V X 0 0 147 _ (.int (rowOf R2 v i) :: _) _
            refine ms_made C dX7_pattern_147 (vp_in_nI (show mny + i < 300 by omega) (by decide)) ?_
            rw [nI_clamp (by omega)]
            show V X 0 0 148 _ _ (mW G h ad _ (va_up (va_up R2 11 P) 11 (upd P (mny + i) (rowOf R2 v i))))
            rw [up_up]
            refine r_iinc (v := _ + 1) C dX7_pattern_148 rfl (by rfl) (by decide) ?_
            rw [nI_1]
            refine r_goto (tgt := 115) C dX7_pattern_151 (by decide) ?_
            exact ih (i + 1) _ (by omega) (fun q hq => by rw [pk_un (by omega)]; exact q1 q hq) (fun q hq => by
              by_cases w : q = i
              · subst w; exact pk_us
              · rw [pk_un (by omega)]; exact q2 q (by omega))
        have q0 := key z 0 (R2 11) (by omega) (fun q _ => rfl) (fun q hq => by omega)
        rw [up_same rfl] at q0
        refine r_iconst (v := 0) C dX7_pattern_113 (by decide) ?_
        refine r_istore_n C dX7_pattern_114 rfl (by decide) ?_
        exact q0
      refine r_aload_n C dX7_pattern_63 rfl rfl ?_
      refine mg_straws C dX7_pattern_64 ?_
      refine r_iload_n C dX7_pattern_67 rfl rfl ?_
      refine ml_straws C dX7_pattern_68 (hbv) ?_
      rw [nI_clamp (by omega)]
      refine r_aload_n C dX7_pattern_69 rfl rfl ?_
      refine mg_n C dX7_pattern_70 ?_
      rw [g10]
      refine r_icmp_eq (tgt := 86) C dX7_pattern_73 (by decide) (fun c73 => ?_) (fun c73 => absurd c73 ((fun q => q hst)))
      refine r_aload_n C dX7_pattern_86 rfl rfl ?_
      refine mg_many C dX7_pattern_87 ?_
      refine r_aload_n C dX7_pattern_90 rfl rfl ?_
      refine mg_sizes C dX7_pattern_91 ?_
      refine r_iload_n C dX7_pattern_94 rfl rfl ?_
      refine ml_sizes C dX7_pattern_95 (hbv) ?_
      rw [nI_clamp (by omega), pz, g12]
      refine r_iadd C dX7_pattern_96 ?_
      rw [nI_add]
      refine r_sipush (v := 300) C dX7_pattern_97 (by decide) ?_
      rw [show (300 : Int32) = nI 300 from rfl]
      refine r_icmp_le (tgt := 113) C dX7_pattern_100 (by decide) (fun c100 => ?_) (fun c100 => ?_)
      · exact j113 (by rw [nI_leI (by omega) (by omega)] at c100; exact c100)
      · rw [nI_leI (by omega) (by omega)] at c100
        refine r_aload_n C dX7_pattern_103 rfl rfl ?_
        refine r_iconst (v := 2) C dX7_pattern_104 (by decide) ?_
        refine r_aload_n C dX7_pattern_105 rfl rfl ?_
        refine mg_numberAt C dX7_pattern_106 ?_
        rw [g16]
        refine m_calli C (c_wrong G h ad M3 R2 2 (nI a1)) kM_wrong dX7_pattern_109 rfl (by decide) (by decide) (by decide) (by decide) rfl rfl (fun r M4 R4 hq => ?_)
        obtain ⟨rfl, rfl, rfl⟩ := hq
        rw [if_pos g3]
        exact hR _ _ _ _ _ rfl dX7_pattern_112 ⟨(wr 2).1, RdR.rf, Or.inr (Or.inr (Or.inr (Or.inl ⟨z, hdp, hv7, hd2, hp', by omega, (wr 2).2⟩)))⟩
    refine r_iload_n C dX7_pattern_39 rfl rfl ?_
    refine r_bipush (v := 7) C dX7_pattern_40 (by decide) ?_
    refine r_icmp_gt (tgt := 53) C dX7_pattern_42 (by decide) (fun c42 => ?_) (fun c42 => ?_)
    · first
        | exact j53 (Or.inl (by rw [c7, nI_ltI (by omega) (by omega)] at c42; omega))
        | exact j53 (Or.inr (by rw [nI_leI (by omega) (by omega)] at c50; omega))
    · rw [c7, nI_ltI (by omega) (by omega)] at c42
      refine r_aload_n C dX7_pattern_45 rfl rfl ?_
      refine mg_digits C dX7_pattern_46 ?_
      refine r_iconst (v := 2) C dX7_pattern_49 (by decide) ?_
      rw [g17, c2]
      refine r_icmp_le (tgt := 63) C dX7_pattern_50 (by decide) (fun c50 => ?_) (fun c50 => ?_)
      · exact j63 (by omega) (by rw [nI_leI (by omega) (by omega)] at c50; omega)
      · first
          | exact j53 (Or.inl (by rw [c7, nI_ltI (by omega) (by omega)] at c42; omega))
          | exact j53 (Or.inr (by rw [nI_leI (by omega) (by omega)] at c50; omega))
  refine r_if_ne (tgt := 34) C dX7_pattern_21 (by decide) (fun c21 => ?_) (fun c21 => absurd c21 ((by decide)))
  refine r_aload_n C dX7_pattern_34 rfl rfl ?_
  refine m_calli C (c_number G h ad (va_up M 9 (nI a1)) R2 (a := a1) (e := e) rfl h8 he hs1.2) kM_number dX7_pattern_35 rfl (by decide) (by decide) (by decide) (by decide) rfl rfl (fun r M3 R3 hq => ?_)
  obtain ⟨rfl, hM3, rfl⟩ := hq
  rw [← hdg] at hM3 ⊢
  rw [← hv]
  refine r_istore_n C dX7_pattern_38 rfl (by decide) ?_
  exact j39 M3 hM3
end M24
end
