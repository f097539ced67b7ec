section
-- ===== PART A: goes FIRST, ahead of the names: the tables' words, and 'selects' of the private methods out of them =====
/-- a private method of a class that the tables say can be made, by its rows of tables_1 -/
def lw_okq (q : MethodName × Nat) : Prop := (q.1.cls ≠ "java/lang/invoke/MethodHandle" ∧ q.1.cls ≠ "java/lang/invoke/VarHandle") ∧ Cond.instantiable q.1.cls q.2 ∈ tables_1 ∧ Cond.privateMethod q.1 ∈ tables_1 ∧ Cond.instanceMethod q.1 ∈ tables_1
theorem lw_p0 : lw_okq (⟨"TimedThreads$TimedThread", "attempt", "(ILTimedThreads$SharedMemory;)LTimedThreads$Outcome;"⟩, 12) := ⟨⟨by decide +kernel, by decide +kernel⟩, List.mem_of_getElem? (i := 57) (by decide +kernel), List.mem_of_getElem? (i := 306) (by decide +kernel), List.mem_of_getElem? (i := 307) (by decide +kernel)⟩
theorem lw_p1 : lw_okq (⟨"TimedThreads$TimedThread", "loadUpper", "(I)LTimedThreads$Outcome;"⟩, 12) := ⟨⟨by decide +kernel, by decide +kernel⟩, List.mem_of_getElem? (i := 57) (by decide +kernel), List.mem_of_getElem? (i := 321) (by decide +kernel), List.mem_of_getElem? (i := 322) (by decide +kernel)⟩
theorem lw_p2 : lw_okq (⟨"TimedThreads$TimedThread", "setRegister", "(II)V"⟩, 12) := ⟨⟨by decide +kernel, by decide +kernel⟩, List.mem_of_getElem? (i := 57) (by decide +kernel), List.mem_of_getElem? (i := 334) (by decide +kernel), List.mem_of_getElem? (i := 335) (by decide +kernel)⟩
theorem lw_p3 : lw_okq (⟨"TimedThreads$TimedThread", "jump", "(I)LTimedThreads$Outcome;"⟩, 12) := ⟨⟨by decide +kernel, by decide +kernel⟩, List.mem_of_getElem? (i := 57) (by decide +kernel), List.mem_of_getElem? (i := 340) (by decide +kernel), List.mem_of_getElem? (i := 341) (by decide +kernel)⟩
theorem lw_p4 : lw_okq (⟨"TimedThreads$TimedThread", "jumpToRegister", "(I)LTimedThreads$Outcome;"⟩, 12) := ⟨⟨by decide +kernel, by decide +kernel⟩, List.mem_of_getElem? (i := 57) (by decide +kernel), List.mem_of_getElem? (i := 348) (by decide +kernel), List.mem_of_getElem? (i := 349) (by decide +kernel)⟩
theorem lw_p5 : lw_okq (⟨"TimedThreads$TimedThread", "branch", "(I)LTimedThreads$Outcome;"⟩, 12) := ⟨⟨by decide +kernel, by decide +kernel⟩, List.mem_of_getElem? (i := 57) (by decide +kernel), List.mem_of_getElem? (i := 361) (by decide +kernel), List.mem_of_getElem? (i := 362) (by decide +kernel)⟩
theorem lw_p6 : lw_okq (⟨"TimedThreads$TimedThread", "load", "(IILTimedThreads$SharedMemory;)LTimedThreads$Outcome;"⟩, 12) := ⟨⟨by decide +kernel, by decide +kernel⟩, List.mem_of_getElem? (i := 57) (by decide +kernel), List.mem_of_getElem? (i := 378) (by decide +kernel), List.mem_of_getElem? (i := 379) (by decide +kernel)⟩
theorem lw_p7 : lw_okq (⟨"TimedThreads$TimedThread", "canReach", "(II)Z"⟩, 12) := ⟨⟨by decide +kernel, by decide +kernel⟩, List.mem_of_getElem? (i := 57) (by decide +kernel), List.mem_of_getElem? (i := 382) (by decide +kernel), List.mem_of_getElem? (i := 383) (by decide +kernel)⟩
theorem lw_p8 : lw_okq (⟨"TimedThreads$TimedThread", "rowOf", "(ILTimedThreads$SharedMemory;)[I"⟩, 12) := ⟨⟨by decide +kernel, by decide +kernel⟩, List.mem_of_getElem? (i := 57) (by decide +kernel), List.mem_of_getElem? (i := 386) (by decide +kernel), List.mem_of_getElem? (i := 387) (by decide +kernel)⟩
theorem lw_p9 : lw_okq (⟨"TimedThreads$TimedThread", "setRetirement", "(IILTimedThreads$SharedMemory;)V"⟩, 12) := ⟨⟨by decide +kernel, by decide +kernel⟩, List.mem_of_getElem? (i := 57) (by decide +kernel), List.mem_of_getElem? (i := 396) (by decide +kernel), List.mem_of_getElem? (i := 397) (by decide +kernel)⟩
theorem lw_p10 : lw_okq (⟨"TimedThreads$TimedThread", "save", "(IILTimedThreads$SharedMemory;)LTimedThreads$Outcome;"⟩, 12) := ⟨⟨by decide +kernel, by decide +kernel⟩, List.mem_of_getElem? (i := 57) (by decide +kernel), List.mem_of_getElem? (i := 405) (by decide +kernel), List.mem_of_getElem? (i := 406) (by decide +kernel)⟩
theorem lw_p11 : lw_okq (⟨"TimedThreads$TimedThread", "computeWithNumber", "(I)LTimedThreads$Outcome;"⟩, 12) := ⟨⟨by decide +kernel, by decide +kernel⟩, List.mem_of_getElem? (i := 57) (by decide +kernel), List.mem_of_getElem? (i := 413) (by decide +kernel), List.mem_of_getElem? (i := 414) (by decide +kernel)⟩
theorem lw_p12 : lw_okq (⟨"TimedThreads$TimedThread", "computeWithRegister", "(I)LTimedThreads$Outcome;"⟩, 12) := ⟨⟨by decide +kernel, by decide +kernel⟩, List.mem_of_getElem? (i := 57) (by decide +kernel), List.mem_of_getElem? (i := 423) (by decide +kernel), List.mem_of_getElem? (i := 424) (by decide +kernel)⟩
theorem lw_p13 : lw_okq (⟨"TimedThreads$TimedThread", "timed", "(II)LTimedThreads$Outcome;"⟩, 12) := ⟨⟨by decide +kernel, by decide +kernel⟩, List.mem_of_getElem? (i := 57) (by decide +kernel), List.mem_of_getElem? (i := 427) (by decide +kernel), List.mem_of_getElem? (i := 428) (by decide +kernel)⟩
theorem lw_p14 : lw_okq (⟨"TimedThreads$TimedThread", "setTimer", "(III)LTimedThreads$Outcome;"⟩, 12) := ⟨⟨by decide +kernel, by decide +kernel⟩, List.mem_of_getElem? (i := 57) (by decide +kernel), List.mem_of_getElem? (i := 431) (by decide +kernel), List.mem_of_getElem? (i := 432) (by decide +kernel)⟩
theorem lw_p15 : lw_okq (⟨"TimedThreads$TimedThread", "halt", "(I)LTimedThreads$Outcome;"⟩, 12) := ⟨⟨by decide +kernel, by decide +kernel⟩, List.mem_of_getElem? (i := 57) (by decide +kernel), List.mem_of_getElem? (i := 444) (by decide +kernel), List.mem_of_getElem? (i := 445) (by decide +kernel)⟩
def lw_privs_1 : List (MethodName × Nat) := [(⟨"TimedThreads$TimedThread", "attempt", "(ILTimedThreads$SharedMemory;)LTimedThreads$Outcome;"⟩, 12), (⟨"TimedThreads$TimedThread", "loadUpper", "(I)LTimedThreads$Outcome;"⟩, 12), (⟨"TimedThreads$TimedThread", "setRegister", "(II)V"⟩, 12), (⟨"TimedThreads$TimedThread", "jump", "(I)LTimedThreads$Outcome;"⟩, 12), (⟨"TimedThreads$TimedThread", "jumpToRegister", "(I)LTimedThreads$Outcome;"⟩, 12), (⟨"TimedThreads$TimedThread", "branch", "(I)LTimedThreads$Outcome;"⟩, 12), (⟨"TimedThreads$TimedThread", "load", "(IILTimedThreads$SharedMemory;)LTimedThreads$Outcome;"⟩, 12), (⟨"TimedThreads$TimedThread", "canReach", "(II)Z"⟩, 12), (⟨"TimedThreads$TimedThread", "rowOf", "(ILTimedThreads$SharedMemory;)[I"⟩, 12), (⟨"TimedThreads$TimedThread", "setRetirement", "(IILTimedThreads$SharedMemory;)V"⟩, 12), (⟨"TimedThreads$TimedThread", "save", "(IILTimedThreads$SharedMemory;)LTimedThreads$Outcome;"⟩, 12), (⟨"TimedThreads$TimedThread", "computeWithNumber", "(I)LTimedThreads$Outcome;"⟩, 12), (⟨"TimedThreads$TimedThread", "computeWithRegister", "(I)LTimedThreads$Outcome;"⟩, 12), (⟨"TimedThreads$TimedThread", "timed", "(II)LTimedThreads$Outcome;"⟩, 12), (⟨"TimedThreads$TimedThread", "setTimer", "(III)LTimedThreads$Outcome;"⟩, 12), (⟨"TimedThreads$TimedThread", "halt", "(I)LTimedThreads$Outcome;"⟩, 12)]
theorem lw_r1 : ∀ q ∈ lw_privs_1, lw_okq q := List.forall_mem_cons.mpr ⟨lw_p0, List.forall_mem_cons.mpr ⟨lw_p1, List.forall_mem_cons.mpr ⟨lw_p2, List.forall_mem_cons.mpr ⟨lw_p3, List.forall_mem_cons.mpr ⟨lw_p4, List.forall_mem_cons.mpr ⟨lw_p5, List.forall_mem_cons.mpr ⟨lw_p6, List.forall_mem_cons.mpr ⟨lw_p7, List.forall_mem_cons.mpr ⟨lw_p8, List.forall_mem_cons.mpr ⟨lw_p9, List.forall_mem_cons.mpr ⟨lw_p10, List.forall_mem_cons.mpr ⟨lw_p11, List.forall_mem_cons.mpr ⟨lw_p12, List.forall_mem_cons.mpr ⟨lw_p13, List.forall_mem_cons.mpr ⟨lw_p14, List.forall_mem_cons.mpr ⟨lw_p15, fun _ h => absurd h List.not_mem_nil⟩⟩⟩⟩⟩⟩⟩⟩⟩⟩⟩⟩⟩⟩⟩⟩
theorem lw_p16 : lw_okq (⟨"java/lang/Throwable", "fillInStackTrace", "(I)Ljava/lang/Throwable;"⟩, 6) := ⟨⟨by decide +kernel, by decide +kernel⟩, List.mem_of_getElem? (i := 538) (by decide +kernel), List.mem_of_getElem? (i := 536) (by decide +kernel), List.mem_of_getElem? (i := 537) (by decide +kernel)⟩
theorem lw_p17 : lw_okq (⟨"TimedThreads$Tokens", "takeLetters", "()V"⟩, 6) := ⟨⟨by decide +kernel, by decide +kernel⟩, List.mem_of_getElem? (i := 166) (by decide +kernel), List.mem_of_getElem? (i := 616) (by decide +kernel), List.mem_of_getElem? (i := 617) (by decide +kernel)⟩
theorem lw_p18 : lw_okq (⟨"TimedThreads$Tokens", "takeRegister", "()V"⟩, 6) := ⟨⟨by decide +kernel, by decide +kernel⟩, List.mem_of_getElem? (i := 166) (by decide +kernel), List.mem_of_getElem? (i := 626) (by decide +kernel), List.mem_of_getElem? (i := 627) (by decide +kernel)⟩
theorem lw_p19 : lw_okq (⟨"TimedThreads$Tokens", "takeDigits", "()J"⟩, 6) := ⟨⟨by decide +kernel, by decide +kernel⟩, List.mem_of_getElem? (i := 166) (by decide +kernel), List.mem_of_getElem? (i := 630) (by decide +kernel), List.mem_of_getElem? (i := 631) (by decide +kernel)⟩
theorem lw_p20 : lw_okq (⟨"TimedThreads$Tokens", "add", "(CJ)V"⟩, 6) := ⟨⟨by decide +kernel, by decide +kernel⟩, List.mem_of_getElem? (i := 166) (by decide +kernel), List.mem_of_getElem? (i := 637) (by decide +kernel), List.mem_of_getElem? (i := 638) (by decide +kernel)⟩
theorem lw_p21 : lw_okq (⟨"TimedThreads$Tokens", "takeNumber", "(Z)V"⟩, 6) := ⟨⟨by decide +kernel, by decide +kernel⟩, List.mem_of_getElem? (i := 166) (by decide +kernel), List.mem_of_getElem? (i := 641) (by decide +kernel), List.mem_of_getElem? (i := 642) (by decide +kernel)⟩
theorem lw_p22 : lw_okq (⟨"TimedThreads$Tokens", "takeMark", "(C)V"⟩, 6) := ⟨⟨by decide +kernel, by decide +kernel⟩, List.mem_of_getElem? (i := 166) (by decide +kernel), List.mem_of_getElem? (i := 645) (by decide +kernel), List.mem_of_getElem? (i := 646) (by decide +kernel)⟩
theorem lw_p23 : lw_okq (⟨"TimedThreads$Assembler", "readLine", "()V"⟩, 15) := ⟨⟨by decide +kernel, by decide +kernel⟩, List.mem_of_getElem? (i := 142) (by decide +kernel), List.mem_of_getElem? (i := 653) (by decide +kernel), List.mem_of_getElem? (i := 654) (by decide +kernel)⟩
theorem lw_p24 : lw_okq (⟨"TimedThreads$Assembler", "readInstruction", "(I)V"⟩, 15) := ⟨⟨by decide +kernel, by decide +kernel⟩, List.mem_of_getElem? (i := 142) (by decide +kernel), List.mem_of_getElem? (i := 670) (by decide +kernel), List.mem_of_getElem? (i := 671) (by decide +kernel)⟩
theorem lw_p25 : lw_okq (⟨"TimedThreads$Assembler", "readPiece", "(C)V"⟩, 15) := ⟨⟨by decide +kernel, by decide +kernel⟩, List.mem_of_getElem? (i := 142) (by decide +kernel), List.mem_of_getElem? (i := 722) (by decide +kernel), List.mem_of_getElem? (i := 723) (by decide +kernel)⟩
theorem lw_p26 : lw_okq (⟨"TimedThreads$Assembler", "putPiece", "(CJ)V"⟩, 15) := ⟨⟨by decide +kernel, by decide +kernel⟩, List.mem_of_getElem? (i := 142) (by decide +kernel), List.mem_of_getElem? (i := 729) (by decide +kernel), List.mem_of_getElem? (i := 730) (by decide +kernel)⟩
theorem lw_p27 : lw_okq (⟨"TimedThreads$Assembler", "fitted", "(JJJ)I"⟩, 15) := ⟨⟨by decide +kernel, by decide +kernel⟩, List.mem_of_getElem? (i := 142) (by decide +kernel), List.mem_of_getElem? (i := 735) (by decide +kernel), List.mem_of_getElem? (i := 736) (by decide +kernel)⟩
theorem lw_p28 : lw_okq (⟨"TimedThreads$Assembler", "noteOdd", "(J)V"⟩, 15) := ⟨⟨by decide +kernel, by decide +kernel⟩, List.mem_of_getElem? (i := 142) (by decide +kernel), List.mem_of_getElem? (i := 747) (by decide +kernel), List.mem_of_getElem? (i := 748) (by decide +kernel)⟩
theorem lw_p29 : lw_okq (⟨"TimedThreads$Assembler", "faultOfLine", "(I)I"⟩, 15) := ⟨⟨by decide +kernel, by decide +kernel⟩, List.mem_of_getElem? (i := 142) (by decide +kernel), List.mem_of_getElem? (i := 761) (by decide +kernel), List.mem_of_getElem? (i := 762) (by decide +kernel)⟩
theorem lw_p30 : lw_okq (⟨"TimedThreads$Assembler", "setFault", "(II)V"⟩, 15) := ⟨⟨by decide +kernel, by decide +kernel⟩, List.mem_of_getElem? (i := 142) (by decide +kernel), List.mem_of_getElem? (i := 769) (by decide +kernel), List.mem_of_getElem? (i := 770) (by decide +kernel)⟩
theorem lw_p31 : lw_okq (⟨"TimedThreads$Assembler", "keepLine", "(I)V"⟩, 15) := ⟨⟨by decide +kernel, by decide +kernel⟩, List.mem_of_getElem? (i := 142) (by decide +kernel), List.mem_of_getElem? (i := 773) (by decide +kernel), List.mem_of_getElem? (i := 774) (by decide +kernel)⟩
def lw_privs_2 : List (MethodName × Nat) := [(⟨"java/lang/Throwable", "fillInStackTrace", "(I)Ljava/lang/Throwable;"⟩, 6), (⟨"TimedThreads$Tokens", "takeLetters", "()V"⟩, 6), (⟨"TimedThreads$Tokens", "takeRegister", "()V"⟩, 6), (⟨"TimedThreads$Tokens", "takeDigits", "()J"⟩, 6), (⟨"TimedThreads$Tokens", "add", "(CJ)V"⟩, 6), (⟨"TimedThreads$Tokens", "takeNumber", "(Z)V"⟩, 6), (⟨"TimedThreads$Tokens", "takeMark", "(C)V"⟩, 6), (⟨"TimedThreads$Assembler", "readLine", "()V"⟩, 15), (⟨"TimedThreads$Assembler", "readInstruction", "(I)V"⟩, 15), (⟨"TimedThreads$Assembler", "readPiece", "(C)V"⟩, 15), (⟨"TimedThreads$Assembler", "putPiece", "(CJ)V"⟩, 15), (⟨"TimedThreads$Assembler", "fitted", "(JJJ)I"⟩, 15), (⟨"TimedThreads$Assembler", "noteOdd", "(J)V"⟩, 15), (⟨"TimedThreads$Assembler", "faultOfLine", "(I)I"⟩, 15), (⟨"TimedThreads$Assembler", "setFault", "(II)V"⟩, 15), (⟨"TimedThreads$Assembler", "keepLine", "(I)V"⟩, 15)]
theorem lw_r2 : ∀ q ∈ lw_privs_2, lw_okq q := List.forall_mem_cons.mpr ⟨lw_p16, List.forall_mem_cons.mpr ⟨lw_p17, List.forall_mem_cons.mpr ⟨lw_p18, List.forall_mem_cons.mpr ⟨lw_p19, List.forall_mem_cons.mpr ⟨lw_p20, List.forall_mem_cons.mpr ⟨lw_p21, List.forall_mem_cons.mpr ⟨lw_p22, List.forall_mem_cons.mpr ⟨lw_p23, List.forall_mem_cons.mpr ⟨lw_p24, List.forall_mem_cons.mpr ⟨lw_p25, List.forall_mem_cons.mpr ⟨lw_p26, List.forall_mem_cons.mpr ⟨lw_p27, List.forall_mem_cons.mpr ⟨lw_p28, List.forall_mem_cons.mpr ⟨lw_p29, List.forall_mem_cons.mpr ⟨lw_p30, List.forall_mem_cons.mpr ⟨lw_p31, fun _ h => absurd h List.not_mem_nil⟩⟩⟩⟩⟩⟩⟩⟩⟩⟩⟩⟩⟩⟩⟩⟩
theorem lw_p32 : lw_okq (⟨"TimedThreads$Assembler", "resolveTargets", "()V"⟩, 15) := ⟨⟨by decide +kernel, by decide +kernel⟩, List.mem_of_getElem? (i := 142) (by decide +kernel), List.mem_of_getElem? (i := 781) (by decide +kernel), List.mem_of_getElem? (i := 782) (by decide +kernel)⟩
theorem lw_p33 : lw_okq (⟨"TimedThreadsModel", "refuse", "(I)I"⟩, 31) := ⟨⟨by decide +kernel, by decide +kernel⟩, List.mem_of_getElem? (i := 789) (by decide +kernel), List.mem_of_getElem? (i := 912) (by decide +kernel), List.mem_of_getElem? (i := 913) (by decide +kernel)⟩
theorem lw_p34 : lw_okq (⟨"TimedThreadsModel", "takeLine", "(I)V"⟩, 31) := ⟨⟨by decide +kernel, by decide +kernel⟩, List.mem_of_getElem? (i := 789) (by decide +kernel), List.mem_of_getElem? (i := 916) (by decide +kernel), List.mem_of_getElem? (i := 917) (by decide +kernel)⟩
theorem lw_p35 : lw_okq (⟨"TimedThreadsModel", "skip", "()V"⟩, 31) := ⟨⟨by decide +kernel, by decide +kernel⟩, List.mem_of_getElem? (i := 789) (by decide +kernel), List.mem_of_getElem? (i := 920) (by decide +kernel), List.mem_of_getElem? (i := 921) (by decide +kernel)⟩
theorem lw_p36 : lw_okq (⟨"TimedThreadsModel", "character", "(I)I"⟩, 31) := ⟨⟨by decide +kernel, by decide +kernel⟩, List.mem_of_getElem? (i := 789) (by decide +kernel), List.mem_of_getElem? (i := 924) (by decide +kernel), List.mem_of_getElem? (i := 925) (by decide +kernel)⟩
theorem lw_p37 : lw_okq (⟨"TimedThreadsModel", "letters", "()J"⟩, 31) := ⟨⟨by decide +kernel, by decide +kernel⟩, List.mem_of_getElem? (i := 789) (by decide +kernel), List.mem_of_getElem? (i := 928) (by decide +kernel), List.mem_of_getElem? (i := 929) (by decide +kernel)⟩
theorem lw_p38 : lw_okq (⟨"TimedThreadsModel", "labelOf", "(J)I"⟩, 31) := ⟨⟨by decide +kernel, by decide +kernel⟩, List.mem_of_getElem? (i := 789) (by decide +kernel), List.mem_of_getElem? (i := 935) (by decide +kernel), List.mem_of_getElem? (i := 936) (by decide +kernel)⟩
theorem lw_p39 : lw_okq (⟨"TimedThreadsModel", "operands", "(I)I"⟩, 31) := ⟨⟨by decide +kernel, by decide +kernel⟩, List.mem_of_getElem? (i := 789) (by decide +kernel), List.mem_of_getElem? (i := 982) (by decide +kernel), List.mem_of_getElem? (i := 983) (by decide +kernel)⟩
theorem lw_p40 : lw_okq (⟨"TimedThreadsModel", "pair", "(II)I"⟩, 31) := ⟨⟨by decide +kernel, by decide +kernel⟩, List.mem_of_getElem? (i := 789) (by decide +kernel), List.mem_of_getElem? (i := 986) (by decide +kernel), List.mem_of_getElem? (i := 987) (by decide +kernel)⟩
theorem lw_p41 : lw_okq (⟨"TimedThreadsModel", "takeRegister", "()I"⟩, 31) := ⟨⟨by decide +kernel, by decide +kernel⟩, List.mem_of_getElem? (i := 789) (by decide +kernel), List.mem_of_getElem? (i := 990) (by decide +kernel), List.mem_of_getElem? (i := 991) (by decide +kernel)⟩
theorem lw_p42 : lw_okq (⟨"TimedThreadsModel", "need", "(I)V"⟩, 31) := ⟨⟨by decide +kernel, by decide +kernel⟩, List.mem_of_getElem? (i := 789) (by decide +kernel), List.mem_of_getElem? (i := 997) (by decide +kernel), List.mem_of_getElem? (i := 998) (by decide +kernel)⟩
theorem lw_p43 : lw_okq (⟨"TimedThreadsModel", "number", "(JJ)J"⟩, 31) := ⟨⟨by decide +kernel, by decide +kernel⟩, List.mem_of_getElem? (i := 789) (by decide +kernel), List.mem_of_getElem? (i := 1002) (by decide +kernel), List.mem_of_getElem? (i := 1003) (by decide +kernel)⟩
theorem lw_p44 : lw_okq (⟨"TimedThreadsModel", "distance", "(Z)I"⟩, 31) := ⟨⟨by decide +kernel, by decide +kernel⟩, List.mem_of_getElem? (i := 789) (by decide +kernel), List.mem_of_getElem? (i := 1015) (by decide +kernel), List.mem_of_getElem? (i := 1016) (by decide +kernel)⟩
theorem lw_p45 : lw_okq (⟨"TimedThreadsModel", "isEnd", "()Z"⟩, 31) := ⟨⟨by decide +kernel, by decide +kernel⟩, List.mem_of_getElem? (i := 789) (by decide +kernel), List.mem_of_getElem? (i := 1032) (by decide +kernel), List.mem_of_getElem? (i := 1033) (by decide +kernel)⟩
theorem lw_p46 : lw_okq (⟨"TimedThreadsModel", "link", "(I)V"⟩, 31) := ⟨⟨by decide +kernel, by decide +kernel⟩, List.mem_of_getElem? (i := 789) (by decide +kernel), List.mem_of_getElem? (i := 1036) (by decide +kernel), List.mem_of_getElem? (i := 1037) (by decide +kernel)⟩
theorem lw_p47 : lw_okq (⟨"TimedThreadsModel", "turn", "(I)I"⟩, 31) := ⟨⟨by decide +kernel, by decide +kernel⟩, List.mem_of_getElem? (i := 789) (by decide +kernel), List.mem_of_getElem? (i := 1068) (by decide +kernel), List.mem_of_getElem? (i := 1069) (by decide +kernel)⟩
def lw_privs_3 : List (MethodName × Nat) := [(⟨"TimedThreads$Assembler", "resolveTargets", "()V"⟩, 15), (⟨"TimedThreadsModel", "refuse", "(I)I"⟩, 31), (⟨"TimedThreadsModel", "takeLine", "(I)V"⟩, 31), (⟨"TimedThreadsModel", "skip", "()V"⟩, 31), (⟨"TimedThreadsModel", "character", "(I)I"⟩, 31), (⟨"TimedThreadsModel", "letters", "()J"⟩, 31), (⟨"TimedThreadsModel", "labelOf", "(J)I"⟩, 31), (⟨"TimedThreadsModel", "operands", "(I)I"⟩, 31), (⟨"TimedThreadsModel", "pair", "(II)I"⟩, 31), (⟨"TimedThreadsModel", "takeRegister", "()I"⟩, 31), (⟨"TimedThreadsModel", "need", "(I)V"⟩, 31), (⟨"TimedThreadsModel", "number", "(JJ)J"⟩, 31), (⟨"TimedThreadsModel", "distance", "(Z)I"⟩, 31), (⟨"TimedThreadsModel", "isEnd", "()Z"⟩, 31), (⟨"TimedThreadsModel", "link", "(I)V"⟩, 31), (⟨"TimedThreadsModel", "turn", "(I)I"⟩, 31)]
theorem lw_r3 : ∀ q ∈ lw_privs_3, lw_okq q := List.forall_mem_cons.mpr ⟨lw_p32, List.forall_mem_cons.mpr ⟨lw_p33, List.forall_mem_cons.mpr ⟨lw_p34, List.forall_mem_cons.mpr ⟨lw_p35, List.forall_mem_cons.mpr ⟨lw_p36, List.forall_mem_cons.mpr ⟨lw_p37, List.forall_mem_cons.mpr ⟨lw_p38, List.forall_mem_cons.mpr ⟨lw_p39, List.forall_mem_cons.mpr ⟨lw_p40, List.forall_mem_cons.mpr ⟨lw_p41, List.forall_mem_cons.mpr ⟨lw_p42, List.forall_mem_cons.mpr ⟨lw_p43, List.forall_mem_cons.mpr ⟨lw_p44, List.forall_mem_cons.mpr ⟨lw_p45, List.forall_mem_cons.mpr ⟨lw_p46, List.forall_mem_cons.mpr ⟨lw_p47, fun _ h => absurd h List.not_mem_nil⟩⟩⟩⟩⟩⟩⟩⟩⟩⟩⟩⟩⟩⟩⟩⟩
theorem lw_p48 : lw_okq (⟨"TimedThreadsModel", "stop", "(I)I"⟩, 31) := ⟨⟨by decide +kernel, by decide +kernel⟩, List.mem_of_getElem? (i := 789) (by decide +kernel), List.mem_of_getElem? (i := 1075) (by decide +kernel), List.mem_of_getElem? (i := 1076) (by decide +kernel)⟩
theorem lw_p49 : lw_okq (⟨"TimedThreadsModel", "set", "(III)V"⟩, 31) := ⟨⟨by decide +kernel, by decide +kernel⟩, List.mem_of_getElem? (i := 789) (by decide +kernel), List.mem_of_getElem? (i := 1079) (by decide +kernel), List.mem_of_getElem? (i := 1080) (by decide +kernel)⟩
theorem lw_p50 : lw_okq (⟨"TimedThreadsModel", "done", "(III)I"⟩, 31) := ⟨⟨by decide +kernel, by decide +kernel⟩, List.mem_of_getElem? (i := 789) (by decide +kernel), List.mem_of_getElem? (i := 1083) (by decide +kernel), List.mem_of_getElem? (i := 1084) (by decide +kernel)⟩
theorem lw_p51 : lw_okq (⟨"TimedThreadsModel", "jump", "(IIZ)I"⟩, 31) := ⟨⟨by decide +kernel, by decide +kernel⟩, List.mem_of_getElem? (i := 789) (by decide +kernel), List.mem_of_getElem? (i := 1087) (by decide +kernel), List.mem_of_getElem? (i := 1088) (by decide +kernel)⟩
theorem lw_p52 : lw_okq (⟨"TimedThreadsModel", "branch", "(II)I"⟩, 31) := ⟨⟨by decide +kernel, by decide +kernel⟩, List.mem_of_getElem? (i := 789) (by decide +kernel), List.mem_of_getElem? (i := 1091) (by decide +kernel), List.mem_of_getElem? (i := 1092) (by decide +kernel)⟩
theorem lw_p53 : lw_okq (⟨"TimedThreadsModel", "moveWord", "(IIZ)I"⟩, 31) := ⟨⟨by decide +kernel, by decide +kernel⟩, List.mem_of_getElem? (i := 789) (by decide +kernel), List.mem_of_getElem? (i := 1102) (by decide +kernel), List.mem_of_getElem? (i := 1103) (by decide +kernel)⟩
theorem lw_p54 : lw_okq (⟨"TimedThreadsModel", "isThere", "(III)Z"⟩, 31) := ⟨⟨by decide +kernel, by decide +kernel⟩, List.mem_of_getElem? (i := 789) (by decide +kernel), List.mem_of_getElem? (i := 1106) (by decide +kernel), List.mem_of_getElem? (i := 1107) (by decide +kernel)⟩
theorem lw_p55 : lw_okq (⟨"TimedThreadsModel", "wordAt", "(II)I"⟩, 31) := ⟨⟨by decide +kernel, by decide +kernel⟩, List.mem_of_getElem? (i := 789) (by decide +kernel), List.mem_of_getElem? (i := 1110) (by decide +kernel), List.mem_of_getElem? (i := 1111) (by decide +kernel)⟩
theorem lw_p56 : lw_okq (⟨"TimedThreadsModel", "put", "(III)V"⟩, 31) := ⟨⟨by decide +kernel, by decide +kernel⟩, List.mem_of_getElem? (i := 789) (by decide +kernel), List.mem_of_getElem? (i := 1114) (by decide +kernel), List.mem_of_getElem? (i := 1115) (by decide +kernel)⟩
theorem lw_p57 : lw_okq (⟨"TimedThreadsModel", "first", "(I)I"⟩, 31) := ⟨⟨by decide +kernel, by decide +kernel⟩, List.mem_of_getElem? (i := 789) (by decide +kernel), List.mem_of_getElem? (i := 1118) (by decide +kernel), List.mem_of_getElem? (i := 1119) (by decide +kernel)⟩
theorem lw_p58 : lw_okq (⟨"TimedThreadsModel", "calculate", "(IIZ)I"⟩, 31) := ⟨⟨by decide +kernel, by decide +kernel⟩, List.mem_of_getElem? (i := 789) (by decide +kernel), List.mem_of_getElem? (i := 1122) (by decide +kernel), List.mem_of_getElem? (i := 1123) (by decide +kernel)⟩
theorem lw_p59 : lw_okq (⟨"TimedThreadsModel", "clock", "(II)I"⟩, 31) := ⟨⟨by decide +kernel, by decide +kernel⟩, List.mem_of_getElem? (i := 789) (by decide +kernel), List.mem_of_getElem? (i := 1129) (by decide +kernel), List.mem_of_getElem? (i := 1130) (by decide +kernel)⟩
def lw_privs_4 : List (MethodName × Nat) := [(⟨"TimedThreadsModel", "stop", "(I)I"⟩, 31), (⟨"TimedThreadsModel", "set", "(III)V"⟩, 31), (⟨"TimedThreadsModel", "done", "(III)I"⟩, 31), (⟨"TimedThreadsModel", "jump", "(IIZ)I"⟩, 31), (⟨"TimedThreadsModel", "branch", "(II)I"⟩, 31), (⟨"TimedThreadsModel", "moveWord", "(IIZ)I"⟩, 31), (⟨"TimedThreadsModel", "isThere", "(III)Z"⟩, 31), (⟨"TimedThreadsModel", "wordAt", "(II)I"⟩, 31), (⟨"TimedThreadsModel", "put", "(III)V"⟩, 31), (⟨"TimedThreadsModel", "first", "(I)I"⟩, 31), (⟨"TimedThreadsModel", "calculate", "(IIZ)I"⟩, 31), (⟨"TimedThreadsModel", "clock", "(II)I"⟩, 31)]
theorem lw_r4 : ∀ q ∈ lw_privs_4, lw_okq q := List.forall_mem_cons.mpr ⟨lw_p48, List.forall_mem_cons.mpr ⟨lw_p49, List.forall_mem_cons.mpr ⟨lw_p50, List.forall_mem_cons.mpr ⟨lw_p51, List.forall_mem_cons.mpr ⟨lw_p52, List.forall_mem_cons.mpr ⟨lw_p53, List.forall_mem_cons.mpr ⟨lw_p54, List.forall_mem_cons.mpr ⟨lw_p55, List.forall_mem_cons.mpr ⟨lw_p56, List.forall_mem_cons.mpr ⟨lw_p57, List.forall_mem_cons.mpr ⟨lw_p58, List.forall_mem_cons.mpr ⟨lw_p59, fun _ h => absurd h List.not_mem_nil⟩⟩⟩⟩⟩⟩⟩⟩⟩⟩⟩⟩
def lw_privs : List (MethodName × Nat) := lw_privs_1 ++ (lw_privs_2 ++ (lw_privs_3 ++ (lw_privs_4)))
def lw_tbl : List Cond := k2_sels lw_privs ++ tables_1
theorem lw_privs_ok : ∀ q ∈ lw_privs, lw_okq q := by
  show ∀ q ∈ lw_privs_1 ++ (lw_privs_2 ++ (lw_privs_3 ++ (lw_privs_4))), lw_okq q
  exact List.forall_mem_append.mpr ⟨lw_r1, List.forall_mem_append.mpr ⟨lw_r2, List.forall_mem_append.mpr ⟨lw_r3, lw_r4⟩⟩⟩
/-! ===== BEGIN words of one list among another's, by their places ===== -/
theorem goodIn_r {big : List Cond} (ws : List Cond) (ps : List Nat) (hp : ws = ps.filterMap (fun i => big[i]?)) (h : ws.all goodWord = true) : GoodIn big ws := by
  intro w hw
  have h1 := List.all_eq_true.mp h w hw
  rw [hp] at hw
  obtain ⟨i, -, hi⟩ := List.mem_filterMap.mp hw
  have hm : w ∈ big := by first | exact List.mem_of_getElem? hi | exact List.getElem?_mem hi
  exact ⟨hm, good_of_word h1⟩
theorem goodIn_app {big a b : List Cond} (ha : GoodIn big a) (hb : GoodIn big b) : GoodIn big (a ++ b) := fun w h => (List.mem_append.mp h).elim (ha w) (hb w)
theorem goodIn_ca {big a b : List Cond} {c : Cond} (ha : GoodIn big (c :: a)) (hb : GoodIn big b) : GoodIn big (c :: (a ++ b)) := fun w h => (List.mem_cons.mp h).elim (fun e => ha w (List.mem_cons.mpr (Or.inl e))) (fun h => (List.mem_append.mp h).elim (fun h => ha w (List.mem_cons.mpr (Or.inr h))) (hb w))
theorem goodIn_sub {big ws : List Cond} (hm : ∀ w ∈ ws, w ∈ big) (h : ws.all goodWord = true) : GoodIn big ws := fun w hw => ⟨hm w hw, good_of_word (List.all_eq_true.mp h w hw)⟩
/-! ===== END ===== -/
/-! THE CLAIM OUT OF ONE WALK OF THE LAW'S BODY. Your part is whole_start (and what it stands on); all else here is the same for every law, but numbers. -/
def R_law : String := "TimedThreadsLaw"
def lw_P (b : Addr) (xs : List Int32) (args : Array Value) (s : State) : Prop := args = #[.ref b] ∧ s.IntsAt b xs ∧ xs.length ≤ 2049 ∧ (Jvm.Cond.and given_1 narrow_1).before args s = true
def lw_Q (_ : Array Value) (s : State) (o : Outcome) (t : State) : Prop := o = .returned (some (.int 1)) ∧ Framed s o t [] 601024 7293000
def lw_Z (below : List Frame) (a : Array Value) (s : State) : State → Prop := fun t => ∃ o, t.status = .running ∧ Ended t below o ∧ lw_Q a s o t
/-- the law's own end, with 1 on the stack, nothing written that was there before, its room as the claim has it -/
theorem lw_ret {p : Program} {l : Launch} {e : Env} {s : State} {m : MethodId} {below : List Frame} {meth : Method} {c : Code} {b : Nat} (hx : p.tables.exec = Jvm.exec) (hb : c.code = code) (hr : meth.sig.returnType = ret) (hlocks : meth.locks = false) {pc : Nat} {H : Heap} {ls : Array Slot} (hdg : decode code pc = .ok (.ireturn, 1)) : W p l e room_1 s m #[Value.ref b] below meth c H [] 601024 7293000 (lw_Z below #[Value.ref b] s) (F0 m pc ls [.int 1]) := by
  intro T hT X
  obtain ⟨fs, hret, hrun, hended, hW, hframe⟩ := X.leave (v := some (.int 1)) (hlocks := hlocks) (fun h => by rw [hr] at h; cases h)
  have hmeth' : T.vm.method? m = some meth := X.method'
  refine ⟨T.setFrames fs, ?_, .returned (some (.int 1)), hrun, hended, rfl, ⟨_, rfl⟩, hW, hframe⟩
  jvm_step X.here [X.here.top, hx, hb, hdg, hmeth', hr, ret, narrow_b1]
  (try refine ⟨rfl, ?_⟩); (try refine ⟨rfl, ?_⟩)
  first | (intro acts; rw [hret _ acts rfl rfl rfl]) | rw [hret _ _ rfl rfl rfl]
  exact Steps.refl _
/-- what holds at the law's entry: the machine, the code, the tables' words (any of lw_tbl by 'hts w (by decide +kernel)'), the script of L ints xs at the cell b, what the Statement gives of the start (any of its parts by flat_of_before) -/
def lw_At (p : Program) (s : State) (m : MethodId) (meth : Method) (c : Code) (b L : Nat) (xs : Nat → Int32) : Prop :=
  p.tables.exec = Jvm.exec ∧ c.code = code ∧ meth.sig.returnType = ret ∧ c.maxLocals = 7 ∧ s.vm.findClass R_law = some m.cls ∧ (∀ w ∈ lw_tbl, w.before #[Value.ref b] s = true) ∧ va_X b L xs s s.heap ∧ b < s.heap.size ∧ meth.locks = false ∧ (Jvm.Cond.and given_1 narrow_1).before #[Value.ref b] s = true
end
section
def RX0 : String := "TimedThreads$Assembler"
def TX0 : u_T := fun k => match k with
  | 0 => ("TimedThreads$Assembler", "words", "[I", true)
  | 1 => ("TimedThreads$Assembler", "count", "I", false)
  | 2 => ("TimedThreads$Assembler", "faultKind", "I", false)
  | 3 => ("TimedThreads$Assembler", "faultLine", "I", false)
  | 4 => ("TimedThreads$Assembler", "targets", "[J", true)
  | 5 => ("TimedThreads$Assembler", "lines", "[I", true)
  | 6 => ("TimedThreads$Assembler", "labels", "LTimedThreads$Labels;", true)
  | 7 => ("TimedThreads$Assembler", "tokens", "LTimedThreads$Tokens;", true)
  | 8 => ("TimedThreads$Assembler", "at", "I", false)
  | 9 => ("TimedThreads$Assembler", "label", "J", false)
  | 10 => ("TimedThreads$Assembler", "hasWord", "Z", false)
  | 11 => ("TimedThreads$Assembler", "word", "I", false)
  | 12 => ("TimedThreads$Assembler", "target", "J", false)
  | 13 => ("TimedThreads$Assembler", "malformed", "Z", false)
  | _ => ("TimedThreads$Assembler", "misfit", "Z", false)
def tyX0 : Nat → FieldType := fun k => match k with
  | 0 => .array .int
  | 1 => .int
  | 2 => .int
  | 3 => .int
  | 4 => .array .long
  | 5 => .array .int
  | 6 => .object "TimedThreads$Labels"
  | 7 => .object "TimedThreads$Tokens"
  | 8 => .int
  | 9 => .long
  | 10 => .boolean
  | 11 => .int
  | 12 => .long
  | 13 => .boolean
  | _ => .boolean
abbrev wsX00 : List Cond := u_ws RX0 TX0 15
theorem nmX0 : ∀ a, a < 15 → ∀ b, b < 15 → a ≠ b → (TX0 a).2.1 ≠ (TX0 b).2.1 := by decide +kernel
theorem tyX0_ok : ∀ k, k < 15 → parseFieldDescriptor (TX0 k).2.2.1 = some (tyX0 k) := by decide +kernel
abbrev cX0_init : ByteArray := prog_2_method_1_code
def yX0_init : MethodName := ⟨RX0, "<init>", "()V"⟩
abbrev cX0_read : ByteArray := prog_2_method_2_code
def yX0_read : MethodName := ⟨RX0, "read", "(LTimedThreads$Text;I)V"⟩
abbrev cX0_readLine : ByteArray := prog_2_method_3_code
def yX0_readLine : MethodName := ⟨RX0, "readLine", "()V"⟩
abbrev cX0_faultOfLine : ByteArray := prog_2_method_4_code
def yX0_faultOfLine : MethodName := ⟨RX0, "faultOfLine", "(I)I"⟩
abbrev cX0_keepLine : ByteArray := prog_2_method_5_code
def yX0_keepLine : MethodName := ⟨RX0, "keepLine", "(I)V"⟩
abbrev cX0_setFault : ByteArray := prog_2_method_6_code
def yX0_setFault : MethodName := ⟨RX0, "setFault", "(II)V"⟩
abbrev cX0_mnemonicOf : ByteArray := prog_2_method_7_code
def yX0_mnemonicOf : MethodName := ⟨RX0, "mnemonicOf", "(J)I"⟩
abbrev cX0_readInstruction : ByteArray := prog_2_method_8_code
def yX0_readInstruction : MethodName := ⟨RX0, "readInstruction", "(I)V"⟩
abbrev cX0_readPiece : ByteArray := prog_2_method_9_code
def yX0_readPiece : MethodName := ⟨RX0, "readPiece", "(C)V"⟩
abbrev cX0_kindOf : ByteArray := prog_2_method_10_code
def yX0_kindOf : MethodName := ⟨RX0, "kindOf", "(C)C"⟩
abbrev cX0_putPiece : ByteArray := prog_2_method_11_code
def yX0_putPiece : MethodName := ⟨RX0, "putPiece", "(CJ)V"⟩
abbrev cX0_fitted : ByteArray := prog_2_method_12_code
def yX0_fitted : MethodName := ⟨RX0, "fitted", "(JJJ)I"⟩
abbrev cX0_noteOdd : ByteArray := prog_2_method_13_code
def yX0_noteOdd : MethodName := ⟨RX0, "noteOdd", "(J)V"⟩
abbrev cX0_resolveTargets : ByteArray := prog_2_method_14_code
def yX0_resolveTargets : MethodName := ⟨RX0, "resolveTargets", "()V"⟩
def RX1 : String := "TimedThreads$Fields"
def TX1 : u_T := fun k => match k with
  | _ => ("", "", "", false)
def tyX1 : Nat → FieldType := fun k => match k with
  | _ => .int
abbrev wsX10 : List Cond := u_ws RX1 TX1 0
theorem nmX1 : ∀ a, a < 0 → ∀ b, b < 0 → a ≠ b → (TX1 a).2.1 ≠ (TX1 b).2.1 := by decide +kernel
theorem tyX1_ok : ∀ k, k < 0 → parseFieldDescriptor (TX1 k).2.2.1 = some (tyX1 k) := by decide +kernel
abbrev cX1_op : ByteArray := prog_3_method_2_code
def yX1_op : MethodName := ⟨RX1, "op", "(I)I"⟩
abbrev cX1_rd : ByteArray := prog_3_method_3_code
def yX1_rd : MethodName := ⟨RX1, "rd", "(I)I"⟩
abbrev cX1_f : ByteArray := prog_3_method_4_code
def yX1_f : MethodName := ⟨RX1, "f", "(I)I"⟩
abbrev cX1_rs : ByteArray := prog_3_method_5_code
def yX1_rs : MethodName := ⟨RX1, "rs", "(I)I"⟩
abbrev cX1_rt : ByteArray := prog_3_method_6_code
def yX1_rt : MethodName := ⟨RX1, "rt", "(I)I"⟩
abbrev cX1_g : ByteArray := prog_3_method_7_code
def yX1_g : MethodName := ⟨RX1, "g", "(I)I"⟩
abbrev cX1_numberI : ByteArray := prog_3_method_8_code
def yX1_numberI : MethodName := ⟨RX1, "numberI", "(I)I"⟩
abbrev cX1_numberS : ByteArray := prog_3_method_9_code
def yX1_numberS : MethodName := ⟨RX1, "numberS", "(I)I"⟩
abbrev cX1_numberB : ByteArray := prog_3_method_10_code
def yX1_numberB : MethodName := ⟨RX1, "numberB", "(I)I"⟩
abbrev cX1_numberJ : ByteArray := prog_3_method_11_code
def yX1_numberJ : MethodName := ⟨RX1, "numberJ", "(I)I"⟩
abbrev cX1_numberU : ByteArray := prog_3_method_12_code
def yX1_numberU : MethodName := ⟨RX1, "numberU", "(I)I"⟩
abbrev cX1_bitsOfS : ByteArray := prog_3_method_13_code
def yX1_bitsOfS : MethodName := ⟨RX1, "bitsOfS", "(I)I"⟩
abbrev cX1_bitsOfB : ByteArray := prog_3_method_14_code
def yX1_bitsOfB : MethodName := ⟨RX1, "bitsOfB", "(I)I"⟩
abbrev cX1_bitsOfJ : ByteArray := prog_3_method_15_code
def yX1_bitsOfJ : MethodName := ⟨RX1, "bitsOfJ", "(I)I"⟩
def RX2 : String := "TimedThreads$History"
def TX2 : u_T := fun k => match k with
  | 0 => ("TimedThreads$History", "count", "I", false)
  | 1 => ("TimedThreads$History", "addresses", "[I", true)
  | 2 => ("TimedThreads$History", "cycles", "[I", true)
  | _ => ("TimedThreads$History", "retirements", "[I", true)
def tyX2 : Nat → FieldType := fun k => match k with
  | 0 => .int
  | 1 => .array .int
  | 2 => .array .int
  | _ => .array .int
abbrev wsX20 : List Cond := u_ws RX2 TX2 4
theorem nmX2 : ∀ a, a < 4 → ∀ b, b < 4 → a ≠ b → (TX2 a).2.1 ≠ (TX2 b).2.1 := by decide +kernel
theorem tyX2_ok : ∀ k, k < 4 → parseFieldDescriptor (TX2 k).2.2.1 = some (tyX2 k) := by decide +kernel
abbrev cX2_init : ByteArray := prog_4_method_1_code
def yX2_init : MethodName := ⟨RX2, "<init>", "()V"⟩
abbrev cX2_add : ByteArray := prog_4_method_2_code
def yX2_add : MethodName := ⟨RX2, "add", "(III)V"⟩
abbrev cX2_entry : ByteArray := prog_4_method_3_code
def yX2_entry : MethodName := ⟨RX2, "entry", "(II)I"⟩
abbrev cX2_placeOf : ByteArray := prog_4_method_4_code
def yX2_placeOf : MethodName := ⟨RX2, "placeOf", "(I)I"⟩
def RX3 : String := "TimedThreads$Labels"
def TX3 : u_T := fun k => match k with
  | 0 => ("TimedThreads$Labels", "count", "I", false)
  | 1 => ("TimedThreads$Labels", "keys", "[J", true)
  | _ => ("TimedThreads$Labels", "places", "[I", true)
def tyX3 : Nat → FieldType := fun k => match k with
  | 0 => .int
  | 1 => .array .long
  | _ => .array .int
abbrev wsX30 : List Cond := u_ws RX3 TX3 3
theorem nmX3 : ∀ a, a < 3 → ∀ b, b < 3 → a ≠ b → (TX3 a).2.1 ≠ (TX3 b).2.1 := by decide +kernel
theorem tyX3_ok : ∀ k, k < 3 → parseFieldDescriptor (TX3 k).2.2.1 = some (tyX3 k) := by decide +kernel
abbrev cX3_init : ByteArray := prog_5_method_1_code
def yX3_init : MethodName := ⟨RX3, "<init>", "()V"⟩
abbrev cX3_add : ByteArray := prog_5_method_2_code
def yX3_add : MethodName := ⟨RX3, "add", "(JI)V"⟩
abbrev cX3_find : ByteArray := prog_5_method_3_code
def yX3_find : MethodName := ⟨RX3, "find", "(J)I"⟩
def RX4 : String := "TimedThreads$Mnemonic"
def TX4 : u_T := fun k => match k with
  | _ => ("", "", "", false)
def tyX4 : Nat → FieldType := fun k => match k with
  | _ => .int
abbrev wsX40 : List Cond := u_ws RX4 TX4 0
theorem nmX4 : ∀ a, a < 0 → ∀ b, b < 0 → a ≠ b → (TX4 a).2.1 ≠ (TX4 b).2.1 := by decide +kernel
theorem tyX4_ok : ∀ k, k < 0 → parseFieldDescriptor (TX4 k).2.2.1 = some (tyX4 k) := by decide +kernel
def RX5 : String := "TimedThreads$Outcome"
def TX5 : u_T := fun k => match k with
  | _ => ("", "", "", false)
def tyX5 : Nat → FieldType := fun k => match k with
  | _ => .int
abbrev wsX50 : List Cond := u_ws RX5 TX5 0
theorem nmX5 : ∀ a, a < 0 → ∀ b, b < 0 → a ≠ b → (TX5 a).2.1 ≠ (TX5 b).2.1 := by decide +kernel
theorem tyX5_ok : ∀ k, k < 0 → parseFieldDescriptor (TX5 k).2.2.1 = some (tyX5 k) := by decide +kernel
def RX6 : String := "TimedThreads$SharedMemory"
def TX6 : u_T := fun k => match k with
  | 0 => ("TimedThreads$SharedMemory", "words", "[I", true)
  | _ => ("TimedThreads$SharedMemory", "wheel", "I", true)
def tyX6 : Nat → FieldType := fun k => match k with
  | 0 => .array .int
  | _ => .int
abbrev wsX60 : List Cond := u_ws RX6 TX6 2
theorem nmX6 : ∀ a, a < 2 → ∀ b, b < 2 → a ≠ b → (TX6 a).2.1 ≠ (TX6 b).2.1 := by decide +kernel
theorem tyX6_ok : ∀ k, k < 2 → parseFieldDescriptor (TX6 k).2.2.1 = some (tyX6 k) := by decide +kernel
abbrev cX6_init : ByteArray := prog_8_method_1_code
def yX6_init : MethodName := ⟨RX6, "<init>", "(I)V"⟩
abbrev cX6_retirement : ByteArray := prog_8_method_2_code
def yX6_retirement : MethodName := ⟨RX6, "retirement", "(II)I"⟩
def RX7 : String := "TimedThreads$Text"
def TX7 : u_T := fun k => match k with
  | 0 => ("TimedThreads$Text", "characters", "[C", true)
  | _ => ("TimedThreads$Text", "length", "I", false)
def tyX7 : Nat → FieldType := fun k => match k with
  | 0 => .array .char
  | _ => .int
abbrev wsX70 : List Cond := u_ws RX7 TX7 2
theorem nmX7 : ∀ a, a < 2 → ∀ b, b < 2 → a ≠ b → (TX7 a).2.1 ≠ (TX7 b).2.1 := by decide +kernel
theorem tyX7_ok : ∀ k, k < 2 → parseFieldDescriptor (TX7 k).2.2.1 = some (tyX7 k) := by decide +kernel
abbrev cX7_init : ByteArray := prog_9_method_1_code
def yX7_init : MethodName := ⟨RX7, "<init>", "()V"⟩
abbrev cX7_canBeTyped : ByteArray := prog_9_method_2_code
def yX7_canBeTyped : MethodName := ⟨RX7, "canBeTyped", "(JI)Z"⟩
abbrev cX7_add : ByteArray := prog_9_method_3_code
def yX7_add : MethodName := ⟨RX7, "add", "(JI)V"⟩
abbrev cX7_byteOf : ByteArray := prog_9_method_4_code
def yX7_byteOf : MethodName := ⟨RX7, "byteOf", "(JI)C"⟩
def RX8 : String := "TimedThreads$TimedThread"
def TX8 : u_T := fun k => match k with
  | 0 => ("TimedThreads$TimedThread", "registers", "[I", true)
  | 1 => ("TimedThreads$TimedThread", "store", "[I", true)
  | 2 => ("TimedThreads$TimedThread", "history", "LTimedThreads$History;", true)
  | 3 => ("TimedThreads$TimedThread", "low", "I", false)
  | 4 => ("TimedThreads$TimedThread", "high", "I", false)
  | 5 => ("TimedThreads$TimedThread", "number", "I", true)
  | 6 => ("TimedThreads$TimedThread", "timers", "[I", true)
  | 7 => ("TimedThreads$TimedThread", "status", "I", false)
  | 8 => ("TimedThreads$TimedThread", "address", "I", false)
  | 9 => ("TimedThreads$TimedThread", "ready", "I", false)
  | 10 => ("TimedThreads$TimedThread", "nextAddress", "I", false)
  | _ => ("TimedThreads$TimedThread", "retirement", "I", false)
def tyX8 : Nat → FieldType := fun k => match k with
  | 0 => .array .int
  | 1 => .array .int
  | 2 => .object "TimedThreads$History"
  | 3 => .int
  | 4 => .int
  | 5 => .int
  | 6 => .array .int
  | 7 => .int
  | 8 => .int
  | 9 => .int
  | 10 => .int
  | _ => .int
abbrev wsX80 : List Cond := u_ws RX8 TX8 12
theorem nmX8 : ∀ a, a < 12 → ∀ b, b < 12 → a ≠ b → (TX8 a).2.1 ≠ (TX8 b).2.1 := by decide +kernel
theorem tyX8_ok : ∀ k, k < 12 → parseFieldDescriptor (TX8 k).2.2.1 = some (tyX8 k) := by decide +kernel
abbrev cX8_init : ByteArray := prog_10_method_1_code
def yX8_init : MethodName := ⟨RX8, "<init>", "(I)V"⟩
abbrev cX8_begin : ByteArray := prog_10_method_2_code
def yX8_begin : MethodName := ⟨RX8, "begin", "(II)V"⟩
abbrev cX8_condition : ByteArray := prog_10_method_3_code
def yX8_condition : MethodName := ⟨RX8, "condition", "(I)I"⟩
abbrev cX8_takeTurn : ByteArray := prog_10_method_4_code
def yX8_takeTurn : MethodName := ⟨RX8, "takeTurn", "(ILTimedThreads$SharedMemory;)Z"⟩
abbrev cX8_attempt : ByteArray := prog_10_method_5_code
def yX8_attempt : MethodName := ⟨RX8, "attempt", "(ILTimedThreads$SharedMemory;)LTimedThreads$Outcome;"⟩
abbrev cX8_loadUpper : ByteArray := prog_10_method_6_code
def yX8_loadUpper : MethodName := ⟨RX8, "loadUpper", "(I)LTimedThreads$Outcome;"⟩
abbrev cX8_jump : ByteArray := prog_10_method_7_code
def yX8_jump : MethodName := ⟨RX8, "jump", "(I)LTimedThreads$Outcome;"⟩
abbrev cX8_jumpToRegister : ByteArray := prog_10_method_8_code
def yX8_jumpToRegister : MethodName := ⟨RX8, "jumpToRegister", "(I)LTimedThreads$Outcome;"⟩
abbrev cX8_branch : ByteArray := prog_10_method_9_code
def yX8_branch : MethodName := ⟨RX8, "branch", "(I)LTimedThreads$Outcome;"⟩
abbrev cX8_isSo : ByteArray := prog_10_method_10_code
def yX8_isSo : MethodName := ⟨RX8, "isSo", "(III)Z"⟩
abbrev cX8_isBelowUnsigned : ByteArray := prog_10_method_11_code
def yX8_isBelowUnsigned : MethodName := ⟨RX8, "isBelowUnsigned", "(II)Z"⟩
abbrev cX8_load : ByteArray := prog_10_method_12_code
def yX8_load : MethodName := ⟨RX8, "load", "(IILTimedThreads$SharedMemory;)LTimedThreads$Outcome;"⟩
abbrev cX8_save : ByteArray := prog_10_method_13_code
def yX8_save : MethodName := ⟨RX8, "save", "(IILTimedThreads$SharedMemory;)LTimedThreads$Outcome;"⟩
abbrev cX8_canReach : ByteArray := prog_10_method_14_code
def yX8_canReach : MethodName := ⟨RX8, "canReach", "(II)Z"⟩
abbrev cX8_rowOf : ByteArray := prog_10_method_15_code
def yX8_rowOf : MethodName := ⟨RX8, "rowOf", "(ILTimedThreads$SharedMemory;)[I"⟩
abbrev cX8_placeOf : ByteArray := prog_10_method_16_code
def yX8_placeOf : MethodName := ⟨RX8, "placeOf", "(I)I"⟩
abbrev cX8_bitOf : ByteArray := prog_10_method_17_code
def yX8_bitOf : MethodName := ⟨RX8, "bitOf", "(I)I"⟩
abbrev cX8_setRetirement : ByteArray := prog_10_method_18_code
def yX8_setRetirement : MethodName := ⟨RX8, "setRetirement", "(IILTimedThreads$SharedMemory;)V"⟩
abbrev cX8_computeWithNumber : ByteArray := prog_10_method_19_code
def yX8_computeWithNumber : MethodName := ⟨RX8, "computeWithNumber", "(I)LTimedThreads$Outcome;"⟩
abbrev cX8_computeWithRegister : ByteArray := prog_10_method_20_code
def yX8_computeWithRegister : MethodName := ⟨RX8, "computeWithRegister", "(I)LTimedThreads$Outcome;"⟩
abbrev cX8_compute : ByteArray := prog_10_method_21_code
def yX8_compute : MethodName := ⟨RX8, "compute", "(IZII)I"⟩
abbrev cX8_timed : ByteArray := prog_10_method_22_code
def yX8_timed : MethodName := ⟨RX8, "timed", "(II)LTimedThreads$Outcome;"⟩
abbrev cX8_setTimer : ByteArray := prog_10_method_23_code
def yX8_setTimer : MethodName := ⟨RX8, "setTimer", "(III)LTimedThreads$Outcome;"⟩
abbrev cX8_halt : ByteArray := prog_10_method_24_code
def yX8_halt : MethodName := ⟨RX8, "halt", "(I)LTimedThreads$Outcome;"⟩
abbrev cX8_setRegister : ByteArray := prog_10_method_25_code
def yX8_setRegister : MethodName := ⟨RX8, "setRegister", "(II)V"⟩
abbrev cX8_isInStore : ByteArray := prog_10_method_26_code
def yX8_isInStore : MethodName := ⟨RX8, "isInStore", "(I)Z"⟩
abbrev cX8_isAligned : ByteArray := prog_10_method_27_code
def yX8_isAligned : MethodName := ⟨RX8, "isAligned", "(I)Z"⟩
def RX9 : String := "TimedThreads$Tokens"
def TX9 : u_T := fun k => match k with
  | 0 => ("TimedThreads$Tokens", "kinds", "[C", true)
  | 1 => ("TimedThreads$Tokens", "values", "[J", true)
  | 2 => ("TimedThreads$Tokens", "count", "I", false)
  | 3 => ("TimedThreads$Tokens", "characters", "[C", false)
  | 4 => ("TimedThreads$Tokens", "length", "I", false)
  | _ => ("TimedThreads$Tokens", "at", "I", false)
def tyX9 : Nat → FieldType := fun k => match k with
  | 0 => .array .char
  | 1 => .array .long
  | 2 => .int
  | 3 => .array .char
  | 4 => .int
  | _ => .int
abbrev wsX90 : List Cond := u_ws RX9 TX9 6
theorem nmX9 : ∀ a, a < 6 → ∀ b, b < 6 → a ≠ b → (TX9 a).2.1 ≠ (TX9 b).2.1 := by decide +kernel
theorem tyX9_ok : ∀ k, k < 6 → parseFieldDescriptor (TX9 k).2.2.1 = some (tyX9 k) := by decide +kernel
abbrev cX9_init : ByteArray := prog_11_method_1_code
def yX9_init : MethodName := ⟨RX9, "<init>", "()V"⟩
abbrev cX9_withLetter : ByteArray := prog_11_method_2_code
def yX9_withLetter : MethodName := ⟨RX9, "withLetter", "(JC)J"⟩
abbrev cX9_split : ByteArray := prog_11_method_3_code
def yX9_split : MethodName := ⟨RX9, "split", "(LTimedThreads$Text;)V"⟩
abbrev cX9_kindAt : ByteArray := prog_11_method_4_code
def yX9_kindAt : MethodName := ⟨RX9, "kindAt", "(I)C"⟩
abbrev cX9_valueAt : ByteArray := prog_11_method_5_code
def yX9_valueAt : MethodName := ⟨RX9, "valueAt", "(I)J"⟩
abbrev cX9_size : ByteArray := prog_11_method_6_code
def yX9_size : MethodName := ⟨RX9, "size", "()I"⟩
abbrev cX9_takeMark : ByteArray := prog_11_method_7_code
def yX9_takeMark : MethodName := ⟨RX9, "takeMark", "(C)V"⟩
abbrev cX9_takeLetters : ByteArray := prog_11_method_8_code
def yX9_takeLetters : MethodName := ⟨RX9, "takeLetters", "()V"⟩
abbrev cX9_takeRegister : ByteArray := prog_11_method_9_code
def yX9_takeRegister : MethodName := ⟨RX9, "takeRegister", "()V"⟩
abbrev cX9_takeNumber : ByteArray := prog_11_method_10_code
def yX9_takeNumber : MethodName := ⟨RX9, "takeNumber", "(Z)V"⟩
abbrev cX9_takeDigits : ByteArray := prog_11_method_11_code
def yX9_takeDigits : MethodName := ⟨RX9, "takeDigits", "()J"⟩
abbrev cX9_add : ByteArray := prog_11_method_12_code
def yX9_add : MethodName := ⟨RX9, "add", "(CJ)V"⟩
abbrev cX9_isLetter : ByteArray := prog_11_method_13_code
def yX9_isLetter : MethodName := ⟨RX9, "isLetter", "(C)Z"⟩
abbrev cX9_isDigit : ByteArray := prog_11_method_14_code
def yX9_isDigit : MethodName := ⟨RX9, "isDigit", "(C)Z"⟩
def RX10 : String := "TimedThreads"
def TX10 : u_T := fun k => match k with
  | 0 => ("TimedThreads", "memory", "LTimedThreads$SharedMemory;", true)
  | 1 => ("TimedThreads", "threads", "[LTimedThreads$TimedThread;", true)
  | 2 => ("TimedThreads", "text", "LTimedThreads$Text;", true)
  | 3 => ("TimedThreads", "assembler", "LTimedThreads$Assembler;", true)
  | _ => ("TimedThreads", "cycle", "I", false)
def tyX10 : Nat → FieldType := fun k => match k with
  | 0 => .object "TimedThreads$SharedMemory"
  | 1 => .array (.object "TimedThreads$TimedThread")
  | 2 => .object "TimedThreads$Text"
  | 3 => .object "TimedThreads$Assembler"
  | _ => .int
abbrev wsX100 : List Cond := u_ws RX10 TX10 5
theorem nmX10 : ∀ a, a < 5 → ∀ b, b < 5 → a ≠ b → (TX10 a).2.1 ≠ (TX10 b).2.1 := by decide +kernel
theorem tyX10_ok : ∀ k, k < 5 → parseFieldDescriptor (TX10 k).2.2.1 = some (tyX10 k) := by decide +kernel
abbrev cX10_init : ByteArray := prog_1_method_1_code
def yX10_init : MethodName := ⟨RX10, "<init>", "(I)V"⟩
abbrev cX10_type : ByteArray := prog_1_method_2_code
def yX10_type : MethodName := ⟨RX10, "type", "(JI)I"⟩
abbrev cX10_clear : ByteArray := prog_1_method_3_code
def yX10_clear : MethodName := ⟨RX10, "clear", "()I"⟩
abbrev cX10_assemble : ByteArray := prog_1_method_4_code
def yX10_assemble : MethodName := ⟨RX10, "assemble", "(II)I"⟩
abbrev cX10_fault : ByteArray := prog_1_method_5_code
def yX10_fault : MethodName := ⟨RX10, "fault", "(I)I"⟩
abbrev cX10_peek : ByteArray := prog_1_method_6_code
def yX10_peek : MethodName := ⟨RX10, "peek", "(II)I"⟩
abbrev cX10_poke : ByteArray := prog_1_method_7_code
def yX10_poke : MethodName := ⟨RX10, "poke", "(III)Z"⟩
abbrev cX10_shared : ByteArray := prog_1_method_8_code
def yX10_shared : MethodName := ⟨RX10, "shared", "(I)I"⟩
abbrev cX10_part : ByteArray := prog_1_method_9_code
def yX10_part : MethodName := ⟨RX10, "part", "(III)Z"⟩
abbrev cX10_start : ByteArray := prog_1_method_10_code
def yX10_start : MethodName := ⟨RX10, "start", "(II)Z"⟩
abbrev cX10_run : ByteArray := prog_1_method_11_code
def yX10_run : MethodName := ⟨RX10, "run", "(I)I"⟩
abbrev cX10_now : ByteArray := prog_1_method_12_code
def yX10_now : MethodName := ⟨RX10, "now", "()I"⟩
abbrev cX10_register : ByteArray := prog_1_method_13_code
def yX10_register : MethodName := ⟨RX10, "register", "(II)I"⟩
abbrev cX10_state : ByteArray := prog_1_method_14_code
def yX10_state : MethodName := ⟨RX10, "state", "(II)I"⟩
abbrev cX10_trace : ByteArray := prog_1_method_15_code
def yX10_trace : MethodName := ⟨RX10, "trace", "(III)I"⟩
abbrev cX10_isThread : ByteArray := prog_1_method_16_code
def yX10_isThread : MethodName := ⟨RX10, "isThread", "(I)Z"⟩
abbrev cX10_isStoreWord : ByteArray := prog_1_method_17_code
def yX10_isStoreWord : MethodName := ⟨RX10, "isStoreWord", "(II)Z"⟩
abbrev cX10_isRegister : ByteArray := prog_1_method_18_code
def yX10_isRegister : MethodName := ⟨RX10, "isRegister", "(I)Z"⟩
def RX11 : String := "TimedThreadsModel"
def TX11 : u_T := fun k => match k with
  | 0 => ("TimedThreadsModel", "refusal", "I", false)
  | 1 => ("TimedThreadsModel", "wheel", "I", false)
  | 2 => ("TimedThreadsModel", "now", "I", false)
  | 3 => ("TimedThreadsModel", "text", "[C", false)
  | 4 => ("TimedThreadsModel", "length", "I", false)
  | 5 => ("TimedThreadsModel", "at", "I", false)
  | 6 => ("TimedThreadsModel", "fault", "I", false)
  | 7 => ("TimedThreadsModel", "faultLine", "I", false)
  | 8 => ("TimedThreadsModel", "line", "I", false)
  | 9 => ("TimedThreadsModel", "words", "I", false)
  | 10 => ("TimedThreadsModel", "labels", "I", false)
  | 11 => ("TimedThreadsModel", "targets", "I", false)
  | 12 => ("TimedThreadsModel", "wrong", "Z", false)
  | 13 => ("TimedThreadsModel", "unfit", "Z", false)
  | 14 => ("TimedThreadsModel", "code", "[I", false)
  | 15 => ("TimedThreadsModel", "label", "[J", false)
  | 16 => ("TimedThreadsModel", "labelWord", "[I", false)
  | 17 => ("TimedThreadsModel", "target", "[J", false)
  | 18 => ("TimedThreadsModel", "targetWord", "[I", false)
  | 19 => ("TimedThreadsModel", "targetLine", "[I", false)
  | 20 => ("TimedThreadsModel", "store", "[I", false)
  | 21 => ("TimedThreadsModel", "common", "[I", false)
  | 22 => ("TimedThreadsModel", "low", "[I", false)
  | 23 => ("TimedThreadsModel", "high", "[I", false)
  | 24 => ("TimedThreadsModel", "register", "[I", false)
  | 25 => ("TimedThreadsModel", "address", "[I", false)
  | 26 => ("TimedThreadsModel", "status", "[I", false)
  | 27 => ("TimedThreadsModel", "did", "[I", false)
  | 28 => ("TimedThreadsModel", "ready", "[I", false)
  | 29 => ("TimedThreadsModel", "timer", "[I", false)
  | _ => ("TimedThreadsModel", "trace", "[I", false)
def tyX11 : Nat → FieldType := fun k => match k with
  | 0 => .int
  | 1 => .int
  | 2 => .int
  | 3 => .array .char
  | 4 => .int
  | 5 => .int
  | 6 => .int
  | 7 => .int
  | 8 => .int
  | 9 => .int
  | 10 => .int
  | 11 => .int
  | 12 => .boolean
  | 13 => .boolean
  | 14 => .array .int
  | 15 => .array .long
  | 16 => .array .int
  | 17 => .array .long
  | 18 => .array .int
  | 19 => .array .int
  | 20 => .array .int
  | 21 => .array .int
  | 22 => .array .int
  | 23 => .array .int
  | 24 => .array .int
  | 25 => .array .int
  | 26 => .array .int
  | 27 => .array .int
  | 28 => .array .int
  | 29 => .array .int
  | _ => .array .int
abbrev wsX110 : List Cond := u_ws RX11 TX11 31
theorem nmX11 : ∀ a, a < 31 → ∀ b, b < 31 → a ≠ b → (TX11 a).2.1 ≠ (TX11 b).2.1 := by decide +kernel
theorem tyX11_ok : ∀ k, k < 31 → parseFieldDescriptor (TX11 k).2.2.1 = some (tyX11 k) := by decide +kernel
abbrev cX11_init : ByteArray := prog_13_method_1_code
def yX11_init : MethodName := ⟨RX11, "<init>", "(I)V"⟩
abbrev cX11_thrown : ByteArray := prog_13_method_2_code
def yX11_thrown : MethodName := ⟨RX11, "thrown", "()I"⟩
abbrev cX11_refuse : ByteArray := prog_13_method_3_code
def yX11_refuse : MethodName := ⟨RX11, "refuse", "(I)I"⟩
abbrev cX11_isCharacter : ByteArray := prog_13_method_4_code
def yX11_isCharacter : MethodName := ⟨RX11, "isCharacter", "(J)Z"⟩
abbrev cX11_type : ByteArray := prog_13_method_5_code
def yX11_type : MethodName := ⟨RX11, "type", "(JI)I"⟩
abbrev cX11_clear : ByteArray := prog_13_method_6_code
def yX11_clear : MethodName := ⟨RX11, "clear", "()I"⟩
abbrev cX11_character : ByteArray := prog_13_method_7_code
def yX11_character : MethodName := ⟨RX11, "character", "(I)I"⟩
abbrev cX11_isLetter : ByteArray := prog_13_method_8_code
def yX11_isLetter : MethodName := ⟨RX11, "isLetter", "(I)Z"⟩
abbrev cX11_isDigit : ByteArray := prog_13_method_9_code
def yX11_isDigit : MethodName := ⟨RX11, "isDigit", "(I)Z"⟩
abbrev cX11_skip : ByteArray := prog_13_method_10_code
def yX11_skip : MethodName := ⟨RX11, "skip", "()V"⟩
abbrev cX11_isEnd : ByteArray := prog_13_method_11_code
def yX11_isEnd : MethodName := ⟨RX11, "isEnd", "()Z"⟩
abbrev cX11_letters : ByteArray := prog_13_method_12_code
def yX11_letters : MethodName := ⟨RX11, "letters", "()J"⟩
abbrev cX11_need : ByteArray := prog_13_method_13_code
def yX11_need : MethodName := ⟨RX11, "need", "(I)V"⟩
abbrev cX11_takeRegister : ByteArray := prog_13_method_14_code
def yX11_takeRegister : MethodName := ⟨RX11, "takeRegister", "()I"⟩
abbrev cX11_number : ByteArray := prog_13_method_15_code
def yX11_number : MethodName := ⟨RX11, "number", "(JJ)J"⟩
abbrev cX11_lookup : ByteArray := prog_13_method_16_code
def yX11_lookup : MethodName := ⟨RX11, "lookup", "(J)I"⟩
abbrev cX11_immediate : ByteArray := prog_13_method_17_code
def yX11_immediate : MethodName := ⟨RX11, "immediate", "(I)I"⟩
abbrev cX11_storing : ByteArray := prog_13_method_18_code
def yX11_storing : MethodName := ⟨RX11, "storing", "(I)I"⟩
abbrev cX11_branching : ByteArray := prog_13_method_19_code
def yX11_branching : MethodName := ⟨RX11, "branching", "(I)I"⟩
abbrev cX11_jumping : ByteArray := prog_13_method_20_code
def yX11_jumping : MethodName := ⟨RX11, "jumping", "(I)I"⟩
abbrev cX11_distance : ByteArray := prog_13_method_21_code
def yX11_distance : MethodName := ⟨RX11, "distance", "(Z)I"⟩
abbrev cX11_pair : ByteArray := prog_13_method_22_code
def yX11_pair : MethodName := ⟨RX11, "pair", "(II)I"⟩
abbrev cX11_operands : ByteArray := prog_13_method_23_code
def yX11_operands : MethodName := ⟨RX11, "operands", "(I)I"⟩
abbrev cX11_labelOf : ByteArray := prog_13_method_24_code
def yX11_labelOf : MethodName := ⟨RX11, "labelOf", "(J)I"⟩
abbrev cX11_takeLine : ByteArray := prog_13_method_25_code
def yX11_takeLine : MethodName := ⟨RX11, "takeLine", "(I)V"⟩
abbrev cX11_link : ByteArray := prog_13_method_26_code
def yX11_link : MethodName := ⟨RX11, "link", "(I)V"⟩
abbrev cX11_assemble : ByteArray := prog_13_method_27_code
def yX11_assemble : MethodName := ⟨RX11, "assemble", "(II)I"⟩
abbrev cX11_fault : ByteArray := prog_13_method_28_code
def yX11_fault : MethodName := ⟨RX11, "fault", "(I)I"⟩
abbrev cX11_peek : ByteArray := prog_13_method_29_code
def yX11_peek : MethodName := ⟨RX11, "peek", "(II)I"⟩
abbrev cX11_poke : ByteArray := prog_13_method_30_code
def yX11_poke : MethodName := ⟨RX11, "poke", "(III)Z"⟩
abbrev cX11_shared : ByteArray := prog_13_method_31_code
def yX11_shared : MethodName := ⟨RX11, "shared", "(I)I"⟩
abbrev cX11_part : ByteArray := prog_13_method_32_code
def yX11_part : MethodName := ⟨RX11, "part", "(III)Z"⟩
abbrev cX11_isOwn : ByteArray := prog_13_method_33_code
def yX11_isOwn : MethodName := ⟨RX11, "isOwn", "(I)Z"⟩
abbrev cX11_isThere : ByteArray := prog_13_method_34_code
def yX11_isThere : MethodName := ⟨RX11, "isThere", "(III)Z"⟩
abbrev cX11_wordAt : ByteArray := prog_13_method_35_code
def yX11_wordAt : MethodName := ⟨RX11, "wordAt", "(II)I"⟩
abbrev cX11_put : ByteArray := prog_13_method_36_code
def yX11_put : MethodName := ⟨RX11, "put", "(III)V"⟩
abbrev cX11_start : ByteArray := prog_13_method_37_code
def yX11_start : MethodName := ⟨RX11, "start", "(II)Z"⟩
abbrev cX11_set : ByteArray := prog_13_method_38_code
def yX11_set : MethodName := ⟨RX11, "set", "(III)V"⟩
abbrev cX11_done : ByteArray := prog_13_method_39_code
def yX11_done : MethodName := ⟨RX11, "done", "(III)I"⟩
abbrev cX11_stop : ByteArray := prog_13_method_40_code
def yX11_stop : MethodName := ⟨RX11, "stop", "(I)I"⟩
abbrev cX11_isLess : ByteArray := prog_13_method_41_code
def yX11_isLess : MethodName := ⟨RX11, "isLess", "(II)Z"⟩
abbrev cX11_worked : ByteArray := prog_13_method_42_code
def yX11_worked : MethodName := ⟨RX11, "worked", "(IZII)I"⟩
abbrev cX11_goes : ByteArray := prog_13_method_43_code
def yX11_goes : MethodName := ⟨RX11, "goes", "(III)Z"⟩
abbrev cX11_first : ByteArray := prog_13_method_44_code
def yX11_first : MethodName := ⟨RX11, "first", "(I)I"⟩
abbrev cX11_moveWord : ByteArray := prog_13_method_45_code
def yX11_moveWord : MethodName := ⟨RX11, "moveWord", "(IIZ)I"⟩
abbrev cX11_calculate : ByteArray := prog_13_method_46_code
def yX11_calculate : MethodName := ⟨RX11, "calculate", "(IIZ)I"⟩
abbrev cX11_jump : ByteArray := prog_13_method_47_code
def yX11_jump : MethodName := ⟨RX11, "jump", "(IIZ)I"⟩
abbrev cX11_branch : ByteArray := prog_13_method_48_code
def yX11_branch : MethodName := ⟨RX11, "branch", "(II)I"⟩
abbrev cX11_clock : ByteArray := prog_13_method_49_code
def yX11_clock : MethodName := ⟨RX11, "clock", "(II)I"⟩
abbrev cX11_turn : ByteArray := prog_13_method_50_code
def yX11_turn : MethodName := ⟨RX11, "turn", "(I)I"⟩
abbrev cX11_run : ByteArray := prog_13_method_51_code
def yX11_run : MethodName := ⟨RX11, "run", "(I)I"⟩
abbrev cX11_now : ByteArray := prog_13_method_52_code
def yX11_now : MethodName := ⟨RX11, "now", "()I"⟩
abbrev cX11_register : ByteArray := prog_13_method_53_code
def yX11_register : MethodName := ⟨RX11, "register", "(II)I"⟩
abbrev cX11_state : ByteArray := prog_13_method_54_code
def yX11_state : MethodName := ⟨RX11, "state", "(II)I"⟩
abbrev cX11_trace : ByteArray := prog_13_method_55_code
def yX11_trace : MethodName := ⟨RX11, "trace", "(III)I"⟩
def RJx29ce0 : String := "java/lang/Enum"
def TJx29ce0 : u_T := fun k => match k with
  | _ => ("", "", "", false)
def tyJx29ce0 : Nat → FieldType := fun k => match k with
  | _ => .int
abbrev wsJx29ce00 : List Cond := u_ws RJx29ce0 TJx29ce0 0
theorem nmJx29ce0 : ∀ a, a < 0 → ∀ b, b < 0 → a ≠ b → (TJx29ce0 a).2.1 ≠ (TJx29ce0 b).2.1 := by decide +kernel
theorem tyJx29ce0_ok : ∀ k, k < 0 → parseFieldDescriptor (TJx29ce0 k).2.2.1 = some (tyJx29ce0 k) := by decide +kernel
def RJ9 : String := "java/lang/Math"
def TJ9 : u_T := fun k => match k with
  | _ => ("", "", "", false)
def tyJ9 : Nat → FieldType := fun k => match k with
  | _ => .int
abbrev wsJ90 : List Cond := u_ws RJ9 TJ9 0
theorem nmJ9 : ∀ a, a < 0 → ∀ b, b < 0 → a ≠ b → (TJ9 a).2.1 ≠ (TJ9 b).2.1 := by decide +kernel
theorem tyJ9_ok : ∀ k, k < 0 → parseFieldDescriptor (TJ9 k).2.2.1 = some (tyJ9 k) := by decide +kernel
abbrev cJ9_floorMod_7cf53 : ByteArray := prog_18_method_50_code
def yJ9_floorMod_7cf53 : MethodName := ⟨RJ9, "floorMod", "(II)I"⟩
abbrev cJ9_max_7cf53 : ByteArray := prog_18_method_65_code
def yJ9_max_7cf53 : MethodName := ⟨RJ9, "max", "(II)I"⟩
abbrev cJ9_max_f86c9 : ByteArray := prog_18_method_66_code
def yJ9_max_f86c9 : MethodName := ⟨RJ9, "max", "(JJ)J"⟩
abbrev cJ9_min_7cf53 : ByteArray := prog_18_method_69_code
def yJ9_min_7cf53 : MethodName := ⟨RJ9, "min", "(II)I"⟩
abbrev cJ9_min_f86c9 : ByteArray := prog_18_method_70_code
def yJ9_min_f86c9 : MethodName := ⟨RJ9, "min", "(JJ)J"⟩
def RJ0 : String := "java/lang/String"
def TJ0 : u_T := fun k => match k with
  | _ => ("", "", "", false)
def tyJ0 : Nat → FieldType := fun k => match k with
  | _ => .int
abbrev wsJ00 : List Cond := u_ws RJ0 TJ0 0
theorem nmJ0 : ∀ a, a < 0 → ∀ b, b < 0 → a ≠ b → (TJ0 a).2.1 ≠ (TJ0 b).2.1 := by decide +kernel
theorem tyJ0_ok : ∀ k, k < 0 → parseFieldDescriptor (TJ0 k).2.2.1 = some (tyJ0 k) := by decide +kernel
abbrev cJ0_length_8abf5 : ByteArray := prog_20_method_54_code
def yJ0_length_8abf5 : MethodName := ⟨RJ0, "length", "()I"⟩
abbrev cJ0_charAt_5068e : ByteArray := prog_20_method_56_code
def yJ0_charAt_5068e : MethodName := ⟨RJ0, "charAt", "(I)C"⟩
abbrev cJ0_coder_7d493 : ByteArray := prog_20_method_152_code
def yJ0_coder_7d493 : MethodName := ⟨RJ0, "coder", "()B"⟩
abbrev cJ0_isLatin1_aae02 : ByteArray := prog_20_method_154_code
def yJ0_isLatin1_aae02 : MethodName := ⟨RJ0, "isLatin1", "()Z"⟩
abbrev cJ0_checkIndex_df160 : ByteArray := prog_20_method_155_code
def yJ0_checkIndex_df160 : MethodName := ⟨RJ0, "checkIndex", "(II)V"⟩
def RJ1 : String := "java/lang/StringLatin1"
def TJ1 : u_T := fun k => match k with
  | _ => ("", "", "", false)
def tyJ1 : Nat → FieldType := fun k => match k with
  | _ => .int
abbrev wsJ10 : List Cond := u_ws RJ1 TJ1 0
theorem nmJ1 : ∀ a, a < 0 → ∀ b, b < 0 → a ≠ b → (TJ1 a).2.1 ≠ (TJ1 b).2.1 := by decide +kernel
theorem tyJ1_ok : ∀ k, k < 0 → parseFieldDescriptor (TJ1 k).2.2.1 = some (tyJ1 k) := by decide +kernel
abbrev cJ1_charAt_3b067 : ByteArray := prog_21_method_2_code
def yJ1_charAt_3b067 : MethodName := ⟨RJ1, "charAt", "([BI)C"⟩
def RJ2 : String := "java/lang/StringUTF16"
def TJ2 : u_T := fun k => match k with
  | _ => ("", "", "", false)
def tyJ2 : Nat → FieldType := fun k => match k with
  | _ => .int
abbrev wsJ20 : List Cond := u_ws RJ2 TJ2 0
theorem nmJ2 : ∀ a, a < 0 → ∀ b, b < 0 → a ≠ b → (TJ2 a).2.1 ≠ (TJ2 b).2.1 := by decide +kernel
theorem tyJ2_ok : ∀ k, k < 0 → parseFieldDescriptor (TJ2 k).2.2.1 = some (tyJ2 k) := by decide +kernel
abbrev cJ2_getChar_3b067 : ByteArray := prog_22_method_5_code
def yJ2_getChar_3b067 : MethodName := ⟨RJ2, "getChar", "([BI)C"⟩
abbrev cJ2_length_9d52b : ByteArray := prog_22_method_6_code
def yJ2_length_9d52b : MethodName := ⟨RJ2, "length", "([B)I"⟩
abbrev cJ2_charAt_3b067 : ByteArray := prog_22_method_83_code
def yJ2_charAt_3b067 : MethodName := ⟨RJ2, "charAt", "([BI)C"⟩
abbrev cJ2_checkIndex_2214a : ByteArray := prog_22_method_91_code
def yJ2_checkIndex_2214a : MethodName := ⟨RJ2, "checkIndex", "(I[B)V"⟩
def RJ10 : String := "java/lang/System"
def TJ10 : u_T := fun k => match k with
  | _ => ("", "", "", false)
def tyJ10 : Nat → FieldType := fun k => match k with
  | _ => .int
abbrev wsJ100 : List Cond := u_ws RJ10 TJ10 0
theorem nmJ10 : ∀ a, a < 0 → ∀ b, b < 0 → a ≠ b → (TJ10 a).2.1 ≠ (TJ10 b).2.1 := by decide +kernel
theorem tyJ10_ok : ∀ k, k < 0 → parseFieldDescriptor (TJ10 k).2.2.1 = some (tyJ10 k) := by decide +kernel
def RJ3 : String := "jdk/internal/util/Preconditions"
def TJ3 : u_T := fun k => match k with
  | _ => ("", "", "", false)
def tyJ3 : Nat → FieldType := fun k => match k with
  | _ => .int
abbrev wsJ30 : List Cond := u_ws RJ3 TJ3 0
theorem nmJ3 : ∀ a, a < 0 → ∀ b, b < 0 → a ≠ b → (TJ3 a).2.1 ≠ (TJ3 b).2.1 := by decide +kernel
theorem tyJ3_ok : ∀ k, k < 0 → parseFieldDescriptor (TJ3 k).2.2.1 = some (tyJ3 k) := by decide +kernel
abbrev cJ3_checkIndex_8e157 : ByteArray := prog_26_method_11_code
def yJ3_checkIndex_8e157 : MethodName := ⟨RJ3, "checkIndex", "(IILjava/util/function/BiFunction;)I"⟩
def RL : String := "TimedThreadsLaw"
abbrev cL_cell : ByteArray := method_2_code
def yL_cell : MethodName := ⟨RL, "cell", "([II)I"⟩
abbrev cL_type : ByteArray := method_3_code
def yL_type : MethodName := ⟨RL, "type", "(LTimedThreads;JI[J)I"⟩
abbrev cL_assemble : ByteArray := method_4_code
def yL_assemble : MethodName := ⟨RL, "assemble", "(LTimedThreads;II[J)I"⟩
abbrev cL_law : ByteArray := code
def yL_law : MethodName := ⟨RL, "law", "([I)Z"⟩
def wsJ0_checkIndex_df160 : List Cond := .code yJ0_checkIndex_df160 cJ0_checkIndex_df160 2 none :: ([.fieldLink RJ0 1053 "jdk/internal/util/Preconditions" "SIOOBE_FORMATTER" "Ljava/util/function/BiFunction;", .methodLink RJ0 1059 yJ3_checkIndex_8e157, .static yJ3_checkIndex_8e157, .initialized RJ3, .code yJ3_checkIndex_8e157 cJ3_checkIndex_8e157 3 (some .int)])
def wsX10_assemble_r10 : List Cond := [Cond.fieldLink RX3 15 "TimedThreads$Labels" "places" "[I", Cond.methodLink RX0 65 yX0_setFault, Cond.instanceMethod yX0_setFault, Cond.selects RX0 yX0_setFault yX0_setFault, Cond.code yX0_setFault cX0_setFault 3 none, Cond.methodLink RX0 69 yX0_keepLine, Cond.instanceMethod yX0_keepLine, Cond.selects RX0 yX0_keepLine yX0_keepLine, Cond.code yX0_keepLine cX0_keepLine 2 none, Cond.fieldLink RX0 9 "TimedThreads$Assembler" "words" "[I", Cond.fieldLink RX0 15 "TimedThreads$Assembler" "targets" "[J", Cond.fieldLink RX0 19 "TimedThreads$Assembler" "lines" "[I", Cond.methodLink RX0 114 yX3_add, Cond.instanceMethod yX3_add, Cond.selects RX3 yX3_add yX3_add, Cond.code yX3_add cX3_add 4 none, Cond.methodLink RX0 73 yX0_resolveTargets, Cond.instanceMethod yX0_resolveTargets, Cond.selects RX0 yX0_resolveTargets yX0_resolveTargets, Cond.code yX0_resolveTargets cX0_resolveTargets 5 none, Cond.methodLink RX0 195 yX1_op, Cond.static yX1_op, Cond.code yX1_op cX1_op 1 (some .int)]
abbrev vwCl : List vw_C := [(RX0, TX0, 15), (RX2, TX2, 4), (RX3, TX3, 3), (RX6, TX6, 2), (RX7, TX7, 2), (RX8, TX8, 12), (RX9, TX9, 6), (RX10, TX10, 5), (RX11, TX11, 31)]
end
section
def TT0 : List Cond := [Cond.classLink RL 8 RX10, Cond.instantiable RX10 5, Cond.initialized RX10, Cond.classLink RL 32 RX11, Cond.instantiable RX11 31, Cond.initialized RX11, Cond.arrayClass .long, Cond.constantLong RL 35 (4294967295), Cond.methodLink RL 23 yL_cell, Cond.static yL_cell, Cond.initialized RL, Cond.code yL_cell cL_cell 2 (some .int), Cond.methodLink RL 29 yX10_init, Cond.instanceMethod yX10_init, Cond.code yX10_init cX10_init 3 none, Cond.methodLink RX10 1 objectInit, Cond.instanceMethod objectInit, Cond.code objectInit ⟨#[0xb1]⟩ 1 none, Cond.classLink RX10 7 RX6, Cond.instantiable RX6 2, Cond.initialized RX6, Cond.methodLink RX10 11 Lib.Math.min.name, Cond.static Lib.Math.min.name, Cond.initialized "java/lang/Math"]
def TT1 : List Cond := [Cond.code Lib.Math.min.name Lib.Math.min.code 2 (some .int), Cond.methodLink RX10 17 Lib.Math.max.name, Cond.static Lib.Math.max.name, Cond.code Lib.Math.max.name Lib.Math.max.code 2 (some .int), Cond.fieldLink RX10 23 "TimedThreads" "memory" "LTimedThreads$SharedMemory;", Cond.classLink RX10 27 RX8, Cond.fieldLink RX10 29 "TimedThreads" "threads" "[LTimedThreads$TimedThread;", Cond.instantiable RX8 12, Cond.initialized RX8, Cond.classLink RX10 34 RX7, Cond.instantiable RX7 2, Cond.initialized RX7, Cond.fieldLink RX10 37 "TimedThreads" "text" "LTimedThreads$Text;", Cond.classLink RX10 41 RX0, Cond.instantiable RX0 15, Cond.initialized RX0, Cond.fieldLink RX10 44 "TimedThreads" "assembler" "LTimedThreads$Assembler;", Cond.methodLink RX10 20 yX6_init, Cond.instanceMethod yX6_init, Cond.code yX6_init cX6_init 2 none, Cond.methodLink RX6 3 objectInit, Cond.arrayClass .int, Cond.fieldLink RX6 9 "TimedThreads$SharedMemory" "words" "[I", Cond.fieldLink RX6 15 "TimedThreads$SharedMemory" "wheel" "I"]
def TT2 : List Cond := [Cond.methodLink RX10 33 yX8_init, Cond.instanceMethod yX8_init, Cond.code yX8_init cX8_init 2 none, Cond.methodLink RX8 3 objectInit, Cond.fieldLink RX8 9 "TimedThreads$TimedThread" "registers" "[I", Cond.fieldLink RX8 15 "TimedThreads$TimedThread" "store" "[I", Cond.classLink RX8 18 RX2, Cond.instantiable RX2 4, Cond.initialized RX2, Cond.fieldLink RX8 21 "TimedThreads$TimedThread" "history" "LTimedThreads$History;", Cond.fieldLink RX8 25 "TimedThreads$TimedThread" "timers" "[I", Cond.fieldLink RX8 28 "TimedThreads$TimedThread" "status" "I", Cond.fieldLink RX8 32 "TimedThreads$TimedThread" "number" "I", Cond.instanceMethod yX2_init, Cond.code yX2_init cX2_init 1 none, Cond.methodLink RX2 3 objectInit, Cond.fieldLink RX2 9 "TimedThreads$History" "addresses" "[I", Cond.fieldLink RX2 15 "TimedThreads$History" "cycles" "[I", Cond.fieldLink RX2 18 "TimedThreads$History" "retirements" "[I", Cond.instanceMethod yX7_init, Cond.code yX7_init cX7_init 1 none, Cond.methodLink RX7 3 objectInit, Cond.arrayClass .char, Cond.fieldLink RX7 9 "TimedThreads$Text" "characters" "[C"]
def TT3 : List Cond := [Cond.instanceMethod yX0_init, Cond.code yX0_init cX0_init 1 none, Cond.methodLink RX0 3 objectInit, Cond.fieldLink RX0 9 "TimedThreads$Assembler" "words" "[I", Cond.fieldLink RX0 15 "TimedThreads$Assembler" "targets" "[J", Cond.fieldLink RX0 19 "TimedThreads$Assembler" "lines" "[I", Cond.classLink RX0 22 RX3, Cond.instantiable RX3 3, Cond.initialized RX3, Cond.fieldLink RX0 25 "TimedThreads$Assembler" "labels" "LTimedThreads$Labels;", Cond.classLink RX0 29 RX9, Cond.instantiable RX9 6, Cond.initialized RX9, Cond.fieldLink RX0 32 "TimedThreads$Assembler" "tokens" "LTimedThreads$Tokens;", Cond.instanceMethod yX3_init, Cond.code yX3_init cX3_init 1 none, Cond.methodLink RX3 3 objectInit, Cond.fieldLink RX3 9 "TimedThreads$Labels" "keys" "[J", Cond.fieldLink RX3 15 "TimedThreads$Labels" "places" "[I", Cond.instanceMethod yX9_init, Cond.code yX9_init cX9_init 1 none, Cond.methodLink RX9 3 objectInit, Cond.fieldLink RX9 9 "TimedThreads$Tokens" "kinds" "[C", Cond.fieldLink RX9 15 "TimedThreads$Tokens" "values" "[J"]
def TT4 : List Cond := [Cond.methodLink RL 34 yX11_init, Cond.instanceMethod yX11_init, Cond.code yX11_init cX11_init 2 none, Cond.methodLink RX11 1 objectInit, Cond.fieldLink RX11 7 "TimedThreadsModel" "text" "[C", Cond.fieldLink RX11 13 "TimedThreadsModel" "code" "[I", Cond.fieldLink RX11 17 "TimedThreadsModel" "label" "[J", Cond.fieldLink RX11 21 "TimedThreadsModel" "labelWord" "[I", Cond.fieldLink RX11 24 "TimedThreadsModel" "target" "[J", Cond.fieldLink RX11 27 "TimedThreadsModel" "targetWord" "[I", Cond.fieldLink RX11 30 "TimedThreadsModel" "targetLine" "[I", Cond.fieldLink RX11 33 "TimedThreadsModel" "store" "[I", Cond.fieldLink RX11 36 "TimedThreadsModel" "common" "[I", Cond.fieldLink RX11 39 "TimedThreadsModel" "low" "[I", Cond.fieldLink RX11 42 "TimedThreadsModel" "high" "[I", Cond.fieldLink RX11 45 "TimedThreadsModel" "register" "[I", Cond.fieldLink RX11 48 "TimedThreadsModel" "address" "[I", Cond.fieldLink RX11 51 "TimedThreadsModel" "status" "[I", Cond.fieldLink RX11 54 "TimedThreadsModel" "did" "[I", Cond.fieldLink RX11 57 "TimedThreadsModel" "ready" "[I", Cond.fieldLink RX11 60 "TimedThreadsModel" "timer" "[I", Cond.fieldLink RX11 63 "TimedThreadsModel" "trace" "[I", Cond.fieldLink RX11 66 "TimedThreadsModel" "wheel" "I", Cond.methodLink RL 37 yL_type]
def TT5 : List Cond := [Cond.static yL_type, Cond.codeWith yL_type cL_type 6 (some .int) [(0, 11, 14, 13), (0, 11, 18, 15)], Cond.classLink RL 13 "java/lang/IllegalArgumentException", Cond.classLink RL 15 "java/lang/IllegalStateException", Cond.methodLink RL 7 yX10_type, Cond.instanceMethod yX10_type, Cond.selects RX10 yX10_type yX10_type, Cond.code yX10_type cX10_type 4 (some .int), Cond.classLink RX10 52 "java/lang/IllegalArgumentException", Cond.initialized "java/lang/IllegalArgumentException", Cond.classLink RX10 59 "java/lang/IllegalStateException", Cond.initialized "java/lang/IllegalStateException", Cond.fieldLink RX10 55 "TimedThreads$Text" "length" "I", Cond.methodLink RX10 48 yX7_canBeTyped, Cond.static yX7_canBeTyped, Cond.code yX7_canBeTyped cX7_canBeTyped 5 (some .boolean), Cond.methodLink RX7 15 yX7_byteOf, Cond.static yX7_byteOf, Cond.code yX7_byteOf cX7_byteOf 3 (some .char), Cond.constantLong RX7 23 (255), Cond.methodLink RX10 62 yX7_add, Cond.instanceMethod yX7_add, Cond.selects RX7 yX7_add yX7_add, Cond.code yX7_add cX7_add 5 none]
def TT6 : List Cond := [Cond.fieldLink RX7 19 "TimedThreads$Text" "length" "I", Cond.methodLink RL 40 yX11_type, Cond.instanceMethod yX11_type, Cond.selects RX11 yX11_type yX11_type, Cond.code yX11_type cX11_type 6 (some .int), Cond.constantLong RX11 79 (255), Cond.fieldLink RX11 85 "TimedThreadsModel" "length" "I", Cond.fieldLink RX11 70 "TimedThreadsModel" "refusal" "I", Cond.methodLink RX11 81 yX11_isCharacter, Cond.static yX11_isCharacter, Cond.code yX11_isCharacter cX11_isCharacter 2 (some .boolean), Cond.constantLong RX11 73 (10), Cond.constantLong RX11 75 (32), Cond.constantLong RX11 77 (126), Cond.methodLink RL 41 yX11_thrown, Cond.instanceMethod yX11_thrown, Cond.selects RX11 yX11_thrown yX11_thrown, Cond.code yX11_thrown cX11_thrown 1 (some .int), Cond.methodLink RL 45 yX10_clear, Cond.instanceMethod yX10_clear, Cond.selects RX10 yX10_clear yX10_clear, Cond.code yX10_clear cX10_clear 2 (some .int), Cond.methodLink RL 48 yX11_clear, Cond.instanceMethod yX11_clear]
def TT7 : List Cond := [Cond.selects RX11 yX11_clear yX11_clear, Cond.code yX11_clear cX11_clear 2 (some .int), Cond.methodLink RL 49 yL_assemble, Cond.static yL_assemble, Cond.codeWith yL_assemble cL_assemble 5 (some .int) [(0, 10, 13, 21), (0, 10, 17, 13)], Cond.classLink RL 21 "java/util/NoSuchElementException", Cond.methodLink RL 17 yX10_assemble, Cond.instanceMethod yX10_assemble, Cond.selects RX10 yX10_assemble yX10_assemble, Cond.code yX10_assemble cX10_assemble 3 (some .int), Cond.classLink RX10 70 "java/util/NoSuchElementException", Cond.initialized "java/util/NoSuchElementException", Cond.fieldLink RX10 77 "TimedThreads$Assembler" "faultKind" "I", Cond.fieldLink RX10 80 "TimedThreads$Assembler" "words" "[I", Cond.fieldLink RX10 84 "TimedThreads$TimedThread" "store" "[I", Cond.fieldLink RX10 87 "TimedThreads$Assembler" "count" "I", Cond.methodLink RX10 90 arraycopyName, Cond.native arraycopyName, Cond.static arraycopyName, Cond.initialized "java/lang/System", Cond.methodLink RX10 66 yX10_isStoreWord, Cond.static yX10_isStoreWord, Cond.code yX10_isStoreWord cX10_isStoreWord 2 (some .boolean), Cond.methodLink RX10 100 yX10_isThread]
def TT8 : List Cond := [Cond.static yX10_isThread, Cond.code yX10_isThread cX10_isThread 1 (some .boolean), Cond.methodLink RX10 73 yX0_read, Cond.instanceMethod yX0_read, Cond.selects RX0 yX0_read yX0_read, Cond.code yX0_read cX0_read 5 none, Cond.fieldLink RX0 40 "TimedThreads$Assembler" "at" "I", Cond.fieldLink RX0 44 "TimedThreads$Assembler" "count" "I", Cond.fieldLink RX0 47 "TimedThreads$Labels" "count" "I", Cond.fieldLink RX0 48 "TimedThreads$Assembler" "faultKind" "I", Cond.fieldLink RX0 51 "TimedThreads$Assembler" "faultLine" "I", Cond.methodLink RX0 36 yX9_split, Cond.instanceMethod yX9_split, Cond.selects RX9 yX9_split yX9_split, Cond.code yX9_split cX9_split 4 none, Cond.fieldLink RX9 19 "TimedThreads$Text" "characters" "[C", Cond.fieldLink RX9 24 "TimedThreads$Tokens" "characters" "[C", Cond.fieldLink RX9 25 "TimedThreads$Text" "length" "I", Cond.fieldLink RX9 29 "TimedThreads$Tokens" "length" "I", Cond.fieldLink RX9 30 "TimedThreads$Tokens" "count" "I", Cond.fieldLink RX9 33 "TimedThreads$Tokens" "at" "I", Cond.methodLink RX9 36 yX9_isLetter, Cond.static yX9_isLetter, Cond.code yX9_isLetter cX9_isLetter 1 (some .boolean)]
def TT9 : List Cond := [Cond.methodLink RX9 40 yX9_takeLetters, Cond.instanceMethod yX9_takeLetters, Cond.selects RX9 yX9_takeLetters yX9_takeLetters, Cond.code yX9_takeLetters cX9_takeLetters 5 none, Cond.methodLink RX9 58 yX9_withLetter, Cond.static yX9_withLetter, Cond.code yX9_withLetter cX9_withLetter 3 (some .long), Cond.methodLink RX9 43 yX9_isDigit, Cond.static yX9_isDigit, Cond.code yX9_isDigit cX9_isDigit 1 (some .boolean), Cond.methodLink RX9 62 yX9_takeRegister, Cond.instanceMethod yX9_takeRegister, Cond.selects RX9 yX9_takeRegister yX9_takeRegister, Cond.code yX9_takeRegister cX9_takeRegister 4 none, Cond.constantLong RX9 69 (16), Cond.methodLink RX9 65 yX9_takeDigits, Cond.instanceMethod yX9_takeDigits, Cond.selects RX9 yX9_takeDigits yX9_takeDigits, Cond.code yX9_takeDigits cX9_takeDigits 4 (some .long), Cond.constantLong RX9 71 (10), Cond.constantLong RX9 73 (1099511627776), Cond.methodLink RX9 54 yX9_add, Cond.instanceMethod yX9_add, Cond.selects RX9 yX9_add yX9_add]
def TT10 : List Cond := [Cond.code yX9_add cX9_add 4 none, Cond.methodLink RX9 46 yX9_takeNumber, Cond.instanceMethod yX9_takeNumber, Cond.selects RX9 yX9_takeNumber yX9_takeNumber, Cond.code yX9_takeNumber cX9_takeNumber 5 none, Cond.methodLink RX9 50 yX9_takeMark, Cond.instanceMethod yX9_takeMark, Cond.selects RX9 yX9_takeMark yX9_takeMark, Cond.code yX9_takeMark cX9_takeMark 2 none, Cond.methodLink RX0 54 yX9_size, Cond.instanceMethod yX9_size, Cond.selects RX9 yX9_size yX9_size, Cond.code yX9_size cX9_size 1 (some .int), Cond.methodLink RX0 58 yX0_readLine, Cond.instanceMethod yX0_readLine, Cond.selects RX0 yX0_readLine yX0_readLine, Cond.code yX0_readLine cX0_readLine 1 none, Cond.fieldLink RX0 76 "TimedThreads$Assembler" "label" "J", Cond.fieldLink RX0 80 "TimedThreads$Assembler" "hasWord" "Z", Cond.fieldLink RX0 84 "TimedThreads$Assembler" "word" "I", Cond.fieldLink RX0 87 "TimedThreads$Assembler" "target" "J", Cond.fieldLink RX0 90 "TimedThreads$Assembler" "malformed" "Z", Cond.fieldLink RX0 93 "TimedThreads$Assembler" "misfit" "Z", Cond.methodLink RX0 96 yX9_kindAt]
def TT11 : List Cond := [Cond.instanceMethod yX9_kindAt, Cond.selects RX9 yX9_kindAt yX9_kindAt, Cond.code yX9_kindAt cX9_kindAt 2 (some .char), Cond.methodLink RX0 100 yX9_valueAt, Cond.instanceMethod yX9_valueAt, Cond.selects RX9 yX9_valueAt yX9_valueAt, Cond.code yX9_valueAt cX9_valueAt 2 (some .long), Cond.methodLink RX0 104 yX0_mnemonicOf, Cond.static yX0_mnemonicOf, Cond.code yX0_mnemonicOf cX0_mnemonicOf 3 (some .int), Cond.fieldLink RX0 122 "TimedThreads$Mnemonic" "key" "J", Cond.methodLink RX0 108 yX0_readInstruction, Cond.instanceMethod yX0_readInstruction, Cond.selects RX0 yX0_readInstruction yX0_readInstruction, Cond.code yX0_readInstruction cX0_readInstruction 4 none, Cond.fieldLink RX0 127 "TimedThreads$Mnemonic" "bits" "I", Cond.fieldLink RX0 130 "TimedThreads$Mnemonic" "pieces" "Ljava/lang/String;", Cond.methodLink RX0 134 yJ0_length_8abf5, Cond.instanceMethod yJ0_length_8abf5, Cond.selects RJ0 yJ0_length_8abf5 yJ0_length_8abf5, Cond.initialized RJ0, Cond.code yJ0_length_8abf5 cJ0_length_8abf5 1 (some .int), Cond.fieldLink RJ0 9 "java/lang/String" "value" "[B", Cond.methodLink RJ0 335 yJ0_coder_7d493]
def TT12 : List Cond := [Cond.instanceMethod yJ0_coder_7d493, Cond.selects RJ0 yJ0_coder_7d493 yJ0_coder_7d493, Cond.code yJ0_coder_7d493 cJ0_coder_7d493 1 (some .byte), Cond.fieldLink RJ0 38 "java/lang/String" "COMPACT_STRINGS" "Z", Cond.fieldLink RJ0 15 "java/lang/String" "coder" "B", Cond.methodLink RX0 139 yJ0_charAt_5068e, Cond.instanceMethod yJ0_charAt_5068e, Cond.selects RJ0 yJ0_charAt_5068e yJ0_charAt_5068e, Cond.code yJ0_charAt_5068e cJ0_charAt_5068e 2 (some .char), Cond.methodLink RJ0 492 yJ0_isLatin1_aae02, Cond.instanceMethod yJ0_isLatin1_aae02, Cond.selects RJ0 yJ0_isLatin1_aae02 yJ0_isLatin1_aae02, Cond.code yJ0_isLatin1_aae02 cJ0_isLatin1_aae02 1 (some .boolean), Cond.methodLink RJ0 495 yJ1_charAt_3b067, Cond.static yJ1_charAt_3b067, Cond.initialized RJ1, Cond.code yJ1_charAt_3b067 cJ1_charAt_3b067 2 (some .char), Cond.methodLink RJ1 9 yJ0_checkIndex_df160, Cond.static yJ0_checkIndex_df160, Cond.code yJ0_checkIndex_df160 cJ0_checkIndex_df160 2 none, Cond.fieldLink RJ0 1053 "jdk/internal/util/Preconditions" "SIOOBE_FORMATTER" "Ljava/util/function/BiFunction;", Cond.methodLink RJ0 1059 yJ3_checkIndex_8e157, Cond.static yJ3_checkIndex_8e157, Cond.initialized RJ3]
def TT13 : List Cond := [Cond.code yJ3_checkIndex_8e157 cJ3_checkIndex_8e157 3 (some .int), Cond.methodLink RJ0 498 yJ2_charAt_3b067, Cond.static yJ2_charAt_3b067, Cond.initialized RJ2, Cond.code yJ2_charAt_3b067 cJ2_charAt_3b067 2 (some .char), Cond.methodLink RJ2 67 yJ2_checkIndex_2214a, Cond.static yJ2_checkIndex_2214a, Cond.code yJ2_checkIndex_2214a cJ2_checkIndex_2214a 2 none, Cond.methodLink RJ2 48 yJ2_length_9d52b, Cond.static yJ2_length_9d52b, Cond.code yJ2_length_9d52b cJ2_length_9d52b 1 (some .int), Cond.methodLink RJ2 414 yJ0_checkIndex_df160, Cond.methodLink RJ2 71 yJ2_getChar_3b067, Cond.static yJ2_getChar_3b067, Cond.code yJ2_getChar_3b067 cJ2_getChar_3b067 2 (some .char), Cond.fieldLink RJ2 44 "java/lang/StringUTF16" "$assertionsDisabled" "Z", Cond.fieldLink RJ2 59 "java/lang/StringUTF16" "HI_BYTE_SHIFT" "I", Cond.fieldLink RJ2 63 "java/lang/StringUTF16" "LO_BYTE_SHIFT" "I", Cond.methodLink RX0 142 yX0_readPiece, Cond.instanceMethod yX0_readPiece, Cond.selects RX0 yX0_readPiece yX0_readPiece, Cond.code yX0_readPiece cX0_readPiece 5 none, Cond.methodLink RX0 146 yX0_kindOf, Cond.static yX0_kindOf]
def TT14 : List Cond := [Cond.code yX0_kindOf cX0_kindOf 1 (some .char), Cond.methodLink RX0 150 yX0_putPiece, Cond.instanceMethod yX0_putPiece, Cond.selects RX0 yX0_putPiece yX0_putPiece, Cond.code yX0_putPiece cX0_putPiece 4 none, Cond.constantLong RX0 154 (-2048), Cond.constantLong RX0 156 (2047), Cond.constantLong RX0 167 (31), Cond.constantLong RX0 169 (1048575), Cond.constantLong RX0 171 (3), Cond.constantLong RX0 173 (-2147483648), Cond.constantLong RX0 175 (4294967295), Cond.constantLong RX0 181 (-4096), Cond.constantLong RX0 183 (4094), Cond.constantLong RX0 188 (-1048576), Cond.constantLong RX0 190 (1048574), Cond.methodLink RX0 158 yX0_fitted, Cond.instanceMethod yX0_fitted, Cond.selects RX0 yX0_fitted yX0_fitted, Cond.code yX0_fitted cX0_fitted 7 (some .int), Cond.methodLink RX0 162 yX1_bitsOfS, Cond.static yX1_bitsOfS, Cond.initialized RX1, Cond.code yX1_bitsOfS cX1_bitsOfS 1 (some .int)]
def TT15 : List Cond := [Cond.methodLink RX0 177 yX0_noteOdd, Cond.instanceMethod yX0_noteOdd, Cond.selects RX0 yX0_noteOdd yX0_noteOdd, Cond.code yX0_noteOdd cX0_noteOdd 3 none, Cond.methodLink RX0 185 yX1_bitsOfB, Cond.static yX1_bitsOfB, Cond.code yX1_bitsOfB cX1_bitsOfB 1 (some .int), Cond.methodLink RX0 192 yX1_bitsOfJ, Cond.static yX1_bitsOfJ, Cond.code yX1_bitsOfJ cX1_bitsOfJ 1 (some .int), Cond.constant RX1 15 (1044480), Cond.methodLink RX0 61 yX0_faultOfLine, Cond.instanceMethod yX0_faultOfLine, Cond.selects RX0 yX0_faultOfLine yX0_faultOfLine, Cond.code yX0_faultOfLine cX0_faultOfLine 2 (some .int), Cond.methodLink RX0 111 yX3_find, Cond.instanceMethod yX3_find, Cond.selects RX3 yX3_find yX3_find, Cond.code yX3_find cX3_find 4 (some .int), Cond.fieldLink RX3 19 "TimedThreads$Labels" "count" "I", Cond.methodLink RX0 65 yX0_setFault, Cond.instanceMethod yX0_setFault, Cond.selects RX0 yX0_setFault yX0_setFault, Cond.code yX0_setFault cX0_setFault 3 none]
def TT16 : List Cond := [Cond.methodLink RX0 69 yX0_keepLine, Cond.instanceMethod yX0_keepLine, Cond.selects RX0 yX0_keepLine yX0_keepLine, Cond.code yX0_keepLine cX0_keepLine 2 none, Cond.methodLink RX0 114 yX3_add, Cond.instanceMethod yX3_add, Cond.selects RX3 yX3_add yX3_add, Cond.code yX3_add cX3_add 4 none, Cond.methodLink RX0 73 yX0_resolveTargets, Cond.instanceMethod yX0_resolveTargets, Cond.selects RX0 yX0_resolveTargets yX0_resolveTargets, Cond.code yX0_resolveTargets cX0_resolveTargets 5 none, Cond.methodLink RX0 195 yX1_op, Cond.static yX1_op, Cond.code yX1_op cX1_op 1 (some .int), Cond.methodLink RL 52 yX11_assemble, Cond.instanceMethod yX11_assemble, Cond.selects RX11 yX11_assemble yX11_assemble, Cond.code yX11_assemble cX11_assemble 5 (some .int), Cond.fieldLink RX11 88 "TimedThreadsModel" "at" "I", Cond.fieldLink RX11 205 "TimedThreadsModel" "line" "I", Cond.fieldLink RX11 202 "TimedThreadsModel" "words" "I", Cond.fieldLink RX11 256 "TimedThreadsModel" "labels" "I", Cond.fieldLink RX11 199 "TimedThreadsModel" "targets" "I"]
def TT17 : List Cond := [Cond.fieldLink RX11 273 "TimedThreadsModel" "fault" "I", Cond.fieldLink RX11 276 "TimedThreadsModel" "faultLine" "I", Cond.methodLink RX11 279 yX11_refuse, Cond.instanceMethod yX11_refuse, Cond.selects RX11 yX11_refuse yX11_refuse, Cond.code yX11_refuse cX11_refuse 2 (some .int), Cond.methodLink RX11 282 yX11_takeLine, Cond.instanceMethod yX11_takeLine, Cond.selects RX11 yX11_takeLine yX11_takeLine, Cond.code yX11_takeLine cX11_takeLine 10 none, Cond.fieldLink RX11 102 "TimedThreadsModel" "wrong" "Z", Cond.fieldLink RX11 111 "TimedThreadsModel" "unfit" "Z", Cond.methodLink RX11 95 yX11_skip, Cond.instanceMethod yX11_skip, Cond.selects RX11 yX11_skip yX11_skip, Cond.code yX11_skip cX11_skip 1 none, Cond.methodLink RX11 91 yX11_character, Cond.instanceMethod yX11_character, Cond.selects RX11 yX11_character yX11_character, Cond.code yX11_character cX11_character 2 (some .int), Cond.methodLink RX11 195 yX11_letters, Cond.instanceMethod yX11_letters, Cond.selects RX11 yX11_letters yX11_letters, Cond.code yX11_letters cX11_letters 4 (some .long)]
def TT18 : List Cond := [Cond.methodLink RX11 98 yX11_isLetter, Cond.static yX11_isLetter, Cond.code yX11_isLetter cX11_isLetter 1 (some .boolean), Cond.methodLink RX11 259 yX11_labelOf, Cond.instanceMethod yX11_labelOf, Cond.selects RX11 yX11_labelOf yX11_labelOf, Cond.code yX11_labelOf cX11_labelOf 5 (some .int), Cond.methodLink RX11 263 yX11_lookup, Cond.static yX11_lookup, Cond.code yX11_lookup cX11_lookup 2 (some .int), Cond.constantLong RX11 114 (6911340), Cond.constantLong RX11 116 (7102826), Cond.constantLong RX11 118 (1919705450), Cond.constantLong RX11 120 (7431522), Cond.constantLong RX11 122 (6647394), Cond.constantLong RX11 124 (7629922), Cond.constantLong RX11 126 (6645602), Cond.constantLong RX11 128 (1970564194), Cond.constantLong RX11 130 (1969579874), Cond.constantLong RX11 132 (30572), Cond.constantLong RX11 134 (25196), Cond.constantLong RX11 136 (7692908), Cond.constantLong RX11 138 (30579), Cond.constantLong RX11 140 (25203)]
def TT19 : List Cond := [Cond.constantLong RX11 142 (1768186977), Cond.constantLong RX11 144 (1769237619), Cond.constantLong RX11 146 (504280411251), Cond.constantLong RX11 148 (1769107320), Cond.constantLong RX11 150 (6910575), Cond.constantLong RX11 152 (1768189537), Cond.constantLong RX11 154 (1768713331), Cond.constantLong RX11 156 (1768714867), Cond.constantLong RX11 158 (1767993971), Cond.constant RX11 160 (534840), Cond.constantLong RX11 161 (6579297), Cond.constantLong RX11 163 (7105651), Cond.constantLong RX11 165 (7629939), Cond.constantLong RX11 167 (1970564211), Cond.constantLong RX11 169 (7499640), Cond.constantLong RX11 171 (7107187), Cond.constantLong RX11 173 (29295), Cond.constantLong RX11 175 (6581857), Cond.constantLong RX11 177 (6452595), Cond.constant RX11 179 (525105), Cond.constantLong RX11 180 (6386291), Cond.constant RX11 182 (535345), Cond.constantLong RX11 183 (1684104548), Cond.constantLong RX11 185 (435610155363)]
def TT20 : List Cond := [Cond.constantLong RX11 187 (1953259880), Cond.constantLong RX11 189 (1685221239), Cond.methodLink RX11 266 yX11_operands, Cond.instanceMethod yX11_operands, Cond.selects RX11 yX11_operands yX11_operands, Cond.code yX11_operands cX11_operands 6 (some .int), Cond.constantLong RX11 232 (31), Cond.constantLong RX11 234 (-2048), Cond.constantLong RX11 236 (2047), Cond.constantLong RX11 248 (1048575), Cond.constantLong RX11 250 (3), Cond.constantLong RX11 252 (-2147483648), Cond.constantLong RX11 254 (4294967295), Cond.methodLink RX11 228 yX11_pair, Cond.instanceMethod yX11_pair, Cond.selects RX11 yX11_pair yX11_pair, Cond.code yX11_pair cX11_pair 5 (some .int), Cond.methodLink RX11 220 yX11_takeRegister, Cond.instanceMethod yX11_takeRegister, Cond.selects RX11 yX11_takeRegister yX11_takeRegister, Cond.code yX11_takeRegister cX11_takeRegister 2 (some .int), Cond.methodLink RX11 106 yX11_isDigit, Cond.static yX11_isDigit, Cond.code yX11_isDigit cX11_isDigit 1 (some .boolean)]
def TT21 : List Cond := [Cond.methodLink RX11 224 yX11_need, Cond.instanceMethod yX11_need, Cond.selects RX11 yX11_need yX11_need, Cond.code yX11_need cX11_need 2 none, Cond.methodLink RX11 210 yX11_number, Cond.instanceMethod yX11_number, Cond.selects RX11 yX11_number yX11_number, Cond.code yX11_number cX11_number 10 (some .long), Cond.constantLong RX11 109 (48), Cond.methodLink RX11 238 yX11_immediate, Cond.static yX11_immediate, Cond.code yX11_immediate cX11_immediate 1 (some .int), Cond.methodLink RX11 241 yX11_storing, Cond.static yX11_storing, Cond.code yX11_storing cX11_storing 1 (some .int), Cond.methodLink RX11 244 yX11_distance, Cond.instanceMethod yX11_distance, Cond.selects RX11 yX11_distance yX11_distance, Cond.code yX11_distance cX11_distance 6 (some .int), Cond.constantLong RX11 191 (1048574), Cond.constantLong RX11 193 (4094), Cond.constantLong RX11 208 (2), Cond.methodLink RX11 214 yX11_jumping, Cond.static yX11_jumping]
def TT22 : List Cond := [Cond.code yX11_jumping cX11_jumping 1 (some .int), Cond.methodLink RX11 217 yX11_branching, Cond.static yX11_branching, Cond.code yX11_branching cX11_branching 1 (some .int), Cond.methodLink RX11 269 yX11_isEnd, Cond.instanceMethod yX11_isEnd, Cond.selects RX11 yX11_isEnd yX11_isEnd, Cond.code yX11_isEnd cX11_isEnd 1 (some .boolean), Cond.methodLink RX11 285 yX11_link, Cond.instanceMethod yX11_link, Cond.selects RX11 yX11_link yX11_link, Cond.code yX11_link cX11_link 7 none, Cond.methodLink RL 53 yX10_fault, Cond.instanceMethod yX10_fault, Cond.selects RX10 yX10_fault yX10_fault, Cond.code yX10_fault cX10_fault 2 (some .int), Cond.fieldLink RX10 96 "TimedThreads$Assembler" "faultLine" "I", Cond.methodLink RL 57 yX11_fault, Cond.instanceMethod yX11_fault, Cond.selects RX11 yX11_fault yX11_fault, Cond.code yX11_fault cX11_fault 2 (some .int), Cond.methodLink RL 58 yX10_peek, Cond.instanceMethod yX10_peek, Cond.selects RX10 yX10_peek yX10_peek]
def TT23 : List Cond := [Cond.code yX10_peek cX10_peek 3 (some .int), Cond.methodLink RL 61 yX11_peek, Cond.instanceMethod yX11_peek, Cond.selects RX11 yX11_peek yX11_peek, Cond.code yX11_peek cX11_peek 3 (some .int), Cond.methodLink RL 62 yX10_poke, Cond.instanceMethod yX10_poke, Cond.selects RX10 yX10_poke yX10_poke, Cond.code yX10_poke cX10_poke 4 (some .boolean), Cond.methodLink RL 66 yX11_poke, Cond.instanceMethod yX11_poke, Cond.selects RX11 yX11_poke yX11_poke, Cond.code yX11_poke cX11_poke 4 (some .boolean), Cond.methodLink RL 67 yX10_shared, Cond.instanceMethod yX10_shared, Cond.selects RX10 yX10_shared yX10_shared, Cond.code yX10_shared cX10_shared 2 (some .int), Cond.fieldLink RX10 99 "TimedThreads$SharedMemory" "words" "[I", Cond.methodLink RL 70 yX11_shared, Cond.instanceMethod yX11_shared, Cond.selects RX11 yX11_shared yX11_shared, Cond.code yX11_shared cX11_shared 2 (some .int), Cond.methodLink RL 71 yX10_part, Cond.instanceMethod yX10_part]
def TT24 : List Cond := [Cond.selects RX10 yX10_part yX10_part, Cond.code yX10_part cX10_part 4 (some .boolean), Cond.fieldLink RX10 104 "TimedThreads$TimedThread" "low" "I", Cond.fieldLink RX10 107 "TimedThreads$TimedThread" "high" "I", Cond.methodLink RL 74 yX11_part, Cond.instanceMethod yX11_part, Cond.selects RX11 yX11_part yX11_part, Cond.code yX11_part cX11_part 4 (some .boolean), Cond.methodLink RL 75 yX10_start, Cond.instanceMethod yX10_start, Cond.selects RX10 yX10_start yX10_start, Cond.code yX10_start cX10_start 3 (some .boolean), Cond.fieldLink RX10 110 "TimedThreads" "cycle" "I", Cond.methodLink RX10 113 yX8_begin, Cond.instanceMethod yX8_begin, Cond.selects RX8 yX8_begin yX8_begin, Cond.code yX8_begin cX8_begin 3 none, Cond.fieldLink RX8 35 "TimedThreads$TimedThread" "address" "I", Cond.fieldLink RX8 38 "TimedThreads$TimedThread" "ready" "I", Cond.methodLink RL 79 yX11_start, Cond.instanceMethod yX11_start, Cond.selects RX11 yX11_start yX11_start, Cond.code yX11_start cX11_start 3 (some .boolean), Cond.fieldLink RX11 291 "TimedThreadsModel" "now" "I"]
def TT25 : List Cond := [Cond.methodLink RL 80 yX10_run, Cond.instanceMethod yX10_run, Cond.selects RX10 yX10_run yX10_run, Cond.code yX10_run cX10_run 4 (some .int), Cond.methodLink RX10 117 yJ9_floorMod_7cf53, Cond.static yJ9_floorMod_7cf53, Cond.initialized RJ9, Cond.code yJ9_floorMod_7cf53 cJ9_floorMod_7cf53 3 (some .int), Cond.methodLink RX10 120 yX8_takeTurn, Cond.instanceMethod yX8_takeTurn, Cond.selects RX8 yX8_takeTurn yX8_takeTurn, Cond.code yX8_takeTurn cX8_takeTurn 4 (some .boolean), Cond.fieldLink RX8 48 "TimedThreads$Outcome" "FAULT" "LTimedThreads$Outcome;", Cond.fieldLink RX8 54 "TimedThreads$Outcome" "DONE" "LTimedThreads$Outcome;", Cond.fieldLink RX8 57 "TimedThreads$TimedThread" "retirement" "I", Cond.fieldLink RX8 64 "TimedThreads$TimedThread" "nextAddress" "I", Cond.methodLink RX8 44 yX8_attempt, Cond.instanceMethod yX8_attempt, Cond.selects RX8 yX8_attempt yX8_attempt, Cond.code yX8_attempt cX8_attempt 4 (some (.object "TimedThreads$Outcome")), Cond.methodLink RX8 67 yX8_isInStore, Cond.static yX8_isInStore, Cond.code yX8_isInStore cX8_isInStore 1 (some .boolean), Cond.methodLink RX8 71 yX8_isAligned]
def TT26 : List Cond := [Cond.static yX8_isAligned, Cond.code yX8_isAligned cX8_isAligned 1 (some .boolean), Cond.methodLink RX8 74 yX1_op, Cond.methodLink RX8 80 yX8_loadUpper, Cond.instanceMethod yX8_loadUpper, Cond.selects RX8 yX8_loadUpper yX8_loadUpper, Cond.code yX8_loadUpper cX8_loadUpper 3 (some (.object "TimedThreads$Outcome")), Cond.methodLink RX8 113 yX1_rd, Cond.static yX1_rd, Cond.code yX1_rd cX1_rd 1 (some .int), Cond.static yX10_isRegister, Cond.code yX10_isRegister cX10_isRegister 1 (some .boolean), Cond.methodLink RX8 119 yX1_numberU, Cond.static yX1_numberU, Cond.code yX1_numberU cX1_numberU 1 (some .int), Cond.methodLink RX8 122 yX8_setRegister, Cond.instanceMethod yX8_setRegister, Cond.selects RX8 yX8_setRegister yX8_setRegister, Cond.code yX8_setRegister cX8_setRegister 3 none, Cond.methodLink RX8 84 yX8_jump, Cond.instanceMethod yX8_jump, Cond.selects RX8 yX8_jump yX8_jump, Cond.code yX8_jump cX8_jump 3 (some (.object "TimedThreads$Outcome")), Cond.methodLink RX8 126 yX1_numberJ]
def TT27 : List Cond := [Cond.static yX1_numberJ, Cond.code yX1_numberJ cX1_numberJ 1 (some .int), Cond.methodLink RX8 87 yX8_jumpToRegister, Cond.instanceMethod yX8_jumpToRegister, Cond.selects RX8 yX8_jumpToRegister yX8_jumpToRegister, Cond.code yX8_jumpToRegister cX8_jumpToRegister 5 (some (.object "TimedThreads$Outcome")), Cond.methodLink RX8 129 yX1_rs, Cond.static yX1_rs, Cond.code yX1_rs cX1_rs 1 (some .int), Cond.methodLink RX8 132 yX1_f, Cond.static yX1_f, Cond.code yX1_f cX1_f 1 (some .int), Cond.methodLink RX8 135 yX1_numberI, Cond.static yX1_numberI, Cond.code yX1_numberI cX1_numberI 1 (some .int), Cond.methodLink RX8 90 yX8_branch, Cond.instanceMethod yX8_branch, Cond.selects RX8 yX8_branch yX8_branch, Cond.code yX8_branch cX8_branch 5 (some (.object "TimedThreads$Outcome")), Cond.methodLink RX8 138 yX1_rt, Cond.static yX1_rt, Cond.code yX1_rt cX1_rt 1 (some .int), Cond.methodLink RX8 141 yX8_isSo, Cond.static yX8_isSo]
def TT28 : List Cond := [Cond.code yX8_isSo cX8_isSo 3 (some .boolean), Cond.methodLink RX8 148 yX8_isBelowUnsigned, Cond.static yX8_isBelowUnsigned, Cond.code yX8_isBelowUnsigned cX8_isBelowUnsigned 2 (some .boolean), Cond.constantLong RX8 152 (4294967295), Cond.methodLink RX8 145 yX1_numberB, Cond.static yX1_numberB, Cond.code yX1_numberB cX1_numberB 1 (some .int), Cond.methodLink RX8 93 yX8_load, Cond.instanceMethod yX8_load, Cond.selects RX8 yX8_load yX8_load, Cond.code yX8_load cX8_load 11 (some (.object "TimedThreads$Outcome")), Cond.methodLink RX8 154 yX8_canReach, Cond.instanceMethod yX8_canReach, Cond.selects RX8 yX8_canReach yX8_canReach, Cond.code yX8_canReach cX8_canReach 4 (some .boolean), Cond.fieldLink RX8 174 "TimedThreads$TimedThread" "low" "I", Cond.fieldLink RX8 177 "TimedThreads$TimedThread" "high" "I", Cond.methodLink RX8 157 yX8_rowOf, Cond.instanceMethod yX8_rowOf, Cond.selects RX8 yX8_rowOf yX8_rowOf, Cond.code yX8_rowOf cX8_rowOf 3 (some (.array .int)), Cond.fieldLink RX8 180 "TimedThreads$SharedMemory" "words" "[I", Cond.methodLink RX8 161 yX8_placeOf]
def TT29 : List Cond := [Cond.static yX8_placeOf, Cond.code yX8_placeOf cX8_placeOf 1 (some .int), Cond.methodLink RX8 164 yX8_bitOf, Cond.static yX8_bitOf, Cond.code yX8_bitOf cX8_bitOf 1 (some .int), Cond.methodLink RX8 167 yX8_setRetirement, Cond.instanceMethod yX8_setRetirement, Cond.selects RX8 yX8_setRetirement yX8_setRetirement, Cond.code yX8_setRetirement cX8_setRetirement 4 none, Cond.methodLink RX8 185 yX6_retirement, Cond.instanceMethod yX6_retirement, Cond.selects RX6 yX6_retirement yX6_retirement, Cond.code yX6_retirement cX6_retirement 4 (some .int), Cond.methodLink RX6 19 yJ9_floorMod_7cf53, Cond.methodLink RX8 97 yX8_save, Cond.instanceMethod yX8_save, Cond.selects RX8 yX8_save yX8_save, Cond.code yX8_save cX8_save 13 (some (.object "TimedThreads$Outcome")), Cond.methodLink RX8 171 yX1_numberS, Cond.static yX1_numberS, Cond.code yX1_numberS cX1_numberS 1 (some .int), Cond.methodLink RX1 9 yX1_rd, Cond.methodLink RX8 100 yX8_computeWithNumber, Cond.instanceMethod yX8_computeWithNumber]
def TT30 : List Cond := [Cond.selects RX8 yX8_computeWithNumber yX8_computeWithNumber, Cond.code yX8_computeWithNumber cX8_computeWithNumber 8 (some (.object "TimedThreads$Outcome")), Cond.methodLink RX8 188 yX1_g, Cond.static yX1_g, Cond.code yX1_g cX1_g 1 (some .int), Cond.methodLink RX8 191 yX8_compute, Cond.static yX8_compute, Cond.code yX8_compute cX8_compute 4 (some .int), Cond.methodLink RX8 103 yX8_computeWithRegister, Cond.instanceMethod yX8_computeWithRegister, Cond.selects RX8 yX8_computeWithRegister yX8_computeWithRegister, Cond.code yX8_computeWithRegister cX8_computeWithRegister 8 (some (.object "TimedThreads$Outcome")), Cond.methodLink RX8 106 yX8_timed, Cond.instanceMethod yX8_timed, Cond.selects RX8 yX8_timed yX8_timed, Cond.code yX8_timed cX8_timed 5 (some (.object "TimedThreads$Outcome")), Cond.methodLink RX8 195 yX8_setTimer, Cond.instanceMethod yX8_setTimer, Cond.selects RX8 yX8_setTimer yX8_setTimer, Cond.code yX8_setTimer cX8_setTimer 7 (some (.object "TimedThreads$Outcome")), Cond.fieldLink RX8 199 "TimedThreads$Outcome" "TRY_AGAIN" "LTimedThreads$Outcome;", Cond.constantLong RX8 202 (2147483647), Cond.methodLink RX8 204 Lib.MathLoose.max_long.x, Cond.static Lib.MathLoose.max_long.x]
def TT31 : List Cond := [Cond.code Lib.MathLoose.max_long.x Lib.MathLoose.max_long.code 4 (some .long), Cond.methodLink RX8 210 Lib.MathLoose.min_long.x, Cond.static Lib.MathLoose.min_long.x, Cond.code Lib.MathLoose.min_long.x Lib.MathLoose.min_long.code 4 (some .long), Cond.methodLink RX8 110 yX8_halt, Cond.instanceMethod yX8_halt, Cond.selects RX8 yX8_halt yX8_halt, Cond.code yX8_halt cX8_halt 2 (some (.object "TimedThreads$Outcome")), Cond.methodLink RX8 60 yX2_add, Cond.instanceMethod yX2_add, Cond.selects RX2 yX2_add yX2_add, Cond.code yX2_add cX2_add 5 none, Cond.fieldLink RX2 21 "TimedThreads$History" "count" "I", Cond.methodLink RX2 25 yX2_placeOf, Cond.static yX2_placeOf, Cond.code yX2_placeOf cX2_placeOf 1 (some .int), Cond.methodLink RX2 29 yJ9_floorMod_7cf53, Cond.methodLink RL 83 yX11_run, Cond.instanceMethod yX11_run, Cond.selects RX11 yX11_run yX11_run, Cond.code yX11_run cX11_run 4 (some .int), Cond.methodLink RX11 349 yX11_turn, Cond.instanceMethod yX11_turn, Cond.selects RX11 yX11_turn yX11_turn]
def TT32 : List Cond := [Cond.code yX11_turn cX11_turn 4 (some .int), Cond.methodLink RX11 288 yX11_isOwn, Cond.static yX11_isOwn, Cond.code yX11_isOwn cX11_isOwn 1 (some .boolean), Cond.methodLink RX11 299 yX11_stop, Cond.instanceMethod yX11_stop, Cond.selects RX11 yX11_stop yX11_stop, Cond.code yX11_stop cX11_stop 2 (some .int), Cond.methodLink RX11 313 yX11_set, Cond.instanceMethod yX11_set, Cond.selects RX11 yX11_set yX11_set, Cond.code yX11_set cX11_set 4 none, Cond.methodLink RX11 319 yX11_done, Cond.instanceMethod yX11_done, Cond.selects RX11 yX11_done yX11_done, Cond.code yX11_done cX11_done 5 (some .int), Cond.methodLink RX11 333 yX11_jump, Cond.instanceMethod yX11_jump, Cond.selects RX11 yX11_jump yX11_jump, Cond.code yX11_jump cX11_jump 8 (some .int), Cond.methodLink RX11 337 yX11_branch, Cond.instanceMethod yX11_branch, Cond.selects RX11 yX11_branch yX11_branch, Cond.code yX11_branch cX11_branch 8 (some .int)]
def TT33 : List Cond := [Cond.methodLink RX11 327 yX11_goes, Cond.static yX11_goes, Cond.code yX11_goes cX11_goes 4 (some .boolean), Cond.methodLink RX11 295 yX11_isLess, Cond.static yX11_isLess, Cond.code yX11_isLess cX11_isLess 2 (some .boolean), Cond.constant RX11 294 (-2147483648), Cond.methodLink RX11 340 yX11_moveWord, Cond.instanceMethod yX11_moveWord, Cond.selects RX11 yX11_moveWord yX11_moveWord, Cond.code yX11_moveWord cX11_moveWord 13 (some .int), Cond.methodLink RX11 302 yX11_isThere, Cond.instanceMethod yX11_isThere, Cond.selects RX11 yX11_isThere yX11_isThere, Cond.code yX11_isThere cX11_isThere 4 (some .boolean), Cond.methodLink RX11 306 yX11_wordAt, Cond.instanceMethod yX11_wordAt, Cond.selects RX11 yX11_wordAt yX11_wordAt, Cond.code yX11_wordAt cX11_wordAt 3 (some .int), Cond.methodLink RX11 309 yX11_put, Cond.instanceMethod yX11_put, Cond.selects RX11 yX11_put yX11_put, Cond.code yX11_put cX11_put 4 none, Cond.methodLink RX11 316 yX11_first]
def TT34 : List Cond := [Cond.instanceMethod yX11_first, Cond.selects RX11 yX11_first yX11_first, Cond.code yX11_first cX11_first 3 (some .int), Cond.methodLink RX11 343 yX11_calculate, Cond.instanceMethod yX11_calculate, Cond.selects RX11 yX11_calculate yX11_calculate, Cond.code yX11_calculate cX11_calculate 13 (some .int), Cond.methodLink RX11 323 yX11_worked, Cond.static yX11_worked, Cond.code yX11_worked cX11_worked 4 (some .int), Cond.methodLink RX11 346 yX11_clock, Cond.instanceMethod yX11_clock, Cond.selects RX11 yX11_clock yX11_clock, Cond.code yX11_clock cX11_clock 8 (some .int), Cond.constantLong RX11 330 (2147483647), Cond.constant RX11 332 (2147483647), Cond.methodLink RL 84 yX10_now, Cond.instanceMethod yX10_now, Cond.selects RX10 yX10_now yX10_now, Cond.code yX10_now cX10_now 1 (some .int), Cond.methodLink RL 87 yX11_now, Cond.instanceMethod yX11_now, Cond.selects RX11 yX11_now yX11_now, Cond.code yX11_now cX11_now 1 (some .int)]
def TT35 : List Cond := [Cond.methodLink RL 88 yX10_register, Cond.instanceMethod yX10_register, Cond.selects RX10 yX10_register yX10_register, Cond.code yX10_register cX10_register 3 (some .int), Cond.fieldLink RX10 127 "TimedThreads$TimedThread" "registers" "[I", Cond.methodLink RX10 124 yX10_isRegister, Cond.methodLink RL 91 yX11_register, Cond.instanceMethod yX11_register, Cond.selects RX11 yX11_register yX11_register, Cond.code yX11_register cX11_register 3 (some .int), Cond.methodLink RL 92 yX10_state, Cond.instanceMethod yX10_state, Cond.selects RX10 yX10_state yX10_state, Cond.code yX10_state cX10_state 3 (some .int), Cond.methodLink RX10 130 yX8_condition, Cond.instanceMethod yX8_condition, Cond.selects RX8 yX8_condition yX8_condition, Cond.code yX8_condition cX8_condition 2 (some .int), Cond.fieldLink RX8 41 "TimedThreads$History" "count" "I", Cond.methodLink RL 95 yX11_state, Cond.instanceMethod yX11_state, Cond.selects RX11 yX11_state yX11_state, Cond.code yX11_state cX11_state 3 (some .int), Cond.methodLink RL 96 yX10_trace]
def TT36 : List Cond := [Cond.instanceMethod yX10_trace, Cond.selects RX10 yX10_trace yX10_trace, Cond.code yX10_trace cX10_trace 4 (some .int), Cond.fieldLink RX10 134 "TimedThreads$TimedThread" "history" "LTimedThreads$History;", Cond.methodLink RX10 138 yX2_entry, Cond.instanceMethod yX2_entry, Cond.selects RX2 yX2_entry yX2_entry, Cond.code yX2_entry cX2_entry 4 (some .int), Cond.methodLink RL 100 yX11_trace, Cond.instanceMethod yX11_trace, Cond.selects RX11 yX11_trace yX11_trace, Cond.code yX11_trace cX11_trace 4 (some .int)]
def TT : List Cond := TT0 ++ (TT1 ++ (TT2 ++ (TT3 ++ (TT4 ++ (TT5 ++ (TT6 ++ (TT7 ++ (TT8 ++ (TT9 ++ (TT10 ++ (TT11 ++ (TT12 ++ (TT13 ++ (TT14 ++ (TT15 ++ (TT16 ++ (TT17 ++ (TT18 ++ (TT19 ++ (TT20 ++ (TT21 ++ (TT22 ++ (TT23 ++ (TT24 ++ (TT25 ++ (TT26 ++ (TT27 ++ (TT28 ++ (TT29 ++ (TT30 ++ (TT31 ++ (TT32 ++ (TT33 ++ (TT34 ++ (TT35 ++ (TT36 ++ (wsX00 ++ (wsX20 ++ (wsX30 ++ (wsX60 ++ (wsX70 ++ (wsX80 ++ (wsX90 ++ (wsX100 ++ (wsX110)))))))))))))))))))))))))))))))))))))))))))))
theorem tin_TT0 : ∀ w ∈ TT0, w ∈ TT := fun _ h => (List.mem_append_left _ h)
theorem tin_TT1 : ∀ w ∈ TT1, w ∈ TT := fun _ h => (List.mem_append_right _ (List.mem_append_left _ h))
theorem tin_TT2 : ∀ w ∈ TT2, w ∈ TT := fun _ h => (List.mem_append_right _ (List.mem_append_right _ (List.mem_append_left _ h)))
theorem tin_TT3 : ∀ w ∈ TT3, w ∈ TT := fun _ h => (List.mem_append_right _ (List.mem_append_right _ (List.mem_append_right _ (List.mem_append_left _ h))))
theorem tin_TT4 : ∀ w ∈ TT4, w ∈ TT := fun _ h => (List.mem_append_right _ (List.mem_append_right _ (List.mem_append_right _ (List.mem_append_right _ (List.mem_append_left _ h)))))
theorem tin_TT5 : ∀ w ∈ TT5, w ∈ TT := fun _ h => (List.mem_append_right _ (List.mem_append_right _ (List.mem_append_right _ (List.mem_append_right _ (List.mem_append_right _ (List.mem_append_left _ h))))))
theorem tin_TT6 : ∀ w ∈ TT6, w ∈ TT := fun _ h => (List.mem_append_right _ (List.mem_append_right _ (List.mem_append_right _ (List.mem_append_right _ (List.mem_append_right _ (List.mem_append_right _ (List.mem_append_left _ h)))))))
theorem tin_TT7 : ∀ w ∈ TT7, w ∈ TT := fun _ h => (List.mem_append_right _ (List.mem_append_right _ (List.mem_append_right _ (List.mem_append_right _ (List.mem_append_right _ (List.mem_append_right _ (List.mem_append_right _ (List.mem_append_left _ h))))))))
theorem tin_TT8 : ∀ w ∈ TT8, w ∈ TT := fun _ h => (List.mem_append_right _ (List.mem_append_right _ (List.mem_append_right _ (List.mem_append_right _ (List.mem_append_right _ (List.mem_append_right _ (List.mem_append_right _ (List.mem_append_right _ (List.mem_append_left _ h)))))))))
theorem tin_TT9 : ∀ w ∈ TT9, w ∈ TT := fun _ h => (List.mem_append_right _ (List.mem_append_right _ (List.mem_append_right _ (List.mem_append_right _ (List.mem_append_right _ (List.mem_append_right _ (List.mem_append_right _ (List.mem_append_right _ (List.mem_append_right _ (List.mem_append_left _ h))))))))))
theorem tin_TT10 : ∀ w ∈ TT10, w ∈ TT := fun _ h => (List.mem_append_right _ (List.mem_append_right _ (List.mem_append_right _ (List.mem_append_right _ (List.mem_append_right _ (List.mem_append_right _ (List.mem_append_right _ (List.mem_append_right _ (List.mem_append_right _ (List.mem_append_right _ (List.mem_append_left _ h)))))))))))
theorem tin_TT11 : ∀ w ∈ TT11, w ∈ TT := fun _ h => (List.mem_append_right _ (List.mem_append_right _ (List.mem_append_right _ (List.mem_append_right _ (List.mem_append_right _ (List.mem_append_right _ (List.mem_append_right _ (List.mem_append_right _ (List.mem_append_right _ (List.mem_append_right _ (List.mem_append_right _ (List.mem_append_left _ h))))))))))))
theorem tin_TT12 : ∀ w ∈ TT12, w ∈ TT := fun _ h => (List.mem_append_right _ (List.mem_append_right _ (List.mem_append_right _ (List.mem_append_right _ (List.mem_append_right _ (List.mem_append_right _ (List.mem_append_right _ (List.mem_append_right _ (List.mem_append_right _ (List.mem_append_right _ (List.mem_append_right _ (List.mem_append_right _ (List.mem_append_left _ h)))))))))))))
theorem tin_TT13 : ∀ w ∈ TT13, w ∈ TT := fun _ h => (List.mem_append_right _ (List.mem_append_right _ (List.mem_append_right _ (List.mem_append_right _ (List.mem_append_right _ (List.mem_append_right _ (List.mem_append_right _ (List.mem_append_right _ (List.mem_append_right _ (List.mem_append_right _ (List.mem_append_right _ (List.mem_append_right _ (List.mem_append_right _ (List.mem_append_left _ h))))))))))))))
theorem tin_TT14 : ∀ w ∈ TT14, w ∈ TT := fun _ h => (List.mem_append_right _ (List.mem_append_right _ (List.mem_append_right _ (List.mem_append_right _ (List.mem_append_right _ (List.mem_append_right _ (List.mem_append_right _ (List.mem_append_right _ (List.mem_append_right _ (List.mem_append_right _ (List.mem_append_right _ (List.mem_append_right _ (List.mem_append_right _ (List.mem_append_right _ (List.mem_append_left _ h)))))))))))))))
theorem tin_TT15 : ∀ w ∈ TT15, w ∈ TT := fun _ h => (List.mem_append_right _ (List.mem_append_right _ (List.mem_append_right _ (List.mem_append_right _ (List.mem_append_right _ (List.mem_append_right _ (List.mem_append_right _ (List.mem_append_right _ (List.mem_append_right _ (List.mem_append_right _ (List.mem_append_right _ (List.mem_append_right _ (List.mem_append_right _ (List.mem_append_right _ (List.mem_append_right _ (List.mem_append_left _ h))))))))))))))))
theorem tin_TT16 : ∀ w ∈ TT16, w ∈ TT := fun _ h => (List.mem_append_right _ (List.mem_append_right _ (List.mem_append_right _ (List.mem_append_right _ (List.mem_append_right _ (List.mem_append_right _ (List.mem_append_right _ (List.mem_append_right _ (List.mem_append_right _ (List.mem_append_right _ (List.mem_append_right _ (List.mem_append_right _ (List.mem_append_right _ (List.mem_append_right _ (List.mem_append_right _ (List.mem_append_right _ (List.mem_append_left _ h)))))))))))))))))
theorem tin_TT17 : ∀ w ∈ TT17, w ∈ TT := fun _ h => (List.mem_append_right _ (List.mem_append_right _ (List.mem_append_right _ (List.mem_append_right _ (List.mem_append_right _ (List.mem_append_right _ (List.mem_append_right _ (List.mem_append_right _ (List.mem_append_right _ (List.mem_append_right _ (List.mem_append_right _ (List.mem_append_right _ (List.mem_append_right _ (List.mem_append_right _ (List.mem_append_right _ (List.mem_append_right _ (List.mem_append_right _ (List.mem_append_left _ h))))))))))))))))))
theorem tin_TT18 : ∀ w ∈ TT18, w ∈ TT := fun _ h => (List.mem_append_right _ (List.mem_append_right _ (List.mem_append_right _ (List.mem_append_right _ (List.mem_append_right _ (List.mem_append_right _ (List.mem_append_right _ (List.mem_append_right _ (List.mem_append_right _ (List.mem_append_right _ (List.mem_append_right _ (List.mem_append_right _ (List.mem_append_right _ (List.mem_append_right _ (List.mem_append_right _ (List.mem_append_right _ (List.mem_append_right _ (List.mem_append_right _ (List.mem_append_left _ h)))))))))))))))))))
theorem tin_TT19 : ∀ w ∈ TT19, w ∈ TT := fun _ h => (List.mem_append_right _ (List.mem_append_right _ (List.mem_append_right _ (List.mem_append_right _ (List.mem_append_right _ (List.mem_append_right _ (List.mem_append_right _ (List.mem_append_right _ (List.mem_append_right _ (List.mem_append_right _ (List.mem_append_right _ (List.mem_append_right _ (List.mem_append_right _ (List.mem_append_right _ (List.mem_append_right _ (List.mem_append_right _ (List.mem_append_right _ (List.mem_append_right _ (List.mem_append_right _ (List.mem_append_left _ h))))))))))))))))))))
theorem tin_TT20 : ∀ w ∈ TT20, w ∈ TT := fun _ h => (List.mem_append_right _ (List.mem_append_right _ (List.mem_append_right _ (List.mem_append_right _ (List.mem_append_right _ (List.mem_append_right _ (List.mem_append_right _ (List.mem_append_right _ (List.mem_append_right _ (List.mem_append_right _ (List.mem_append_right _ (List.mem_append_right _ (List.mem_append_right _ (List.mem_append_right _ (List.mem_append_right _ (List.mem_append_right _ (List.mem_append_right _ (List.mem_append_right _ (List.mem_append_right _ (List.mem_append_right _ (List.mem_append_left _ h)))))))))))))))))))))
theorem tin_TT21 : ∀ w ∈ TT21, w ∈ TT := fun _ h => (List.mem_append_right _ (List.mem_append_right _ (List.mem_append_right _ (List.mem_append_right _ (List.mem_append_right _ (List.mem_append_right _ (List.mem_append_right _ (List.mem_append_right _ (List.mem_append_right _ (List.mem_append_right _ (List.mem_append_right _ (List.mem_append_right _ (List.mem_append_right _ (List.mem_append_right _ (List.mem_append_right _ (List.mem_append_right _ (List.mem_append_right _ (List.mem_append_right _ (List.mem_append_right _ (List.mem_append_right _ (List.mem_append_right _ (List.mem_append_left _ h))))))))))))))))))))))
theorem tin_TT22 : ∀ w ∈ TT22, w ∈ TT := fun _ h => (List.mem_append_right _ (List.mem_append_right _ (List.mem_append_right _ (List.mem_append_right _ (List.mem_append_right _ (List.mem_append_right _ (List.mem_append_right _ (List.mem_append_right _ (List.mem_append_right _ (List.mem_append_right _ (List.mem_append_right _ (List.mem_append_right _ (List.mem_append_right _ (List.mem_append_right _ (List.mem_append_right _ (List.mem_append_right _ (List.mem_append_right _ (List.mem_append_right _ (List.mem_append_right _ (List.mem_append_right _ (List.mem_append_right _ (List.mem_append_right _ (List.mem_append_left _ h)))))))))))))))))))))))
theorem tin_TT23 : ∀ w ∈ TT23, w ∈ TT := fun _ h => (List.mem_append_right _ (List.mem_append_right _ (List.mem_append_right _ (List.mem_append_right _ (List.mem_append_right _ (List.mem_append_right _ (List.mem_append_right _ (List.mem_append_right _ (List.mem_append_right _ (List.mem_append_right _ (List.mem_append_right _ (List.mem_append_right _ (List.mem_append_right _ (List.mem_append_right _ (List.mem_append_right _ (List.mem_append_right _ (List.mem_append_right _ (List.mem_append_right _ (List.mem_append_right _ (List.mem_append_right _ (List.mem_append_right _ (List.mem_append_right _ (List.mem_append_right _ (List.mem_append_left _ h))))))))))))))))))))))))
theorem tin_TT24 : ∀ w ∈ TT24, w ∈ TT := fun _ h => (List.mem_append_right _ (List.mem_append_right _ (List.mem_append_right _ (List.mem_append_right _ (List.mem_append_right _ (List.mem_append_right _ (List.mem_append_right _ (List.mem_append_right _ (List.mem_append_right _ (List.mem_append_right _ (List.mem_append_right _ (List.mem_append_right _ (List.mem_append_right _ (List.mem_append_right _ (List.mem_append_right _ (List.mem_append_right _ (List.mem_append_right _ (List.mem_append_right _ (List.mem_append_right _ (List.mem_append_right _ (List.mem_append_right _ (List.mem_append_right _ (List.mem_append_right _ (List.mem_append_right _ (List.mem_append_left _ h)))))))))))))))))))))))))
theorem tin_TT25 : ∀ w ∈ TT25, w ∈ TT := fun _ h => (List.mem_append_right _ (List.mem_append_right _ (List.mem_append_right _ (List.mem_append_right _ (List.mem_append_right _ (List.mem_append_right _ (List.mem_append_right _ (List.mem_append_right _ (List.mem_append_right _ (List.mem_append_right _ (List.mem_append_right _ (List.mem_append_right _ (List.mem_append_right _ (List.mem_append_right _ (List.mem_append_right _ (List.mem_append_right _ (List.mem_append_right _ (List.mem_append_right _ (List.mem_append_right _ (List.mem_append_right _ (List.mem_append_right _ (List.mem_append_right _ (List.mem_append_right _ (List.mem_append_right _ (List.mem_append_right _ (List.mem_append_left _ h))))))))))))))))))))))))))
theorem tin_TT26 : ∀ w ∈ TT26, w ∈ TT := fun _ h => (List.mem_append_right _ (List.mem_append_right _ (List.mem_append_right _ (List.mem_append_right _ (List.mem_append_right _ (List.mem_append_right _ (List.mem_append_right _ (List.mem_append_right _ (List.mem_append_right _ (List.mem_append_right _ (List.mem_append_right _ (List.mem_append_right _ (List.mem_append_right _ (List.mem_append_right _ (List.mem_append_right _ (List.mem_append_right _ (List.mem_append_right _ (List.mem_append_right _ (List.mem_append_right _ (List.mem_append_right _ (List.mem_append_right _ (List.mem_append_right _ (List.mem_append_right _ (List.mem_append_right _ (List.mem_append_right _ (List.mem_append_right _ (List.mem_append_left _ h)))))))))))))))))))))))))))
theorem tin_TT27 : ∀ w ∈ TT27, w ∈ TT := fun _ h => (List.mem_append_right _ (List.mem_append_right _ (List.mem_append_right _ (List.mem_append_right _ (List.mem_append_right _ (List.mem_append_right _ (List.mem_append_right _ (List.mem_append_right _ (List.mem_append_right _ (List.mem_append_right _ (List.mem_append_right _ (List.mem_append_right _ (List.mem_append_right _ (List.mem_append_right _ (List.mem_append_right _ (List.mem_append_right _ (List.mem_append_right _ (List.mem_append_right _ (List.mem_append_right _ (List.mem_append_right _ (List.mem_append_right _ (List.mem_append_right _ (List.mem_append_right _ (List.mem_append_right _ (List.mem_append_right _ (List.mem_append_right _ (List.mem_append_right _ (List.mem_append_left _ h))))))))))))))))))))))))))))
theorem tin_TT28 : ∀ w ∈ TT28, w ∈ TT := fun _ h => (List.mem_append_right _ (List.mem_append_right _ (List.mem_append_right _ (List.mem_append_right _ (List.mem_append_right _ (List.mem_append_right _ (List.mem_append_right _ (List.mem_append_right _ (List.mem_append_right _ (List.mem_append_right _ (List.mem_append_right _ (List.mem_append_right _ (List.mem_append_right _ (List.mem_append_right _ (List.mem_append_right _ (List.mem_append_right _ (List.mem_append_right _ (List.mem_append_right _ (List.mem_append_right _ (List.mem_append_right _ (List.mem_append_right _ (List.mem_append_right _ (List.mem_append_right _ (List.mem_append_right _ (List.mem_append_right _ (List.mem_append_right _ (List.mem_append_right _ (List.mem_append_right _ (List.mem_append_left _ h)))))))))))))))))))))))))))))
theorem tin_TT29 : ∀ w ∈ TT29, w ∈ TT := fun _ h => (List.mem_append_right _ (List.mem_append_right _ (List.mem_append_right _ (List.mem_append_right _ (List.mem_append_right _ (List.mem_append_right _ (List.mem_append_right _ (List.mem_append_right _ (List.mem_append_right _ (List.mem_append_right _ (List.mem_append_right _ (List.mem_append_right _ (List.mem_append_right _ (List.mem_append_right _ (List.mem_append_right _ (List.mem_append_right _ (List.mem_append_right _ (List.mem_append_right _ (List.mem_append_right _ (List.mem_append_right _ (List.mem_append_right _ (List.mem_append_right _ (List.mem_append_right _ (List.mem_append_right _ (List.mem_append_right _ (List.mem_append_right _ (List.mem_append_right _ (List.mem_append_right _ (List.mem_append_right _ (List.mem_append_left _ h))))))))))))))))))))))))))))))
theorem tin_TT30 : ∀ w ∈ TT30, w ∈ TT := fun _ h => (List.mem_append_right _ (List.mem_append_right _ (List.mem_append_right _ (List.mem_append_right _ (List.mem_append_right _ (List.mem_append_right _ (List.mem_append_right _ (List.mem_append_right _ (List.mem_append_right _ (List.mem_append_right _ (List.mem_append_right _ (List.mem_append_right _ (List.mem_append_right _ (List.mem_append_right _ (List.mem_append_right _ (List.mem_append_right _ (List.mem_append_right _ (List.mem_append_right _ (List.mem_append_right _ (List.mem_append_right _ (List.mem_append_right _ (List.mem_append_right _ (List.mem_append_right _ (List.mem_append_right _ (List.mem_append_right _ (List.mem_append_right _ (List.mem_append_right _ (List.mem_append_right _ (List.mem_append_right _ (List.mem_append_right _ (List.mem_append_left _ h)))))))))))))))))))))))))))))))
theorem tin_TT31 : ∀ w ∈ TT31, w ∈ TT := fun _ h => (List.mem_append_right _ (List.mem_append_right _ (List.mem_append_right _ (List.mem_append_right _ (List.mem_append_right _ (List.mem_append_right _ (List.mem_append_right _ (List.mem_append_right _ (List.mem_append_right _ (List.mem_append_right _ (List.mem_append_right _ (List.mem_append_right _ (List.mem_append_right _ (List.mem_append_right _ (List.mem_append_right _ (List.mem_append_right _ (List.mem_append_right _ (List.mem_append_right _ (List.mem_append_right _ (List.mem_append_right _ (List.mem_append_right _ (List.mem_append_right _ (List.mem_append_right _ (List.mem_append_right _ (List.mem_append_right _ (List.mem_append_right _ (List.mem_append_right _ (List.mem_append_right _ (List.mem_append_right _ (List.mem_append_right _ (List.mem_append_right _ (List.mem_append_left _ h))))))))))))))))))))))))))))))))
theorem tin_TT32 : ∀ w ∈ TT32, w ∈ TT := fun _ h => (List.mem_append_right _ (List.mem_append_right _ (List.mem_append_right _ (List.mem_append_right _ (List.mem_append_right _ (List.mem_append_right _ (List.mem_append_right _ (List.mem_append_right _ (List.mem_append_right _ (List.mem_append_right _ (List.mem_append_right _ (List.mem_append_right _ (List.mem_append_right _ (List.mem_append_right _ (List.mem_append_right _ (List.mem_append_right _ (List.mem_append_right _ (List.mem_append_right _ (List.mem_append_right _ (List.mem_append_right _ (List.mem_append_right _ (List.mem_append_right _ (List.mem_append_right _ (List.mem_append_right _ (List.mem_append_right _ (List.mem_append_right _ (List.mem_append_right _ (List.mem_append_right _ (List.mem_append_right _ (List.mem_append_right _ (List.mem_append_right _ (List.mem_append_right _ (List.mem_append_left _ h)))))))))))))))))))))))))))))))))
theorem tin_TT33 : ∀ w ∈ TT33, w ∈ TT := fun _ h => (List.mem_append_right _ (List.mem_append_right _ (List.mem_append_right _ (List.mem_append_right _ (List.mem_append_right _ (List.mem_append_right _ (List.mem_append_right _ (List.mem_append_right _ (List.mem_append_right _ (List.mem_append_right _ (List.mem_append_right _ (List.mem_append_right _ (List.mem_append_right _ (List.mem_append_right _ (List.mem_append_right _ (List.mem_append_right _ (List.mem_append_right _ (List.mem_append_right _ (List.mem_append_right _ (List.mem_append_right _ (List.mem_append_right _ (List.mem_append_right _ (List.mem_append_right _ (List.mem_append_right _ (List.mem_append_right _ (List.mem_append_right _ (List.mem_append_right _ (List.mem_append_right _ (List.mem_append_right _ (List.mem_append_right _ (List.mem_append_right _ (List.mem_append_right _ (List.mem_append_right _ (List.mem_append_left _ h))))))))))))))))))))))))))))))))))
theorem tin_TT34 : ∀ w ∈ TT34, w ∈ TT := fun _ h => (List.mem_append_right _ (List.mem_append_right _ (List.mem_append_right _ (List.mem_append_right _ (List.mem_append_right _ (List.mem_append_right _ (List.mem_append_right _ (List.mem_append_right _ (List.mem_append_right _ (List.mem_append_right _ (List.mem_append_right _ (List.mem_append_right _ (List.mem_append_right _ (List.mem_append_right _ (List.mem_append_right _ (List.mem_append_right _ (List.mem_append_right _ (List.mem_append_right _ (List.mem_append_right _ (List.mem_append_right _ (List.mem_append_right _ (List.mem_append_right _ (List.mem_append_right _ (List.mem_append_right _ (List.mem_append_right _ (List.mem_append_right _ (List.mem_append_right _ (List.mem_append_right _ (List.mem_append_right _ (List.mem_append_right _ (List.mem_append_right _ (List.mem_append_right _ (List.mem_append_right _ (List.mem_append_right _ (List.mem_append_left _ h)))))))))))))))))))))))))))))))))))
theorem tin_TT35 : ∀ w ∈ TT35, w ∈ TT := fun _ h => (List.mem_append_right _ (List.mem_append_right _ (List.mem_append_right _ (List.mem_append_right _ (List.mem_append_right _ (List.mem_append_right _ (List.mem_append_right _ (List.mem_append_right _ (List.mem_append_right _ (List.mem_append_right _ (List.mem_append_right _ (List.mem_append_right _ (List.mem_append_right _ (List.mem_append_right _ (List.mem_append_right _ (List.mem_append_right _ (List.mem_append_right _ (List.mem_append_right _ (List.mem_append_right _ (List.mem_append_right _ (List.mem_append_right _ (List.mem_append_right _ (List.mem_append_right _ (List.mem_append_right _ (List.mem_append_right _ (List.mem_append_right _ (List.mem_append_right _ (List.mem_append_right _ (List.mem_append_right _ (List.mem_append_right _ (List.mem_append_right _ (List.mem_append_right _ (List.mem_append_right _ (List.mem_append_right _ (List.mem_append_right _ (List.mem_append_left _ h))))))))))))))))))))))))))))))))))))
theorem tin_TT36 : ∀ w ∈ TT36, w ∈ TT := fun _ h => (List.mem_append_right _ (List.mem_append_right _ (List.mem_append_right _ (List.mem_append_right _ (List.mem_append_right _ (List.mem_append_right _ (List.mem_append_right _ (List.mem_append_right _ (List.mem_append_right _ (List.mem_append_right _ (List.mem_append_right _ (List.mem_append_right _ (List.mem_append_right _ (List.mem_append_right _ (List.mem_append_right _ (List.mem_append_right _ (List.mem_append_right _ (List.mem_append_right _ (List.mem_append_right _ (List.mem_append_right _ (List.mem_append_right _ (List.mem_append_right _ (List.mem_append_right _ (List.mem_append_right _ (List.mem_append_right _ (List.mem_append_right _ (List.mem_append_right _ (List.mem_append_right _ (List.mem_append_right _ (List.mem_append_right _ (List.mem_append_right _ (List.mem_append_right _ (List.mem_append_right _ (List.mem_append_right _ (List.mem_append_right _ (List.mem_append_right _ (List.mem_append_left _ h)))))))))))))))))))))))))))))))))))))
theorem tin_wsX00 : ∀ w ∈ wsX00, w ∈ TT := fun _ h => (List.mem_append_right _ (List.mem_append_right _ (List.mem_append_right _ (List.mem_append_right _ (List.mem_append_right _ (List.mem_append_right _ (List.mem_append_right _ (List.mem_append_right _ (List.mem_append_right _ (List.mem_append_right _ (List.mem_append_right _ (List.mem_append_right _ (List.mem_append_right _ (List.mem_append_right _ (List.mem_append_right _ (List.mem_append_right _ (List.mem_append_right _ (List.mem_append_right _ (List.mem_append_right _ (List.mem_append_right _ (List.mem_append_right _ (List.mem_append_right _ (List.mem_append_right _ (List.mem_append_right _ (List.mem_append_right _ (List.mem_append_right _ (List.mem_append_right _ (List.mem_append_right _ (List.mem_append_right _ (List.mem_append_right _ (List.mem_append_right _ (List.mem_append_right _ (List.mem_append_right _ (List.mem_append_right _ (List.mem_append_right _ (List.mem_append_right _ (List.mem_append_right _ (List.mem_append_left _ h))))))))))))))))))))))))))))))))))))))
theorem tin_wsX20 : ∀ w ∈ wsX20, w ∈ TT := fun _ h => (List.mem_append_right _ (List.mem_append_right _ (List.mem_append_right _ (List.mem_append_right _ (List.mem_append_right _ (List.mem_append_right _ (List.mem_append_right _ (List.mem_append_right _ (List.mem_append_right _ (List.mem_append_right _ (List.mem_append_right _ (List.mem_append_right _ (List.mem_append_right _ (List.mem_append_right _ (List.mem_append_right _ (List.mem_append_right _ (List.mem_append_right _ (List.mem_append_right _ (List.mem_append_right _ (List.mem_append_right _ (List.mem_append_right _ (List.mem_append_right _ (List.mem_append_right _ (List.mem_append_right _ (List.mem_append_right _ (List.mem_append_right _ (List.mem_append_right _ (List.mem_append_right _ (List.mem_append_right _ (List.mem_append_right _ (List.mem_append_right _ (List.mem_append_right _ (List.mem_append_right _ (List.mem_append_right _ (List.mem_append_right _ (List.mem_append_right _ (List.mem_append_right _ (List.mem_append_right _ (List.mem_append_left _ h)))))))))))))))))))))))))))))))))))))))
theorem tin_wsX30 : ∀ w ∈ wsX30, w ∈ TT := fun _ h => (List.mem_append_right _ (List.mem_append_right _ (List.mem_append_right _ (List.mem_append_right _ (List.mem_append_right _ (List.mem_append_right _ (List.mem_append_right _ (List.mem_append_right _ (List.mem_append_right _ (List.mem_append_right _ (List.mem_append_right _ (List.mem_append_right _ (List.mem_append_right _ (List.mem_append_right _ (List.mem_append_right _ (List.mem_append_right _ (List.mem_append_right _ (List.mem_append_right _ (List.mem_append_right _ (List.mem_append_right _ (List.mem_append_right _ (List.mem_append_right _ (List.mem_append_right _ (List.mem_append_right _ (List.mem_append_right _ (List.mem_append_right _ (List.mem_append_right _ (List.mem_append_right _ (List.mem_append_right _ (List.mem_append_right _ (List.mem_append_right _ (List.mem_append_right _ (List.mem_append_right _ (List.mem_append_right _ (List.mem_append_right _ (List.mem_append_right _ (List.mem_append_right _ (List.mem_append_right _ (List.mem_append_right _ (List.mem_append_left _ h))))))))))))))))))))))))))))))))))))))))
theorem tin_wsX60 : ∀ w ∈ wsX60, w ∈ TT := fun _ h => (List.mem_append_right _ (List.mem_append_right _ (List.mem_append_right _ (List.mem_append_right _ (List.mem_append_right _ (List.mem_append_right _ (List.mem_append_right _ (List.mem_append_right _ (List.mem_append_right _ (List.mem_append_right _ (List.mem_append_right _ (List.mem_append_right _ (List.mem_append_right _ (List.mem_append_right _ (List.mem_append_right _ (List.mem_append_right _ (List.mem_append_right _ (List.mem_append_right _ (List.mem_append_right _ (List.mem_append_right _ (List.mem_append_right _ (List.mem_append_right _ (List.mem_append_right _ (List.mem_append_right _ (List.mem_append_right _ (List.mem_append_right _ (List.mem_append_right _ (List.mem_append_right _ (List.mem_append_right _ (List.mem_append_right _ (List.mem_append_right _ (List.mem_append_right _ (List.mem_append_right _ (List.mem_append_right _ (List.mem_append_right _ (List.mem_append_right _ (List.mem_append_right _ (List.mem_append_right _ (List.mem_append_right _ (List.mem_append_right _ (List.mem_append_left _ h)))))))))))))))))))))))))))))))))))))))))
theorem tin_wsX70 : ∀ w ∈ wsX70, w ∈ TT := fun _ h => (List.mem_append_right _ (List.mem_append_right _ (List.mem_append_right _ (List.mem_append_right _ (List.mem_append_right _ (List.mem_append_right _ (List.mem_append_right _ (List.mem_append_right _ (List.mem_append_right _ (List.mem_append_right _ (List.mem_append_right _ (List.mem_append_right _ (List.mem_append_right _ (List.mem_append_right _ (List.mem_append_right _ (List.mem_append_right _ (List.mem_append_right _ (List.mem_append_right _ (List.mem_append_right _ (List.mem_append_right _ (List.mem_append_right _ (List.mem_append_right _ (List.mem_append_right _ (List.mem_append_right _ (List.mem_append_right _ (List.mem_append_right _ (List.mem_append_right _ (List.mem_append_right _ (List.mem_append_right _ (List.mem_append_right _ (List.mem_append_right _ (List.mem_append_right _ (List.mem_append_right _ (List.mem_append_right _ (List.mem_append_right _ (List.mem_append_right _ (List.mem_append_right _ (List.mem_append_right _ (List.mem_append_right _ (List.mem_append_right _ (List.mem_append_right _ (List.mem_append_left _ h))))))))))))))))))))))))))))))))))))))))))
theorem tin_wsX80 : ∀ w ∈ wsX80, w ∈ TT := fun _ h => (List.mem_append_right _ (List.mem_append_right _ (List.mem_append_right _ (List.mem_append_right _ (List.mem_append_right _ (List.mem_append_right _ (List.mem_append_right _ (List.mem_append_right _ (List.mem_append_right _ (List.mem_append_right _ (List.mem_append_right _ (List.mem_append_right _ (List.mem_append_right _ (List.mem_append_right _ (List.mem_append_right _ (List.mem_append_right _ (List.mem_append_right _ (List.mem_append_right _ (List.mem_append_right _ (List.mem_append_right _ (List.mem_append_right _ (List.mem_append_right _ (List.mem_append_right _ (List.mem_append_right _ (List.mem_append_right _ (List.mem_append_right _ (List.mem_append_right _ (List.mem_append_right _ (List.mem_append_right _ (List.mem_append_right _ (List.mem_append_right _ (List.mem_append_right _ (List.mem_append_right _ (List.mem_append_right _ (List.mem_append_right _ (List.mem_append_right _ (List.mem_append_right _ (List.mem_append_right _ (List.mem_append_right _ (List.mem_append_right _ (List.mem_append_right _ (List.mem_append_right _ (List.mem_append_left _ h)))))))))))))))))))))))))))))))))))))))))))
theorem tin_wsX90 : ∀ w ∈ wsX90, w ∈ TT := fun _ h => (List.mem_append_right _ (List.mem_append_right _ (List.mem_append_right _ (List.mem_append_right _ (List.mem_append_right _ (List.mem_append_right _ (List.mem_append_right _ (List.mem_append_right _ (List.mem_append_right _ (List.mem_append_right _ (List.mem_append_right _ (List.mem_append_right _ (List.mem_append_right _ (List.mem_append_right _ (List.mem_append_right _ (List.mem_append_right _ (List.mem_append_right _ (List.mem_append_right _ (List.mem_append_right _ (List.mem_append_right _ (List.mem_append_right _ (List.mem_append_right _ (List.mem_append_right _ (List.mem_append_right _ (List.mem_append_right _ (List.mem_append_right _ (List.mem_append_right _ (List.mem_append_right _ (List.mem_append_right _ (List.mem_append_right _ (List.mem_append_right _ (List.mem_append_right _ (List.mem_append_right _ (List.mem_append_right _ (List.mem_append_right _ (List.mem_append_right _ (List.mem_append_right _ (List.mem_append_right _ (List.mem_append_right _ (List.mem_append_right _ (List.mem_append_right _ (List.mem_append_right _ (List.mem_append_right _ (List.mem_append_left _ h))))))))))))))))))))))))))))))))))))))))))))
theorem tin_wsX100 : ∀ w ∈ wsX100, w ∈ TT := fun _ h => (List.mem_append_right _ (List.mem_append_right _ (List.mem_append_right _ (List.mem_append_right _ (List.mem_append_right _ (List.mem_append_right _ (List.mem_append_right _ (List.mem_append_right _ (List.mem_append_right _ (List.mem_append_right _ (List.mem_append_right _ (List.mem_append_right _ (List.mem_append_right _ (List.mem_append_right _ (List.mem_append_right _ (List.mem_append_right _ (List.mem_append_right _ (List.mem_append_right _ (List.mem_append_right _ (List.mem_append_right _ (List.mem_append_right _ (List.mem_append_right _ (List.mem_append_right _ (List.mem_append_right _ (List.mem_append_right _ (List.mem_append_right _ (List.mem_append_right _ (List.mem_append_right _ (List.mem_append_right _ (List.mem_append_right _ (List.mem_append_right _ (List.mem_append_right _ (List.mem_append_right _ (List.mem_append_right _ (List.mem_append_right _ (List.mem_append_right _ (List.mem_append_right _ (List.mem_append_right _ (List.mem_append_right _ (List.mem_append_right _ (List.mem_append_right _ (List.mem_append_right _ (List.mem_append_right _ (List.mem_append_right _ (List.mem_append_left _ h)))))))))))))))))))))))))))))))))))))))))))))
theorem tin_wsX110 : ∀ w ∈ wsX110, w ∈ TT := fun _ h => (List.mem_append_right _ (List.mem_append_right _ (List.mem_append_right _ (List.mem_append_right _ (List.mem_append_right _ (List.mem_append_right _ (List.mem_append_right _ (List.mem_append_right _ (List.mem_append_right _ (List.mem_append_right _ (List.mem_append_right _ (List.mem_append_right _ (List.mem_append_right _ (List.mem_append_right _ (List.mem_append_right _ (List.mem_append_right _ (List.mem_append_right _ (List.mem_append_right _ (List.mem_append_right _ (List.mem_append_right _ (List.mem_append_right _ (List.mem_append_right _ (List.mem_append_right _ (List.mem_append_right _ (List.mem_append_right _ (List.mem_append_right _ (List.mem_append_right _ (List.mem_append_right _ (List.mem_append_right _ (List.mem_append_right _ (List.mem_append_right _ (List.mem_append_right _ (List.mem_append_right _ (List.mem_append_right _ (List.mem_append_right _ (List.mem_append_right _ (List.mem_append_right _ (List.mem_append_right _ (List.mem_append_right _ (List.mem_append_right _ (List.mem_append_right _ (List.mem_append_right _ (List.mem_append_right _ (List.mem_append_right _ (List.mem_append_right _ h)))))))))))))))))))))))))))))))))))))))))))))
theorem tw0 : (Cond.classLink RL 8 RX10) ∈ TT := tin_TT0 _ (List.mem_of_getElem? (i := 0) rfl)
theorem tw1 : (Cond.instantiable RX10 5) ∈ TT := tin_TT0 _ (List.mem_of_getElem? (i := 1) rfl)
theorem tw2 : (Cond.initialized RX10) ∈ TT := tin_TT0 _ (List.mem_of_getElem? (i := 2) rfl)
theorem tw3 : (Cond.classLink RL 32 RX11) ∈ TT := tin_TT0 _ (List.mem_of_getElem? (i := 3) rfl)
theorem tw4 : (Cond.instantiable RX11 31) ∈ TT := tin_TT0 _ (List.mem_of_getElem? (i := 4) rfl)
theorem tw5 : (Cond.initialized RX11) ∈ TT := tin_TT0 _ (List.mem_of_getElem? (i := 5) rfl)
theorem tw6 : (Cond.arrayClass .long) ∈ TT := tin_TT0 _ (List.mem_of_getElem? (i := 6) rfl)
theorem tw7 : (Cond.constantLong RL 35 (4294967295)) ∈ TT := tin_TT0 _ (List.mem_of_getElem? (i := 7) rfl)
theorem tw8 : (Cond.methodLink RL 23 yL_cell) ∈ TT := tin_TT0 _ (List.mem_of_getElem? (i := 8) rfl)
theorem tw9 : (Cond.static yL_cell) ∈ TT := tin_TT0 _ (List.mem_of_getElem? (i := 9) rfl)
theorem tw10 : (Cond.initialized RL) ∈ TT := tin_TT0 _ (List.mem_of_getElem? (i := 10) rfl)
theorem tw11 : (Cond.code yL_cell cL_cell 2 (some .int)) ∈ TT := tin_TT0 _ (List.mem_of_getElem? (i := 11) rfl)
theorem tw12 : (Cond.methodLink RL 29 yX10_init) ∈ TT := tin_TT0 _ (List.mem_of_getElem? (i := 12) rfl)
theorem tw13 : (Cond.instanceMethod yX10_init) ∈ TT := tin_TT0 _ (List.mem_of_getElem? (i := 13) rfl)
theorem tw14 : (Cond.code yX10_init cX10_init 3 none) ∈ TT := tin_TT0 _ (List.mem_of_getElem? (i := 14) rfl)
theorem tw15 : (Cond.methodLink RX10 1 objectInit) ∈ TT := tin_TT0 _ (List.mem_of_getElem? (i := 15) rfl)
theorem tw16 : (Cond.instanceMethod objectInit) ∈ TT := tin_TT0 _ (List.mem_of_getElem? (i := 16) rfl)
theorem tw17 : (Cond.code objectInit ⟨#[0xb1]⟩ 1 none) ∈ TT := tin_TT0 _ (List.mem_of_getElem? (i := 17) rfl)
theorem tw18 : (Cond.classLink RX10 7 RX6) ∈ TT := tin_TT0 _ (List.mem_of_getElem? (i := 18) rfl)
theorem tw19 : (Cond.instantiable RX6 2) ∈ TT := tin_TT0 _ (List.mem_of_getElem? (i := 19) rfl)
theorem tw20 : (Cond.initialized RX6) ∈ TT := tin_TT0 _ (List.mem_of_getElem? (i := 20) rfl)
theorem tw21 : (Cond.methodLink RX10 11 Lib.Math.min.name) ∈ TT := tin_TT0 _ (List.mem_of_getElem? (i := 21) rfl)
theorem tw22 : (Cond.static Lib.Math.min.name) ∈ TT := tin_TT0 _ (List.mem_of_getElem? (i := 22) rfl)
theorem tw23 : (Cond.initialized "java/lang/Math") ∈ TT := tin_TT0 _ (List.mem_of_getElem? (i := 23) rfl)
theorem tw24 : (Cond.code Lib.Math.min.name Lib.Math.min.code 2 (some .int)) ∈ TT := tin_TT1 _ (List.mem_of_getElem? (i := 0) rfl)
theorem tw25 : (Cond.methodLink RX10 17 Lib.Math.max.name) ∈ TT := tin_TT1 _ (List.mem_of_getElem? (i := 1) rfl)
theorem tw26 : (Cond.static Lib.Math.max.name) ∈ TT := tin_TT1 _ (List.mem_of_getElem? (i := 2) rfl)
theorem tw27 : (Cond.code Lib.Math.max.name Lib.Math.max.code 2 (some .int)) ∈ TT := tin_TT1 _ (List.mem_of_getElem? (i := 3) rfl)
theorem tw28 : (Cond.fieldLink RX10 23 "TimedThreads" "memory" "LTimedThreads$SharedMemory;") ∈ TT := tin_TT1 _ (List.mem_of_getElem? (i := 4) rfl)
theorem tw29 : (Cond.classLink RX10 27 RX8) ∈ TT := tin_TT1 _ (List.mem_of_getElem? (i := 5) rfl)
theorem tw30 : (Cond.fieldLink RX10 29 "TimedThreads" "threads" "[LTimedThreads$TimedThread;") ∈ TT := tin_TT1 _ (List.mem_of_getElem? (i := 6) rfl)
theorem tw31 : (Cond.instantiable RX8 12) ∈ TT := tin_TT1 _ (List.mem_of_getElem? (i := 7) rfl)
theorem tw32 : (Cond.initialized RX8) ∈ TT := tin_TT1 _ (List.mem_of_getElem? (i := 8) rfl)
theorem tw33 : (Cond.classLink RX10 34 RX7) ∈ TT := tin_TT1 _ (List.mem_of_getElem? (i := 9) rfl)
theorem tw34 : (Cond.instantiable RX7 2) ∈ TT := tin_TT1 _ (List.mem_of_getElem? (i := 10) rfl)
theorem tw35 : (Cond.initialized RX7) ∈ TT := tin_TT1 _ (List.mem_of_getElem? (i := 11) rfl)
theorem tw36 : (Cond.fieldLink RX10 37 "TimedThreads" "text" "LTimedThreads$Text;") ∈ TT := tin_TT1 _ (List.mem_of_getElem? (i := 12) rfl)
theorem tw37 : (Cond.classLink RX10 41 RX0) ∈ TT := tin_TT1 _ (List.mem_of_getElem? (i := 13) rfl)
theorem tw38 : (Cond.instantiable RX0 15) ∈ TT := tin_TT1 _ (List.mem_of_getElem? (i := 14) rfl)
theorem tw39 : (Cond.initialized RX0) ∈ TT := tin_TT1 _ (List.mem_of_getElem? (i := 15) rfl)
theorem tw40 : (Cond.fieldLink RX10 44 "TimedThreads" "assembler" "LTimedThreads$Assembler;") ∈ TT := tin_TT1 _ (List.mem_of_getElem? (i := 16) rfl)
theorem tw41 : (Cond.methodLink RX10 20 yX6_init) ∈ TT := tin_TT1 _ (List.mem_of_getElem? (i := 17) rfl)
theorem tw42 : (Cond.instanceMethod yX6_init) ∈ TT := tin_TT1 _ (List.mem_of_getElem? (i := 18) rfl)
theorem tw43 : (Cond.code yX6_init cX6_init 2 none) ∈ TT := tin_TT1 _ (List.mem_of_getElem? (i := 19) rfl)
theorem tw44 : (Cond.methodLink RX6 3 objectInit) ∈ TT := tin_TT1 _ (List.mem_of_getElem? (i := 20) rfl)
theorem tw45 : (Cond.arrayClass .int) ∈ TT := tin_TT1 _ (List.mem_of_getElem? (i := 21) rfl)
theorem tw46 : (Cond.fieldLink RX6 9 "TimedThreads$SharedMemory" "words" "[I") ∈ TT := tin_TT1 _ (List.mem_of_getElem? (i := 22) rfl)
theorem tw47 : (Cond.fieldLink RX6 15 "TimedThreads$SharedMemory" "wheel" "I") ∈ TT := tin_TT1 _ (List.mem_of_getElem? (i := 23) rfl)
theorem tw48 : (Cond.methodLink RX10 33 yX8_init) ∈ TT := tin_TT2 _ (List.mem_of_getElem? (i := 0) rfl)
theorem tw49 : (Cond.instanceMethod yX8_init) ∈ TT := tin_TT2 _ (List.mem_of_getElem? (i := 1) rfl)
theorem tw50 : (Cond.code yX8_init cX8_init 2 none) ∈ TT := tin_TT2 _ (List.mem_of_getElem? (i := 2) rfl)
theorem tw51 : (Cond.methodLink RX8 3 objectInit) ∈ TT := tin_TT2 _ (List.mem_of_getElem? (i := 3) rfl)
theorem tw52 : (Cond.fieldLink RX8 9 "TimedThreads$TimedThread" "registers" "[I") ∈ TT := tin_TT2 _ (List.mem_of_getElem? (i := 4) rfl)
theorem tw53 : (Cond.fieldLink RX8 15 "TimedThreads$TimedThread" "store" "[I") ∈ TT := tin_TT2 _ (List.mem_of_getElem? (i := 5) rfl)
theorem tw54 : (Cond.classLink RX8 18 RX2) ∈ TT := tin_TT2 _ (List.mem_of_getElem? (i := 6) rfl)
theorem tw55 : (Cond.instantiable RX2 4) ∈ TT := tin_TT2 _ (List.mem_of_getElem? (i := 7) rfl)
theorem tw56 : (Cond.initialized RX2) ∈ TT := tin_TT2 _ (List.mem_of_getElem? (i := 8) rfl)
theorem tw57 : (Cond.fieldLink RX8 21 "TimedThreads$TimedThread" "history" "LTimedThreads$History;") ∈ TT := tin_TT2 _ (List.mem_of_getElem? (i := 9) rfl)
theorem tw58 : (Cond.fieldLink RX8 25 "TimedThreads$TimedThread" "timers" "[I") ∈ TT := tin_TT2 _ (List.mem_of_getElem? (i := 10) rfl)
theorem tw59 : (Cond.fieldLink RX8 28 "TimedThreads$TimedThread" "status" "I") ∈ TT := tin_TT2 _ (List.mem_of_getElem? (i := 11) rfl)
theorem tw60 : (Cond.fieldLink RX8 32 "TimedThreads$TimedThread" "number" "I") ∈ TT := tin_TT2 _ (List.mem_of_getElem? (i := 12) rfl)
theorem tw61 : (Cond.instanceMethod yX2_init) ∈ TT := tin_TT2 _ (List.mem_of_getElem? (i := 13) rfl)
theorem tw62 : (Cond.code yX2_init cX2_init 1 none) ∈ TT := tin_TT2 _ (List.mem_of_getElem? (i := 14) rfl)
theorem tw63 : (Cond.methodLink RX2 3 objectInit) ∈ TT := tin_TT2 _ (List.mem_of_getElem? (i := 15) rfl)
theorem tw64 : (Cond.fieldLink RX2 9 "TimedThreads$History" "addresses" "[I") ∈ TT := tin_TT2 _ (List.mem_of_getElem? (i := 16) rfl)
theorem tw65 : (Cond.fieldLink RX2 15 "TimedThreads$History" "cycles" "[I") ∈ TT := tin_TT2 _ (List.mem_of_getElem? (i := 17) rfl)
theorem tw66 : (Cond.fieldLink RX2 18 "TimedThreads$History" "retirements" "[I") ∈ TT := tin_TT2 _ (List.mem_of_getElem? (i := 18) rfl)
theorem tw67 : (Cond.instanceMethod yX7_init) ∈ TT := tin_TT2 _ (List.mem_of_getElem? (i := 19) rfl)
theorem tw68 : (Cond.code yX7_init cX7_init 1 none) ∈ TT := tin_TT2 _ (List.mem_of_getElem? (i := 20) rfl)
theorem tw69 : (Cond.methodLink RX7 3 objectInit) ∈ TT := tin_TT2 _ (List.mem_of_getElem? (i := 21) rfl)
theorem tw70 : (Cond.arrayClass .char) ∈ TT := tin_TT2 _ (List.mem_of_getElem? (i := 22) rfl)
theorem tw71 : (Cond.fieldLink RX7 9 "TimedThreads$Text" "characters" "[C") ∈ TT := tin_TT2 _ (List.mem_of_getElem? (i := 23) rfl)
theorem tw72 : (Cond.instanceMethod yX0_init) ∈ TT := tin_TT3 _ (List.mem_of_getElem? (i := 0) rfl)
theorem tw73 : (Cond.code yX0_init cX0_init 1 none) ∈ TT := tin_TT3 _ (List.mem_of_getElem? (i := 1) rfl)
theorem tw74 : (Cond.methodLink RX0 3 objectInit) ∈ TT := tin_TT3 _ (List.mem_of_getElem? (i := 2) rfl)
theorem tw75 : (Cond.fieldLink RX0 9 "TimedThreads$Assembler" "words" "[I") ∈ TT := tin_TT3 _ (List.mem_of_getElem? (i := 3) rfl)
theorem tw76 : (Cond.fieldLink RX0 15 "TimedThreads$Assembler" "targets" "[J") ∈ TT := tin_TT3 _ (List.mem_of_getElem? (i := 4) rfl)
theorem tw77 : (Cond.fieldLink RX0 19 "TimedThreads$Assembler" "lines" "[I") ∈ TT := tin_TT3 _ (List.mem_of_getElem? (i := 5) rfl)
theorem tw78 : (Cond.classLink RX0 22 RX3) ∈ TT := tin_TT3 _ (List.mem_of_getElem? (i := 6) rfl)
theorem tw79 : (Cond.instantiable RX3 3) ∈ TT := tin_TT3 _ (List.mem_of_getElem? (i := 7) rfl)
theorem tw80 : (Cond.initialized RX3) ∈ TT := tin_TT3 _ (List.mem_of_getElem? (i := 8) rfl)
theorem tw81 : (Cond.fieldLink RX0 25 "TimedThreads$Assembler" "labels" "LTimedThreads$Labels;") ∈ TT := tin_TT3 _ (List.mem_of_getElem? (i := 9) rfl)
theorem tw82 : (Cond.classLink RX0 29 RX9) ∈ TT := tin_TT3 _ (List.mem_of_getElem? (i := 10) rfl)
theorem tw83 : (Cond.instantiable RX9 6) ∈ TT := tin_TT3 _ (List.mem_of_getElem? (i := 11) rfl)
theorem tw84 : (Cond.initialized RX9) ∈ TT := tin_TT3 _ (List.mem_of_getElem? (i := 12) rfl)
theorem tw85 : (Cond.fieldLink RX0 32 "TimedThreads$Assembler" "tokens" "LTimedThreads$Tokens;") ∈ TT := tin_TT3 _ (List.mem_of_getElem? (i := 13) rfl)
theorem tw86 : (Cond.instanceMethod yX3_init) ∈ TT := tin_TT3 _ (List.mem_of_getElem? (i := 14) rfl)
theorem tw87 : (Cond.code yX3_init cX3_init 1 none) ∈ TT := tin_TT3 _ (List.mem_of_getElem? (i := 15) rfl)
theorem tw88 : (Cond.methodLink RX3 3 objectInit) ∈ TT := tin_TT3 _ (List.mem_of_getElem? (i := 16) rfl)
theorem tw89 : (Cond.fieldLink RX3 9 "TimedThreads$Labels" "keys" "[J") ∈ TT := tin_TT3 _ (List.mem_of_getElem? (i := 17) rfl)
theorem tw90 : (Cond.fieldLink RX3 15 "TimedThreads$Labels" "places" "[I") ∈ TT := tin_TT3 _ (List.mem_of_getElem? (i := 18) rfl)
theorem tw91 : (Cond.instanceMethod yX9_init) ∈ TT := tin_TT3 _ (List.mem_of_getElem? (i := 19) rfl)
theorem tw92 : (Cond.code yX9_init cX9_init 1 none) ∈ TT := tin_TT3 _ (List.mem_of_getElem? (i := 20) rfl)
theorem tw93 : (Cond.methodLink RX9 3 objectInit) ∈ TT := tin_TT3 _ (List.mem_of_getElem? (i := 21) rfl)
theorem tw94 : (Cond.fieldLink RX9 9 "TimedThreads$Tokens" "kinds" "[C") ∈ TT := tin_TT3 _ (List.mem_of_getElem? (i := 22) rfl)
theorem tw95 : (Cond.fieldLink RX9 15 "TimedThreads$Tokens" "values" "[J") ∈ TT := tin_TT3 _ (List.mem_of_getElem? (i := 23) rfl)
theorem tw96 : (Cond.methodLink RL 34 yX11_init) ∈ TT := tin_TT4 _ (List.mem_of_getElem? (i := 0) rfl)
theorem tw97 : (Cond.instanceMethod yX11_init) ∈ TT := tin_TT4 _ (List.mem_of_getElem? (i := 1) rfl)
theorem tw98 : (Cond.code yX11_init cX11_init 2 none) ∈ TT := tin_TT4 _ (List.mem_of_getElem? (i := 2) rfl)
theorem tw99 : (Cond.methodLink RX11 1 objectInit) ∈ TT := tin_TT4 _ (List.mem_of_getElem? (i := 3) rfl)
theorem tw100 : (Cond.fieldLink RX11 7 "TimedThreadsModel" "text" "[C") ∈ TT := tin_TT4 _ (List.mem_of_getElem? (i := 4) rfl)
theorem tw101 : (Cond.fieldLink RX11 13 "TimedThreadsModel" "code" "[I") ∈ TT := tin_TT4 _ (List.mem_of_getElem? (i := 5) rfl)
theorem tw102 : (Cond.fieldLink RX11 17 "TimedThreadsModel" "label" "[J") ∈ TT := tin_TT4 _ (List.mem_of_getElem? (i := 6) rfl)
theorem tw103 : (Cond.fieldLink RX11 21 "TimedThreadsModel" "labelWord" "[I") ∈ TT := tin_TT4 _ (List.mem_of_getElem? (i := 7) rfl)
theorem tw104 : (Cond.fieldLink RX11 24 "TimedThreadsModel" "target" "[J") ∈ TT := tin_TT4 _ (List.mem_of_getElem? (i := 8) rfl)
theorem tw105 : (Cond.fieldLink RX11 27 "TimedThreadsModel" "targetWord" "[I") ∈ TT := tin_TT4 _ (List.mem_of_getElem? (i := 9) rfl)
theorem tw106 : (Cond.fieldLink RX11 30 "TimedThreadsModel" "targetLine" "[I") ∈ TT := tin_TT4 _ (List.mem_of_getElem? (i := 10) rfl)
theorem tw107 : (Cond.fieldLink RX11 33 "TimedThreadsModel" "store" "[I") ∈ TT := tin_TT4 _ (List.mem_of_getElem? (i := 11) rfl)
theorem tw108 : (Cond.fieldLink RX11 36 "TimedThreadsModel" "common" "[I") ∈ TT := tin_TT4 _ (List.mem_of_getElem? (i := 12) rfl)
theorem tw109 : (Cond.fieldLink RX11 39 "TimedThreadsModel" "low" "[I") ∈ TT := tin_TT4 _ (List.mem_of_getElem? (i := 13) rfl)
theorem tw110 : (Cond.fieldLink RX11 42 "TimedThreadsModel" "high" "[I") ∈ TT := tin_TT4 _ (List.mem_of_getElem? (i := 14) rfl)
theorem tw111 : (Cond.fieldLink RX11 45 "TimedThreadsModel" "register" "[I") ∈ TT := tin_TT4 _ (List.mem_of_getElem? (i := 15) rfl)
theorem tw112 : (Cond.fieldLink RX11 48 "TimedThreadsModel" "address" "[I") ∈ TT := tin_TT4 _ (List.mem_of_getElem? (i := 16) rfl)
theorem tw113 : (Cond.fieldLink RX11 51 "TimedThreadsModel" "status" "[I") ∈ TT := tin_TT4 _ (List.mem_of_getElem? (i := 17) rfl)
theorem tw114 : (Cond.fieldLink RX11 54 "TimedThreadsModel" "did" "[I") ∈ TT := tin_TT4 _ (List.mem_of_getElem? (i := 18) rfl)
theorem tw115 : (Cond.fieldLink RX11 57 "TimedThreadsModel" "ready" "[I") ∈ TT := tin_TT4 _ (List.mem_of_getElem? (i := 19) rfl)
theorem tw116 : (Cond.fieldLink RX11 60 "TimedThreadsModel" "timer" "[I") ∈ TT := tin_TT4 _ (List.mem_of_getElem? (i := 20) rfl)
theorem tw117 : (Cond.fieldLink RX11 63 "TimedThreadsModel" "trace" "[I") ∈ TT := tin_TT4 _ (List.mem_of_getElem? (i := 21) rfl)
theorem tw118 : (Cond.fieldLink RX11 66 "TimedThreadsModel" "wheel" "I") ∈ TT := tin_TT4 _ (List.mem_of_getElem? (i := 22) rfl)
theorem tw119 : (Cond.methodLink RL 37 yL_type) ∈ TT := tin_TT4 _ (List.mem_of_getElem? (i := 23) rfl)
theorem tw120 : (Cond.static yL_type) ∈ TT := tin_TT5 _ (List.mem_of_getElem? (i := 0) rfl)
theorem tw121 : (Cond.codeWith yL_type cL_type 6 (some .int) [(0, 11, 14, 13), (0, 11, 18, 15)]) ∈ TT := tin_TT5 _ (List.mem_of_getElem? (i := 1) rfl)
theorem tw122 : (Cond.classLink RL 13 "java/lang/IllegalArgumentException") ∈ TT := tin_TT5 _ (List.mem_of_getElem? (i := 2) rfl)
theorem tw123 : (Cond.classLink RL 15 "java/lang/IllegalStateException") ∈ TT := tin_TT5 _ (List.mem_of_getElem? (i := 3) rfl)
theorem tw124 : (Cond.methodLink RL 7 yX10_type) ∈ TT := tin_TT5 _ (List.mem_of_getElem? (i := 4) rfl)
theorem tw125 : (Cond.instanceMethod yX10_type) ∈ TT := tin_TT5 _ (List.mem_of_getElem? (i := 5) rfl)
theorem tw126 : (Cond.selects RX10 yX10_type yX10_type) ∈ TT := tin_TT5 _ (List.mem_of_getElem? (i := 6) rfl)
theorem tw127 : (Cond.code yX10_type cX10_type 4 (some .int)) ∈ TT := tin_TT5 _ (List.mem_of_getElem? (i := 7) rfl)
theorem tw128 : (Cond.classLink RX10 52 "java/lang/IllegalArgumentException") ∈ TT := tin_TT5 _ (List.mem_of_getElem? (i := 8) rfl)
theorem tw129 : (Cond.initialized "java/lang/IllegalArgumentException") ∈ TT := tin_TT5 _ (List.mem_of_getElem? (i := 9) rfl)
theorem tw130 : (Cond.classLink RX10 59 "java/lang/IllegalStateException") ∈ TT := tin_TT5 _ (List.mem_of_getElem? (i := 10) rfl)
theorem tw131 : (Cond.initialized "java/lang/IllegalStateException") ∈ TT := tin_TT5 _ (List.mem_of_getElem? (i := 11) rfl)
theorem tw132 : (Cond.fieldLink RX10 55 "TimedThreads$Text" "length" "I") ∈ TT := tin_TT5 _ (List.mem_of_getElem? (i := 12) rfl)
theorem tw133 : (Cond.methodLink RX10 48 yX7_canBeTyped) ∈ TT := tin_TT5 _ (List.mem_of_getElem? (i := 13) rfl)
theorem tw134 : (Cond.static yX7_canBeTyped) ∈ TT := tin_TT5 _ (List.mem_of_getElem? (i := 14) rfl)
theorem tw135 : (Cond.code yX7_canBeTyped cX7_canBeTyped 5 (some .boolean)) ∈ TT := tin_TT5 _ (List.mem_of_getElem? (i := 15) rfl)
theorem tw136 : (Cond.methodLink RX7 15 yX7_byteOf) ∈ TT := tin_TT5 _ (List.mem_of_getElem? (i := 16) rfl)
theorem tw137 : (Cond.static yX7_byteOf) ∈ TT := tin_TT5 _ (List.mem_of_getElem? (i := 17) rfl)
theorem tw138 : (Cond.code yX7_byteOf cX7_byteOf 3 (some .char)) ∈ TT := tin_TT5 _ (List.mem_of_getElem? (i := 18) rfl)
theorem tw139 : (Cond.constantLong RX7 23 (255)) ∈ TT := tin_TT5 _ (List.mem_of_getElem? (i := 19) rfl)
theorem tw140 : (Cond.methodLink RX10 62 yX7_add) ∈ TT := tin_TT5 _ (List.mem_of_getElem? (i := 20) rfl)
theorem tw141 : (Cond.instanceMethod yX7_add) ∈ TT := tin_TT5 _ (List.mem_of_getElem? (i := 21) rfl)
theorem tw142 : (Cond.selects RX7 yX7_add yX7_add) ∈ TT := tin_TT5 _ (List.mem_of_getElem? (i := 22) rfl)
theorem tw143 : (Cond.code yX7_add cX7_add 5 none) ∈ TT := tin_TT5 _ (List.mem_of_getElem? (i := 23) rfl)
theorem tw144 : (Cond.fieldLink RX7 19 "TimedThreads$Text" "length" "I") ∈ TT := tin_TT6 _ (List.mem_of_getElem? (i := 0) rfl)
theorem tw145 : (Cond.methodLink RL 40 yX11_type) ∈ TT := tin_TT6 _ (List.mem_of_getElem? (i := 1) rfl)
theorem tw146 : (Cond.instanceMethod yX11_type) ∈ TT := tin_TT6 _ (List.mem_of_getElem? (i := 2) rfl)
theorem tw147 : (Cond.selects RX11 yX11_type yX11_type) ∈ TT := tin_TT6 _ (List.mem_of_getElem? (i := 3) rfl)
theorem tw148 : (Cond.code yX11_type cX11_type 6 (some .int)) ∈ TT := tin_TT6 _ (List.mem_of_getElem? (i := 4) rfl)
theorem tw149 : (Cond.constantLong RX11 79 (255)) ∈ TT := tin_TT6 _ (List.mem_of_getElem? (i := 5) rfl)
theorem tw150 : (Cond.fieldLink RX11 85 "TimedThreadsModel" "length" "I") ∈ TT := tin_TT6 _ (List.mem_of_getElem? (i := 6) rfl)
theorem tw151 : (Cond.fieldLink RX11 70 "TimedThreadsModel" "refusal" "I") ∈ TT := tin_TT6 _ (List.mem_of_getElem? (i := 7) rfl)
theorem tw152 : (Cond.methodLink RX11 81 yX11_isCharacter) ∈ TT := tin_TT6 _ (List.mem_of_getElem? (i := 8) rfl)
theorem tw153 : (Cond.static yX11_isCharacter) ∈ TT := tin_TT6 _ (List.mem_of_getElem? (i := 9) rfl)
theorem tw154 : (Cond.code yX11_isCharacter cX11_isCharacter 2 (some .boolean)) ∈ TT := tin_TT6 _ (List.mem_of_getElem? (i := 10) rfl)
theorem tw155 : (Cond.constantLong RX11 73 (10)) ∈ TT := tin_TT6 _ (List.mem_of_getElem? (i := 11) rfl)
theorem tw156 : (Cond.constantLong RX11 75 (32)) ∈ TT := tin_TT6 _ (List.mem_of_getElem? (i := 12) rfl)
theorem tw157 : (Cond.constantLong RX11 77 (126)) ∈ TT := tin_TT6 _ (List.mem_of_getElem? (i := 13) rfl)
theorem tw158 : (Cond.methodLink RL 41 yX11_thrown) ∈ TT := tin_TT6 _ (List.mem_of_getElem? (i := 14) rfl)
theorem tw159 : (Cond.instanceMethod yX11_thrown) ∈ TT := tin_TT6 _ (List.mem_of_getElem? (i := 15) rfl)
theorem tw160 : (Cond.selects RX11 yX11_thrown yX11_thrown) ∈ TT := tin_TT6 _ (List.mem_of_getElem? (i := 16) rfl)
theorem tw161 : (Cond.code yX11_thrown cX11_thrown 1 (some .int)) ∈ TT := tin_TT6 _ (List.mem_of_getElem? (i := 17) rfl)
theorem tw162 : (Cond.methodLink RL 45 yX10_clear) ∈ TT := tin_TT6 _ (List.mem_of_getElem? (i := 18) rfl)
theorem tw163 : (Cond.instanceMethod yX10_clear) ∈ TT := tin_TT6 _ (List.mem_of_getElem? (i := 19) rfl)
theorem tw164 : (Cond.selects RX10 yX10_clear yX10_clear) ∈ TT := tin_TT6 _ (List.mem_of_getElem? (i := 20) rfl)
theorem tw165 : (Cond.code yX10_clear cX10_clear 2 (some .int)) ∈ TT := tin_TT6 _ (List.mem_of_getElem? (i := 21) rfl)
theorem tw166 : (Cond.methodLink RL 48 yX11_clear) ∈ TT := tin_TT6 _ (List.mem_of_getElem? (i := 22) rfl)
theorem tw167 : (Cond.instanceMethod yX11_clear) ∈ TT := tin_TT6 _ (List.mem_of_getElem? (i := 23) rfl)
theorem tw168 : (Cond.selects RX11 yX11_clear yX11_clear) ∈ TT := tin_TT7 _ (List.mem_of_getElem? (i := 0) rfl)
theorem tw169 : (Cond.code yX11_clear cX11_clear 2 (some .int)) ∈ TT := tin_TT7 _ (List.mem_of_getElem? (i := 1) rfl)
theorem tw170 : (Cond.methodLink RL 49 yL_assemble) ∈ TT := tin_TT7 _ (List.mem_of_getElem? (i := 2) rfl)
theorem tw171 : (Cond.static yL_assemble) ∈ TT := tin_TT7 _ (List.mem_of_getElem? (i := 3) rfl)
theorem tw172 : (Cond.codeWith yL_assemble cL_assemble 5 (some .int) [(0, 10, 13, 21), (0, 10, 17, 13)]) ∈ TT := tin_TT7 _ (List.mem_of_getElem? (i := 4) rfl)
theorem tw173 : (Cond.classLink RL 21 "java/util/NoSuchElementException") ∈ TT := tin_TT7 _ (List.mem_of_getElem? (i := 5) rfl)
theorem tw174 : (Cond.methodLink RL 17 yX10_assemble) ∈ TT := tin_TT7 _ (List.mem_of_getElem? (i := 6) rfl)
theorem tw175 : (Cond.instanceMethod yX10_assemble) ∈ TT := tin_TT7 _ (List.mem_of_getElem? (i := 7) rfl)
theorem tw176 : (Cond.selects RX10 yX10_assemble yX10_assemble) ∈ TT := tin_TT7 _ (List.mem_of_getElem? (i := 8) rfl)
theorem tw177 : (Cond.code yX10_assemble cX10_assemble 3 (some .int)) ∈ TT := tin_TT7 _ (List.mem_of_getElem? (i := 9) rfl)
theorem tw178 : (Cond.classLink RX10 70 "java/util/NoSuchElementException") ∈ TT := tin_TT7 _ (List.mem_of_getElem? (i := 10) rfl)
theorem tw179 : (Cond.initialized "java/util/NoSuchElementException") ∈ TT := tin_TT7 _ (List.mem_of_getElem? (i := 11) rfl)
theorem tw180 : (Cond.fieldLink RX10 77 "TimedThreads$Assembler" "faultKind" "I") ∈ TT := tin_TT7 _ (List.mem_of_getElem? (i := 12) rfl)
theorem tw181 : (Cond.fieldLink RX10 80 "TimedThreads$Assembler" "words" "[I") ∈ TT := tin_TT7 _ (List.mem_of_getElem? (i := 13) rfl)
theorem tw182 : (Cond.fieldLink RX10 84 "TimedThreads$TimedThread" "store" "[I") ∈ TT := tin_TT7 _ (List.mem_of_getElem? (i := 14) rfl)
theorem tw183 : (Cond.fieldLink RX10 87 "TimedThreads$Assembler" "count" "I") ∈ TT := tin_TT7 _ (List.mem_of_getElem? (i := 15) rfl)
theorem tw184 : (Cond.methodLink RX10 90 arraycopyName) ∈ TT := tin_TT7 _ (List.mem_of_getElem? (i := 16) rfl)
theorem tw185 : (Cond.native arraycopyName) ∈ TT := tin_TT7 _ (List.mem_of_getElem? (i := 17) rfl)
theorem tw186 : (Cond.static arraycopyName) ∈ TT := tin_TT7 _ (List.mem_of_getElem? (i := 18) rfl)
theorem tw187 : (Cond.initialized "java/lang/System") ∈ TT := tin_TT7 _ (List.mem_of_getElem? (i := 19) rfl)
theorem tw188 : (Cond.methodLink RX10 66 yX10_isStoreWord) ∈ TT := tin_TT7 _ (List.mem_of_getElem? (i := 20) rfl)
theorem tw189 : (Cond.static yX10_isStoreWord) ∈ TT := tin_TT7 _ (List.mem_of_getElem? (i := 21) rfl)
theorem tw190 : (Cond.code yX10_isStoreWord cX10_isStoreWord 2 (some .boolean)) ∈ TT := tin_TT7 _ (List.mem_of_getElem? (i := 22) rfl)
theorem tw191 : (Cond.methodLink RX10 100 yX10_isThread) ∈ TT := tin_TT7 _ (List.mem_of_getElem? (i := 23) rfl)
theorem tw192 : (Cond.static yX10_isThread) ∈ TT := tin_TT8 _ (List.mem_of_getElem? (i := 0) rfl)
theorem tw193 : (Cond.code yX10_isThread cX10_isThread 1 (some .boolean)) ∈ TT := tin_TT8 _ (List.mem_of_getElem? (i := 1) rfl)
theorem tw194 : (Cond.methodLink RX10 73 yX0_read) ∈ TT := tin_TT8 _ (List.mem_of_getElem? (i := 2) rfl)
theorem tw195 : (Cond.instanceMethod yX0_read) ∈ TT := tin_TT8 _ (List.mem_of_getElem? (i := 3) rfl)
theorem tw196 : (Cond.selects RX0 yX0_read yX0_read) ∈ TT := tin_TT8 _ (List.mem_of_getElem? (i := 4) rfl)
theorem tw197 : (Cond.code yX0_read cX0_read 5 none) ∈ TT := tin_TT8 _ (List.mem_of_getElem? (i := 5) rfl)
theorem tw198 : (Cond.fieldLink RX0 40 "TimedThreads$Assembler" "at" "I") ∈ TT := tin_TT8 _ (List.mem_of_getElem? (i := 6) rfl)
theorem tw199 : (Cond.fieldLink RX0 44 "TimedThreads$Assembler" "count" "I") ∈ TT := tin_TT8 _ (List.mem_of_getElem? (i := 7) rfl)
theorem tw200 : (Cond.fieldLink RX0 47 "TimedThreads$Labels" "count" "I") ∈ TT := tin_TT8 _ (List.mem_of_getElem? (i := 8) rfl)
theorem tw201 : (Cond.fieldLink RX0 48 "TimedThreads$Assembler" "faultKind" "I") ∈ TT := tin_TT8 _ (List.mem_of_getElem? (i := 9) rfl)
theorem tw202 : (Cond.fieldLink RX0 51 "TimedThreads$Assembler" "faultLine" "I") ∈ TT := tin_TT8 _ (List.mem_of_getElem? (i := 10) rfl)
theorem tw203 : (Cond.methodLink RX0 36 yX9_split) ∈ TT := tin_TT8 _ (List.mem_of_getElem? (i := 11) rfl)
theorem tw204 : (Cond.instanceMethod yX9_split) ∈ TT := tin_TT8 _ (List.mem_of_getElem? (i := 12) rfl)
theorem tw205 : (Cond.selects RX9 yX9_split yX9_split) ∈ TT := tin_TT8 _ (List.mem_of_getElem? (i := 13) rfl)
theorem tw206 : (Cond.code yX9_split cX9_split 4 none) ∈ TT := tin_TT8 _ (List.mem_of_getElem? (i := 14) rfl)
theorem tw207 : (Cond.fieldLink RX9 19 "TimedThreads$Text" "characters" "[C") ∈ TT := tin_TT8 _ (List.mem_of_getElem? (i := 15) rfl)
theorem tw208 : (Cond.fieldLink RX9 24 "TimedThreads$Tokens" "characters" "[C") ∈ TT := tin_TT8 _ (List.mem_of_getElem? (i := 16) rfl)
theorem tw209 : (Cond.fieldLink RX9 25 "TimedThreads$Text" "length" "I") ∈ TT := tin_TT8 _ (List.mem_of_getElem? (i := 17) rfl)
theorem tw210 : (Cond.fieldLink RX9 29 "TimedThreads$Tokens" "length" "I") ∈ TT := tin_TT8 _ (List.mem_of_getElem? (i := 18) rfl)
theorem tw211 : (Cond.fieldLink RX9 30 "TimedThreads$Tokens" "count" "I") ∈ TT := tin_TT8 _ (List.mem_of_getElem? (i := 19) rfl)
theorem tw212 : (Cond.fieldLink RX9 33 "TimedThreads$Tokens" "at" "I") ∈ TT := tin_TT8 _ (List.mem_of_getElem? (i := 20) rfl)
theorem tw213 : (Cond.methodLink RX9 36 yX9_isLetter) ∈ TT := tin_TT8 _ (List.mem_of_getElem? (i := 21) rfl)
theorem tw214 : (Cond.static yX9_isLetter) ∈ TT := tin_TT8 _ (List.mem_of_getElem? (i := 22) rfl)
theorem tw215 : (Cond.code yX9_isLetter cX9_isLetter 1 (some .boolean)) ∈ TT := tin_TT8 _ (List.mem_of_getElem? (i := 23) rfl)
theorem tw216 : (Cond.methodLink RX9 40 yX9_takeLetters) ∈ TT := tin_TT9 _ (List.mem_of_getElem? (i := 0) rfl)
theorem tw217 : (Cond.instanceMethod yX9_takeLetters) ∈ TT := tin_TT9 _ (List.mem_of_getElem? (i := 1) rfl)
theorem tw218 : (Cond.selects RX9 yX9_takeLetters yX9_takeLetters) ∈ TT := tin_TT9 _ (List.mem_of_getElem? (i := 2) rfl)
theorem tw219 : (Cond.code yX9_takeLetters cX9_takeLetters 5 none) ∈ TT := tin_TT9 _ (List.mem_of_getElem? (i := 3) rfl)
theorem tw220 : (Cond.methodLink RX9 58 yX9_withLetter) ∈ TT := tin_TT9 _ (List.mem_of_getElem? (i := 4) rfl)
theorem tw221 : (Cond.static yX9_withLetter) ∈ TT := tin_TT9 _ (List.mem_of_getElem? (i := 5) rfl)
theorem tw222 : (Cond.code yX9_withLetter cX9_withLetter 3 (some .long)) ∈ TT := tin_TT9 _ (List.mem_of_getElem? (i := 6) rfl)
theorem tw223 : (Cond.methodLink RX9 43 yX9_isDigit) ∈ TT := tin_TT9 _ (List.mem_of_getElem? (i := 7) rfl)
theorem tw224 : (Cond.static yX9_isDigit) ∈ TT := tin_TT9 _ (List.mem_of_getElem? (i := 8) rfl)
theorem tw225 : (Cond.code yX9_isDigit cX9_isDigit 1 (some .boolean)) ∈ TT := tin_TT9 _ (List.mem_of_getElem? (i := 9) rfl)
theorem tw226 : (Cond.methodLink RX9 62 yX9_takeRegister) ∈ TT := tin_TT9 _ (List.mem_of_getElem? (i := 10) rfl)
theorem tw227 : (Cond.instanceMethod yX9_takeRegister) ∈ TT := tin_TT9 _ (List.mem_of_getElem? (i := 11) rfl)
theorem tw228 : (Cond.selects RX9 yX9_takeRegister yX9_takeRegister) ∈ TT := tin_TT9 _ (List.mem_of_getElem? (i := 12) rfl)
theorem tw229 : (Cond.code yX9_takeRegister cX9_takeRegister 4 none) ∈ TT := tin_TT9 _ (List.mem_of_getElem? (i := 13) rfl)
theorem tw230 : (Cond.constantLong RX9 69 (16)) ∈ TT := tin_TT9 _ (List.mem_of_getElem? (i := 14) rfl)
theorem tw231 : (Cond.methodLink RX9 65 yX9_takeDigits) ∈ TT := tin_TT9 _ (List.mem_of_getElem? (i := 15) rfl)
theorem tw232 : (Cond.instanceMethod yX9_takeDigits) ∈ TT := tin_TT9 _ (List.mem_of_getElem? (i := 16) rfl)
theorem tw233 : (Cond.selects RX9 yX9_takeDigits yX9_takeDigits) ∈ TT := tin_TT9 _ (List.mem_of_getElem? (i := 17) rfl)
theorem tw234 : (Cond.code yX9_takeDigits cX9_takeDigits 4 (some .long)) ∈ TT := tin_TT9 _ (List.mem_of_getElem? (i := 18) rfl)
theorem tw235 : (Cond.constantLong RX9 71 (10)) ∈ TT := tin_TT9 _ (List.mem_of_getElem? (i := 19) rfl)
theorem tw236 : (Cond.constantLong RX9 73 (1099511627776)) ∈ TT := tin_TT9 _ (List.mem_of_getElem? (i := 20) rfl)
theorem tw237 : (Cond.methodLink RX9 54 yX9_add) ∈ TT := tin_TT9 _ (List.mem_of_getElem? (i := 21) rfl)
theorem tw238 : (Cond.instanceMethod yX9_add) ∈ TT := tin_TT9 _ (List.mem_of_getElem? (i := 22) rfl)
theorem tw239 : (Cond.selects RX9 yX9_add yX9_add) ∈ TT := tin_TT9 _ (List.mem_of_getElem? (i := 23) rfl)
theorem tw240 : (Cond.code yX9_add cX9_add 4 none) ∈ TT := tin_TT10 _ (List.mem_of_getElem? (i := 0) rfl)
theorem tw241 : (Cond.methodLink RX9 46 yX9_takeNumber) ∈ TT := tin_TT10 _ (List.mem_of_getElem? (i := 1) rfl)
theorem tw242 : (Cond.instanceMethod yX9_takeNumber) ∈ TT := tin_TT10 _ (List.mem_of_getElem? (i := 2) rfl)
theorem tw243 : (Cond.selects RX9 yX9_takeNumber yX9_takeNumber) ∈ TT := tin_TT10 _ (List.mem_of_getElem? (i := 3) rfl)
theorem tw244 : (Cond.code yX9_takeNumber cX9_takeNumber 5 none) ∈ TT := tin_TT10 _ (List.mem_of_getElem? (i := 4) rfl)
theorem tw245 : (Cond.methodLink RX9 50 yX9_takeMark) ∈ TT := tin_TT10 _ (List.mem_of_getElem? (i := 5) rfl)
theorem tw246 : (Cond.instanceMethod yX9_takeMark) ∈ TT := tin_TT10 _ (List.mem_of_getElem? (i := 6) rfl)
theorem tw247 : (Cond.selects RX9 yX9_takeMark yX9_takeMark) ∈ TT := tin_TT10 _ (List.mem_of_getElem? (i := 7) rfl)
theorem tw248 : (Cond.code yX9_takeMark cX9_takeMark 2 none) ∈ TT := tin_TT10 _ (List.mem_of_getElem? (i := 8) rfl)
theorem tw249 : (Cond.methodLink RX0 54 yX9_size) ∈ TT := tin_TT10 _ (List.mem_of_getElem? (i := 9) rfl)
theorem tw250 : (Cond.instanceMethod yX9_size) ∈ TT := tin_TT10 _ (List.mem_of_getElem? (i := 10) rfl)
theorem tw251 : (Cond.selects RX9 yX9_size yX9_size) ∈ TT := tin_TT10 _ (List.mem_of_getElem? (i := 11) rfl)
theorem tw252 : (Cond.code yX9_size cX9_size 1 (some .int)) ∈ TT := tin_TT10 _ (List.mem_of_getElem? (i := 12) rfl)
theorem tw253 : (Cond.methodLink RX0 58 yX0_readLine) ∈ TT := tin_TT10 _ (List.mem_of_getElem? (i := 13) rfl)
theorem tw254 : (Cond.instanceMethod yX0_readLine) ∈ TT := tin_TT10 _ (List.mem_of_getElem? (i := 14) rfl)
theorem tw255 : (Cond.selects RX0 yX0_readLine yX0_readLine) ∈ TT := tin_TT10 _ (List.mem_of_getElem? (i := 15) rfl)
theorem tw256 : (Cond.code yX0_readLine cX0_readLine 1 none) ∈ TT := tin_TT10 _ (List.mem_of_getElem? (i := 16) rfl)
theorem tw257 : (Cond.fieldLink RX0 76 "TimedThreads$Assembler" "label" "J") ∈ TT := tin_TT10 _ (List.mem_of_getElem? (i := 17) rfl)
theorem tw258 : (Cond.fieldLink RX0 80 "TimedThreads$Assembler" "hasWord" "Z") ∈ TT := tin_TT10 _ (List.mem_of_getElem? (i := 18) rfl)
theorem tw259 : (Cond.fieldLink RX0 84 "TimedThreads$Assembler" "word" "I") ∈ TT := tin_TT10 _ (List.mem_of_getElem? (i := 19) rfl)
theorem tw260 : (Cond.fieldLink RX0 87 "TimedThreads$Assembler" "target" "J") ∈ TT := tin_TT10 _ (List.mem_of_getElem? (i := 20) rfl)
theorem tw261 : (Cond.fieldLink RX0 90 "TimedThreads$Assembler" "malformed" "Z") ∈ TT := tin_TT10 _ (List.mem_of_getElem? (i := 21) rfl)
theorem tw262 : (Cond.fieldLink RX0 93 "TimedThreads$Assembler" "misfit" "Z") ∈ TT := tin_TT10 _ (List.mem_of_getElem? (i := 22) rfl)
theorem tw263 : (Cond.methodLink RX0 96 yX9_kindAt) ∈ TT := tin_TT10 _ (List.mem_of_getElem? (i := 23) rfl)
theorem tw264 : (Cond.instanceMethod yX9_kindAt) ∈ TT := tin_TT11 _ (List.mem_of_getElem? (i := 0) rfl)
theorem tw265 : (Cond.selects RX9 yX9_kindAt yX9_kindAt) ∈ TT := tin_TT11 _ (List.mem_of_getElem? (i := 1) rfl)
theorem tw266 : (Cond.code yX9_kindAt cX9_kindAt 2 (some .char)) ∈ TT := tin_TT11 _ (List.mem_of_getElem? (i := 2) rfl)
theorem tw267 : (Cond.methodLink RX0 100 yX9_valueAt) ∈ TT := tin_TT11 _ (List.mem_of_getElem? (i := 3) rfl)
theorem tw268 : (Cond.instanceMethod yX9_valueAt) ∈ TT := tin_TT11 _ (List.mem_of_getElem? (i := 4) rfl)
theorem tw269 : (Cond.selects RX9 yX9_valueAt yX9_valueAt) ∈ TT := tin_TT11 _ (List.mem_of_getElem? (i := 5) rfl)
theorem tw270 : (Cond.code yX9_valueAt cX9_valueAt 2 (some .long)) ∈ TT := tin_TT11 _ (List.mem_of_getElem? (i := 6) rfl)
theorem tw271 : (Cond.methodLink RX0 104 yX0_mnemonicOf) ∈ TT := tin_TT11 _ (List.mem_of_getElem? (i := 7) rfl)
theorem tw272 : (Cond.static yX0_mnemonicOf) ∈ TT := tin_TT11 _ (List.mem_of_getElem? (i := 8) rfl)
theorem tw273 : (Cond.code yX0_mnemonicOf cX0_mnemonicOf 3 (some .int)) ∈ TT := tin_TT11 _ (List.mem_of_getElem? (i := 9) rfl)
theorem tw274 : (Cond.fieldLink RX0 122 "TimedThreads$Mnemonic" "key" "J") ∈ TT := tin_TT11 _ (List.mem_of_getElem? (i := 10) rfl)
theorem tw275 : (Cond.methodLink RX0 108 yX0_readInstruction) ∈ TT := tin_TT11 _ (List.mem_of_getElem? (i := 11) rfl)
theorem tw276 : (Cond.instanceMethod yX0_readInstruction) ∈ TT := tin_TT11 _ (List.mem_of_getElem? (i := 12) rfl)
theorem tw277 : (Cond.selects RX0 yX0_readInstruction yX0_readInstruction) ∈ TT := tin_TT11 _ (List.mem_of_getElem? (i := 13) rfl)
theorem tw278 : (Cond.code yX0_readInstruction cX0_readInstruction 4 none) ∈ TT := tin_TT11 _ (List.mem_of_getElem? (i := 14) rfl)
theorem tw279 : (Cond.fieldLink RX0 127 "TimedThreads$Mnemonic" "bits" "I") ∈ TT := tin_TT11 _ (List.mem_of_getElem? (i := 15) rfl)
theorem tw280 : (Cond.fieldLink RX0 130 "TimedThreads$Mnemonic" "pieces" "Ljava/lang/String;") ∈ TT := tin_TT11 _ (List.mem_of_getElem? (i := 16) rfl)
theorem tw281 : (Cond.methodLink RX0 134 yJ0_length_8abf5) ∈ TT := tin_TT11 _ (List.mem_of_getElem? (i := 17) rfl)
theorem tw282 : (Cond.instanceMethod yJ0_length_8abf5) ∈ TT := tin_TT11 _ (List.mem_of_getElem? (i := 18) rfl)
theorem tw283 : (Cond.selects RJ0 yJ0_length_8abf5 yJ0_length_8abf5) ∈ TT := tin_TT11 _ (List.mem_of_getElem? (i := 19) rfl)
theorem tw284 : (Cond.initialized RJ0) ∈ TT := tin_TT11 _ (List.mem_of_getElem? (i := 20) rfl)
theorem tw285 : (Cond.code yJ0_length_8abf5 cJ0_length_8abf5 1 (some .int)) ∈ TT := tin_TT11 _ (List.mem_of_getElem? (i := 21) rfl)
theorem tw286 : (Cond.fieldLink RJ0 9 "java/lang/String" "value" "[B") ∈ TT := tin_TT11 _ (List.mem_of_getElem? (i := 22) rfl)
theorem tw287 : (Cond.methodLink RJ0 335 yJ0_coder_7d493) ∈ TT := tin_TT11 _ (List.mem_of_getElem? (i := 23) rfl)
theorem tw288 : (Cond.instanceMethod yJ0_coder_7d493) ∈ TT := tin_TT12 _ (List.mem_of_getElem? (i := 0) rfl)
theorem tw289 : (Cond.selects RJ0 yJ0_coder_7d493 yJ0_coder_7d493) ∈ TT := tin_TT12 _ (List.mem_of_getElem? (i := 1) rfl)
theorem tw290 : (Cond.code yJ0_coder_7d493 cJ0_coder_7d493 1 (some .byte)) ∈ TT := tin_TT12 _ (List.mem_of_getElem? (i := 2) rfl)
theorem tw291 : (Cond.fieldLink RJ0 38 "java/lang/String" "COMPACT_STRINGS" "Z") ∈ TT := tin_TT12 _ (List.mem_of_getElem? (i := 3) rfl)
theorem tw292 : (Cond.fieldLink RJ0 15 "java/lang/String" "coder" "B") ∈ TT := tin_TT12 _ (List.mem_of_getElem? (i := 4) rfl)
theorem tw293 : (Cond.methodLink RX0 139 yJ0_charAt_5068e) ∈ TT := tin_TT12 _ (List.mem_of_getElem? (i := 5) rfl)
theorem tw294 : (Cond.instanceMethod yJ0_charAt_5068e) ∈ TT := tin_TT12 _ (List.mem_of_getElem? (i := 6) rfl)
theorem tw295 : (Cond.selects RJ0 yJ0_charAt_5068e yJ0_charAt_5068e) ∈ TT := tin_TT12 _ (List.mem_of_getElem? (i := 7) rfl)
theorem tw296 : (Cond.code yJ0_charAt_5068e cJ0_charAt_5068e 2 (some .char)) ∈ TT := tin_TT12 _ (List.mem_of_getElem? (i := 8) rfl)
theorem tw297 : (Cond.methodLink RJ0 492 yJ0_isLatin1_aae02) ∈ TT := tin_TT12 _ (List.mem_of_getElem? (i := 9) rfl)
theorem tw298 : (Cond.instanceMethod yJ0_isLatin1_aae02) ∈ TT := tin_TT12 _ (List.mem_of_getElem? (i := 10) rfl)
theorem tw299 : (Cond.selects RJ0 yJ0_isLatin1_aae02 yJ0_isLatin1_aae02) ∈ TT := tin_TT12 _ (List.mem_of_getElem? (i := 11) rfl)
theorem tw300 : (Cond.code yJ0_isLatin1_aae02 cJ0_isLatin1_aae02 1 (some .boolean)) ∈ TT := tin_TT12 _ (List.mem_of_getElem? (i := 12) rfl)
theorem tw301 : (Cond.methodLink RJ0 495 yJ1_charAt_3b067) ∈ TT := tin_TT12 _ (List.mem_of_getElem? (i := 13) rfl)
theorem tw302 : (Cond.static yJ1_charAt_3b067) ∈ TT := tin_TT12 _ (List.mem_of_getElem? (i := 14) rfl)
theorem tw303 : (Cond.initialized RJ1) ∈ TT := tin_TT12 _ (List.mem_of_getElem? (i := 15) rfl)
theorem tw304 : (Cond.code yJ1_charAt_3b067 cJ1_charAt_3b067 2 (some .char)) ∈ TT := tin_TT12 _ (List.mem_of_getElem? (i := 16) rfl)
theorem tw305 : (Cond.methodLink RJ1 9 yJ0_checkIndex_df160) ∈ TT := tin_TT12 _ (List.mem_of_getElem? (i := 17) rfl)
theorem tw306 : (Cond.static yJ0_checkIndex_df160) ∈ TT := tin_TT12 _ (List.mem_of_getElem? (i := 18) rfl)
theorem tw307 : (Cond.code yJ0_checkIndex_df160 cJ0_checkIndex_df160 2 none) ∈ TT := tin_TT12 _ (List.mem_of_getElem? (i := 19) rfl)
theorem tw308 : (Cond.fieldLink RJ0 1053 "jdk/internal/util/Preconditions" "SIOOBE_FORMATTER" "Ljava/util/function/BiFunction;") ∈ TT := tin_TT12 _ (List.mem_of_getElem? (i := 20) rfl)
theorem tw309 : (Cond.methodLink RJ0 1059 yJ3_checkIndex_8e157) ∈ TT := tin_TT12 _ (List.mem_of_getElem? (i := 21) rfl)
theorem tw310 : (Cond.static yJ3_checkIndex_8e157) ∈ TT := tin_TT12 _ (List.mem_of_getElem? (i := 22) rfl)
theorem tw311 : (Cond.initialized RJ3) ∈ TT := tin_TT12 _ (List.mem_of_getElem? (i := 23) rfl)
theorem tw312 : (Cond.code yJ3_checkIndex_8e157 cJ3_checkIndex_8e157 3 (some .int)) ∈ TT := tin_TT13 _ (List.mem_of_getElem? (i := 0) rfl)
theorem tw313 : (Cond.methodLink RJ0 498 yJ2_charAt_3b067) ∈ TT := tin_TT13 _ (List.mem_of_getElem? (i := 1) rfl)
theorem tw314 : (Cond.static yJ2_charAt_3b067) ∈ TT := tin_TT13 _ (List.mem_of_getElem? (i := 2) rfl)
theorem tw315 : (Cond.initialized RJ2) ∈ TT := tin_TT13 _ (List.mem_of_getElem? (i := 3) rfl)
theorem tw316 : (Cond.code yJ2_charAt_3b067 cJ2_charAt_3b067 2 (some .char)) ∈ TT := tin_TT13 _ (List.mem_of_getElem? (i := 4) rfl)
theorem tw317 : (Cond.methodLink RJ2 67 yJ2_checkIndex_2214a) ∈ TT := tin_TT13 _ (List.mem_of_getElem? (i := 5) rfl)
theorem tw318 : (Cond.static yJ2_checkIndex_2214a) ∈ TT := tin_TT13 _ (List.mem_of_getElem? (i := 6) rfl)
theorem tw319 : (Cond.code yJ2_checkIndex_2214a cJ2_checkIndex_2214a 2 none) ∈ TT := tin_TT13 _ (List.mem_of_getElem? (i := 7) rfl)
theorem tw320 : (Cond.methodLink RJ2 48 yJ2_length_9d52b) ∈ TT := tin_TT13 _ (List.mem_of_getElem? (i := 8) rfl)
theorem tw321 : (Cond.static yJ2_length_9d52b) ∈ TT := tin_TT13 _ (List.mem_of_getElem? (i := 9) rfl)
theorem tw322 : (Cond.code yJ2_length_9d52b cJ2_length_9d52b 1 (some .int)) ∈ TT := tin_TT13 _ (List.mem_of_getElem? (i := 10) rfl)
theorem tw323 : (Cond.methodLink RJ2 414 yJ0_checkIndex_df160) ∈ TT := tin_TT13 _ (List.mem_of_getElem? (i := 11) rfl)
theorem tw324 : (Cond.methodLink RJ2 71 yJ2_getChar_3b067) ∈ TT := tin_TT13 _ (List.mem_of_getElem? (i := 12) rfl)
theorem tw325 : (Cond.static yJ2_getChar_3b067) ∈ TT := tin_TT13 _ (List.mem_of_getElem? (i := 13) rfl)
theorem tw326 : (Cond.code yJ2_getChar_3b067 cJ2_getChar_3b067 2 (some .char)) ∈ TT := tin_TT13 _ (List.mem_of_getElem? (i := 14) rfl)
theorem tw327 : (Cond.fieldLink RJ2 44 "java/lang/StringUTF16" "$assertionsDisabled" "Z") ∈ TT := tin_TT13 _ (List.mem_of_getElem? (i := 15) rfl)
theorem tw328 : (Cond.fieldLink RJ2 59 "java/lang/StringUTF16" "HI_BYTE_SHIFT" "I") ∈ TT := tin_TT13 _ (List.mem_of_getElem? (i := 16) rfl)
theorem tw329 : (Cond.fieldLink RJ2 63 "java/lang/StringUTF16" "LO_BYTE_SHIFT" "I") ∈ TT := tin_TT13 _ (List.mem_of_getElem? (i := 17) rfl)
theorem tw330 : (Cond.methodLink RX0 142 yX0_readPiece) ∈ TT := tin_TT13 _ (List.mem_of_getElem? (i := 18) rfl)
theorem tw331 : (Cond.instanceMethod yX0_readPiece) ∈ TT := tin_TT13 _ (List.mem_of_getElem? (i := 19) rfl)
theorem tw332 : (Cond.selects RX0 yX0_readPiece yX0_readPiece) ∈ TT := tin_TT13 _ (List.mem_of_getElem? (i := 20) rfl)
theorem tw333 : (Cond.code yX0_readPiece cX0_readPiece 5 none) ∈ TT := tin_TT13 _ (List.mem_of_getElem? (i := 21) rfl)
theorem tw334 : (Cond.methodLink RX0 146 yX0_kindOf) ∈ TT := tin_TT13 _ (List.mem_of_getElem? (i := 22) rfl)
theorem tw335 : (Cond.static yX0_kindOf) ∈ TT := tin_TT13 _ (List.mem_of_getElem? (i := 23) rfl)
theorem tw336 : (Cond.code yX0_kindOf cX0_kindOf 1 (some .char)) ∈ TT := tin_TT14 _ (List.mem_of_getElem? (i := 0) rfl)
theorem tw337 : (Cond.methodLink RX0 150 yX0_putPiece) ∈ TT := tin_TT14 _ (List.mem_of_getElem? (i := 1) rfl)
theorem tw338 : (Cond.instanceMethod yX0_putPiece) ∈ TT := tin_TT14 _ (List.mem_of_getElem? (i := 2) rfl)
theorem tw339 : (Cond.selects RX0 yX0_putPiece yX0_putPiece) ∈ TT := tin_TT14 _ (List.mem_of_getElem? (i := 3) rfl)
theorem tw340 : (Cond.code yX0_putPiece cX0_putPiece 4 none) ∈ TT := tin_TT14 _ (List.mem_of_getElem? (i := 4) rfl)
theorem tw341 : (Cond.constantLong RX0 154 (-2048)) ∈ TT := tin_TT14 _ (List.mem_of_getElem? (i := 5) rfl)
theorem tw342 : (Cond.constantLong RX0 156 (2047)) ∈ TT := tin_TT14 _ (List.mem_of_getElem? (i := 6) rfl)
theorem tw343 : (Cond.constantLong RX0 167 (31)) ∈ TT := tin_TT14 _ (List.mem_of_getElem? (i := 7) rfl)
theorem tw344 : (Cond.constantLong RX0 169 (1048575)) ∈ TT := tin_TT14 _ (List.mem_of_getElem? (i := 8) rfl)
theorem tw345 : (Cond.constantLong RX0 171 (3)) ∈ TT := tin_TT14 _ (List.mem_of_getElem? (i := 9) rfl)
theorem tw346 : (Cond.constantLong RX0 173 (-2147483648)) ∈ TT := tin_TT14 _ (List.mem_of_getElem? (i := 10) rfl)
theorem tw347 : (Cond.constantLong RX0 175 (4294967295)) ∈ TT := tin_TT14 _ (List.mem_of_getElem? (i := 11) rfl)
theorem tw348 : (Cond.constantLong RX0 181 (-4096)) ∈ TT := tin_TT14 _ (List.mem_of_getElem? (i := 12) rfl)
theorem tw349 : (Cond.constantLong RX0 183 (4094)) ∈ TT := tin_TT14 _ (List.mem_of_getElem? (i := 13) rfl)
theorem tw350 : (Cond.constantLong RX0 188 (-1048576)) ∈ TT := tin_TT14 _ (List.mem_of_getElem? (i := 14) rfl)
theorem tw351 : (Cond.constantLong RX0 190 (1048574)) ∈ TT := tin_TT14 _ (List.mem_of_getElem? (i := 15) rfl)
theorem tw352 : (Cond.methodLink RX0 158 yX0_fitted) ∈ TT := tin_TT14 _ (List.mem_of_getElem? (i := 16) rfl)
theorem tw353 : (Cond.instanceMethod yX0_fitted) ∈ TT := tin_TT14 _ (List.mem_of_getElem? (i := 17) rfl)
theorem tw354 : (Cond.selects RX0 yX0_fitted yX0_fitted) ∈ TT := tin_TT14 _ (List.mem_of_getElem? (i := 18) rfl)
theorem tw355 : (Cond.code yX0_fitted cX0_fitted 7 (some .int)) ∈ TT := tin_TT14 _ (List.mem_of_getElem? (i := 19) rfl)
theorem tw356 : (Cond.methodLink RX0 162 yX1_bitsOfS) ∈ TT := tin_TT14 _ (List.mem_of_getElem? (i := 20) rfl)
theorem tw357 : (Cond.static yX1_bitsOfS) ∈ TT := tin_TT14 _ (List.mem_of_getElem? (i := 21) rfl)
theorem tw358 : (Cond.initialized RX1) ∈ TT := tin_TT14 _ (List.mem_of_getElem? (i := 22) rfl)
theorem tw359 : (Cond.code yX1_bitsOfS cX1_bitsOfS 1 (some .int)) ∈ TT := tin_TT14 _ (List.mem_of_getElem? (i := 23) rfl)
theorem tw360 : (Cond.methodLink RX0 177 yX0_noteOdd) ∈ TT := tin_TT15 _ (List.mem_of_getElem? (i := 0) rfl)
theorem tw361 : (Cond.instanceMethod yX0_noteOdd) ∈ TT := tin_TT15 _ (List.mem_of_getElem? (i := 1) rfl)
theorem tw362 : (Cond.selects RX0 yX0_noteOdd yX0_noteOdd) ∈ TT := tin_TT15 _ (List.mem_of_getElem? (i := 2) rfl)
theorem tw363 : (Cond.code yX0_noteOdd cX0_noteOdd 3 none) ∈ TT := tin_TT15 _ (List.mem_of_getElem? (i := 3) rfl)
theorem tw364 : (Cond.methodLink RX0 185 yX1_bitsOfB) ∈ TT := tin_TT15 _ (List.mem_of_getElem? (i := 4) rfl)
theorem tw365 : (Cond.static yX1_bitsOfB) ∈ TT := tin_TT15 _ (List.mem_of_getElem? (i := 5) rfl)
theorem tw366 : (Cond.code yX1_bitsOfB cX1_bitsOfB 1 (some .int)) ∈ TT := tin_TT15 _ (List.mem_of_getElem? (i := 6) rfl)
theorem tw367 : (Cond.methodLink RX0 192 yX1_bitsOfJ) ∈ TT := tin_TT15 _ (List.mem_of_getElem? (i := 7) rfl)
theorem tw368 : (Cond.static yX1_bitsOfJ) ∈ TT := tin_TT15 _ (List.mem_of_getElem? (i := 8) rfl)
theorem tw369 : (Cond.code yX1_bitsOfJ cX1_bitsOfJ 1 (some .int)) ∈ TT := tin_TT15 _ (List.mem_of_getElem? (i := 9) rfl)
theorem tw370 : (Cond.constant RX1 15 (1044480)) ∈ TT := tin_TT15 _ (List.mem_of_getElem? (i := 10) rfl)
theorem tw371 : (Cond.methodLink RX0 61 yX0_faultOfLine) ∈ TT := tin_TT15 _ (List.mem_of_getElem? (i := 11) rfl)
theorem tw372 : (Cond.instanceMethod yX0_faultOfLine) ∈ TT := tin_TT15 _ (List.mem_of_getElem? (i := 12) rfl)
theorem tw373 : (Cond.selects RX0 yX0_faultOfLine yX0_faultOfLine) ∈ TT := tin_TT15 _ (List.mem_of_getElem? (i := 13) rfl)
theorem tw374 : (Cond.code yX0_faultOfLine cX0_faultOfLine 2 (some .int)) ∈ TT := tin_TT15 _ (List.mem_of_getElem? (i := 14) rfl)
theorem tw375 : (Cond.methodLink RX0 111 yX3_find) ∈ TT := tin_TT15 _ (List.mem_of_getElem? (i := 15) rfl)
theorem tw376 : (Cond.instanceMethod yX3_find) ∈ TT := tin_TT15 _ (List.mem_of_getElem? (i := 16) rfl)
theorem tw377 : (Cond.selects RX3 yX3_find yX3_find) ∈ TT := tin_TT15 _ (List.mem_of_getElem? (i := 17) rfl)
theorem tw378 : (Cond.code yX3_find cX3_find 4 (some .int)) ∈ TT := tin_TT15 _ (List.mem_of_getElem? (i := 18) rfl)
theorem tw379 : (Cond.fieldLink RX3 19 "TimedThreads$Labels" "count" "I") ∈ TT := tin_TT15 _ (List.mem_of_getElem? (i := 19) rfl)
theorem tw380 : (Cond.methodLink RX0 65 yX0_setFault) ∈ TT := tin_TT15 _ (List.mem_of_getElem? (i := 20) rfl)
theorem tw381 : (Cond.instanceMethod yX0_setFault) ∈ TT := tin_TT15 _ (List.mem_of_getElem? (i := 21) rfl)
theorem tw382 : (Cond.selects RX0 yX0_setFault yX0_setFault) ∈ TT := tin_TT15 _ (List.mem_of_getElem? (i := 22) rfl)
theorem tw383 : (Cond.code yX0_setFault cX0_setFault 3 none) ∈ TT := tin_TT15 _ (List.mem_of_getElem? (i := 23) rfl)
theorem tw384 : (Cond.methodLink RX0 69 yX0_keepLine) ∈ TT := tin_TT16 _ (List.mem_of_getElem? (i := 0) rfl)
theorem tw385 : (Cond.instanceMethod yX0_keepLine) ∈ TT := tin_TT16 _ (List.mem_of_getElem? (i := 1) rfl)
theorem tw386 : (Cond.selects RX0 yX0_keepLine yX0_keepLine) ∈ TT := tin_TT16 _ (List.mem_of_getElem? (i := 2) rfl)
theorem tw387 : (Cond.code yX0_keepLine cX0_keepLine 2 none) ∈ TT := tin_TT16 _ (List.mem_of_getElem? (i := 3) rfl)
theorem tw388 : (Cond.methodLink RX0 114 yX3_add) ∈ TT := tin_TT16 _ (List.mem_of_getElem? (i := 4) rfl)
theorem tw389 : (Cond.instanceMethod yX3_add) ∈ TT := tin_TT16 _ (List.mem_of_getElem? (i := 5) rfl)
theorem tw390 : (Cond.selects RX3 yX3_add yX3_add) ∈ TT := tin_TT16 _ (List.mem_of_getElem? (i := 6) rfl)
theorem tw391 : (Cond.code yX3_add cX3_add 4 none) ∈ TT := tin_TT16 _ (List.mem_of_getElem? (i := 7) rfl)
theorem tw392 : (Cond.methodLink RX0 73 yX0_resolveTargets) ∈ TT := tin_TT16 _ (List.mem_of_getElem? (i := 8) rfl)
theorem tw393 : (Cond.instanceMethod yX0_resolveTargets) ∈ TT := tin_TT16 _ (List.mem_of_getElem? (i := 9) rfl)
theorem tw394 : (Cond.selects RX0 yX0_resolveTargets yX0_resolveTargets) ∈ TT := tin_TT16 _ (List.mem_of_getElem? (i := 10) rfl)
theorem tw395 : (Cond.code yX0_resolveTargets cX0_resolveTargets 5 none) ∈ TT := tin_TT16 _ (List.mem_of_getElem? (i := 11) rfl)
theorem tw396 : (Cond.methodLink RX0 195 yX1_op) ∈ TT := tin_TT16 _ (List.mem_of_getElem? (i := 12) rfl)
theorem tw397 : (Cond.static yX1_op) ∈ TT := tin_TT16 _ (List.mem_of_getElem? (i := 13) rfl)
theorem tw398 : (Cond.code yX1_op cX1_op 1 (some .int)) ∈ TT := tin_TT16 _ (List.mem_of_getElem? (i := 14) rfl)
theorem tw399 : (Cond.methodLink RL 52 yX11_assemble) ∈ TT := tin_TT16 _ (List.mem_of_getElem? (i := 15) rfl)
theorem tw400 : (Cond.instanceMethod yX11_assemble) ∈ TT := tin_TT16 _ (List.mem_of_getElem? (i := 16) rfl)
theorem tw401 : (Cond.selects RX11 yX11_assemble yX11_assemble) ∈ TT := tin_TT16 _ (List.mem_of_getElem? (i := 17) rfl)
theorem tw402 : (Cond.code yX11_assemble cX11_assemble 5 (some .int)) ∈ TT := tin_TT16 _ (List.mem_of_getElem? (i := 18) rfl)
theorem tw403 : (Cond.fieldLink RX11 88 "TimedThreadsModel" "at" "I") ∈ TT := tin_TT16 _ (List.mem_of_getElem? (i := 19) rfl)
theorem tw404 : (Cond.fieldLink RX11 205 "TimedThreadsModel" "line" "I") ∈ TT := tin_TT16 _ (List.mem_of_getElem? (i := 20) rfl)
theorem tw405 : (Cond.fieldLink RX11 202 "TimedThreadsModel" "words" "I") ∈ TT := tin_TT16 _ (List.mem_of_getElem? (i := 21) rfl)
theorem tw406 : (Cond.fieldLink RX11 256 "TimedThreadsModel" "labels" "I") ∈ TT := tin_TT16 _ (List.mem_of_getElem? (i := 22) rfl)
theorem tw407 : (Cond.fieldLink RX11 199 "TimedThreadsModel" "targets" "I") ∈ TT := tin_TT16 _ (List.mem_of_getElem? (i := 23) rfl)
theorem tw408 : (Cond.fieldLink RX11 273 "TimedThreadsModel" "fault" "I") ∈ TT := tin_TT17 _ (List.mem_of_getElem? (i := 0) rfl)
theorem tw409 : (Cond.fieldLink RX11 276 "TimedThreadsModel" "faultLine" "I") ∈ TT := tin_TT17 _ (List.mem_of_getElem? (i := 1) rfl)
theorem tw410 : (Cond.methodLink RX11 279 yX11_refuse) ∈ TT := tin_TT17 _ (List.mem_of_getElem? (i := 2) rfl)
theorem tw411 : (Cond.instanceMethod yX11_refuse) ∈ TT := tin_TT17 _ (List.mem_of_getElem? (i := 3) rfl)
theorem tw412 : (Cond.selects RX11 yX11_refuse yX11_refuse) ∈ TT := tin_TT17 _ (List.mem_of_getElem? (i := 4) rfl)
theorem tw413 : (Cond.code yX11_refuse cX11_refuse 2 (some .int)) ∈ TT := tin_TT17 _ (List.mem_of_getElem? (i := 5) rfl)
theorem tw414 : (Cond.methodLink RX11 282 yX11_takeLine) ∈ TT := tin_TT17 _ (List.mem_of_getElem? (i := 6) rfl)
theorem tw415 : (Cond.instanceMethod yX11_takeLine) ∈ TT := tin_TT17 _ (List.mem_of_getElem? (i := 7) rfl)
theorem tw416 : (Cond.selects RX11 yX11_takeLine yX11_takeLine) ∈ TT := tin_TT17 _ (List.mem_of_getElem? (i := 8) rfl)
theorem tw417 : (Cond.code yX11_takeLine cX11_takeLine 10 none) ∈ TT := tin_TT17 _ (List.mem_of_getElem? (i := 9) rfl)
theorem tw418 : (Cond.fieldLink RX11 102 "TimedThreadsModel" "wrong" "Z") ∈ TT := tin_TT17 _ (List.mem_of_getElem? (i := 10) rfl)
theorem tw419 : (Cond.fieldLink RX11 111 "TimedThreadsModel" "unfit" "Z") ∈ TT := tin_TT17 _ (List.mem_of_getElem? (i := 11) rfl)
theorem tw420 : (Cond.methodLink RX11 95 yX11_skip) ∈ TT := tin_TT17 _ (List.mem_of_getElem? (i := 12) rfl)
theorem tw421 : (Cond.instanceMethod yX11_skip) ∈ TT := tin_TT17 _ (List.mem_of_getElem? (i := 13) rfl)
theorem tw422 : (Cond.selects RX11 yX11_skip yX11_skip) ∈ TT := tin_TT17 _ (List.mem_of_getElem? (i := 14) rfl)
theorem tw423 : (Cond.code yX11_skip cX11_skip 1 none) ∈ TT := tin_TT17 _ (List.mem_of_getElem? (i := 15) rfl)
theorem tw424 : (Cond.methodLink RX11 91 yX11_character) ∈ TT := tin_TT17 _ (List.mem_of_getElem? (i := 16) rfl)
theorem tw425 : (Cond.instanceMethod yX11_character) ∈ TT := tin_TT17 _ (List.mem_of_getElem? (i := 17) rfl)
theorem tw426 : (Cond.selects RX11 yX11_character yX11_character) ∈ TT := tin_TT17 _ (List.mem_of_getElem? (i := 18) rfl)
theorem tw427 : (Cond.code yX11_character cX11_character 2 (some .int)) ∈ TT := tin_TT17 _ (List.mem_of_getElem? (i := 19) rfl)
theorem tw428 : (Cond.methodLink RX11 195 yX11_letters) ∈ TT := tin_TT17 _ (List.mem_of_getElem? (i := 20) rfl)
theorem tw429 : (Cond.instanceMethod yX11_letters) ∈ TT := tin_TT17 _ (List.mem_of_getElem? (i := 21) rfl)
theorem tw430 : (Cond.selects RX11 yX11_letters yX11_letters) ∈ TT := tin_TT17 _ (List.mem_of_getElem? (i := 22) rfl)
theorem tw431 : (Cond.code yX11_letters cX11_letters 4 (some .long)) ∈ TT := tin_TT17 _ (List.mem_of_getElem? (i := 23) rfl)
theorem tw432 : (Cond.methodLink RX11 98 yX11_isLetter) ∈ TT := tin_TT18 _ (List.mem_of_getElem? (i := 0) rfl)
theorem tw433 : (Cond.static yX11_isLetter) ∈ TT := tin_TT18 _ (List.mem_of_getElem? (i := 1) rfl)
theorem tw434 : (Cond.code yX11_isLetter cX11_isLetter 1 (some .boolean)) ∈ TT := tin_TT18 _ (List.mem_of_getElem? (i := 2) rfl)
theorem tw435 : (Cond.methodLink RX11 259 yX11_labelOf) ∈ TT := tin_TT18 _ (List.mem_of_getElem? (i := 3) rfl)
theorem tw436 : (Cond.instanceMethod yX11_labelOf) ∈ TT := tin_TT18 _ (List.mem_of_getElem? (i := 4) rfl)
theorem tw437 : (Cond.selects RX11 yX11_labelOf yX11_labelOf) ∈ TT := tin_TT18 _ (List.mem_of_getElem? (i := 5) rfl)
theorem tw438 : (Cond.code yX11_labelOf cX11_labelOf 5 (some .int)) ∈ TT := tin_TT18 _ (List.mem_of_getElem? (i := 6) rfl)
theorem tw439 : (Cond.methodLink RX11 263 yX11_lookup) ∈ TT := tin_TT18 _ (List.mem_of_getElem? (i := 7) rfl)
theorem tw440 : (Cond.static yX11_lookup) ∈ TT := tin_TT18 _ (List.mem_of_getElem? (i := 8) rfl)
theorem tw441 : (Cond.code yX11_lookup cX11_lookup 2 (some .int)) ∈ TT := tin_TT18 _ (List.mem_of_getElem? (i := 9) rfl)
theorem tw442 : (Cond.constantLong RX11 114 (6911340)) ∈ TT := tin_TT18 _ (List.mem_of_getElem? (i := 10) rfl)
theorem tw443 : (Cond.constantLong RX11 116 (7102826)) ∈ TT := tin_TT18 _ (List.mem_of_getElem? (i := 11) rfl)
theorem tw444 : (Cond.constantLong RX11 118 (1919705450)) ∈ TT := tin_TT18 _ (List.mem_of_getElem? (i := 12) rfl)
theorem tw445 : (Cond.constantLong RX11 120 (7431522)) ∈ TT := tin_TT18 _ (List.mem_of_getElem? (i := 13) rfl)
theorem tw446 : (Cond.constantLong RX11 122 (6647394)) ∈ TT := tin_TT18 _ (List.mem_of_getElem? (i := 14) rfl)
theorem tw447 : (Cond.constantLong RX11 124 (7629922)) ∈ TT := tin_TT18 _ (List.mem_of_getElem? (i := 15) rfl)
theorem tw448 : (Cond.constantLong RX11 126 (6645602)) ∈ TT := tin_TT18 _ (List.mem_of_getElem? (i := 16) rfl)
theorem tw449 : (Cond.constantLong RX11 128 (1970564194)) ∈ TT := tin_TT18 _ (List.mem_of_getElem? (i := 17) rfl)
theorem tw450 : (Cond.constantLong RX11 130 (1969579874)) ∈ TT := tin_TT18 _ (List.mem_of_getElem? (i := 18) rfl)
theorem tw451 : (Cond.constantLong RX11 132 (30572)) ∈ TT := tin_TT18 _ (List.mem_of_getElem? (i := 19) rfl)
theorem tw452 : (Cond.constantLong RX11 134 (25196)) ∈ TT := tin_TT18 _ (List.mem_of_getElem? (i := 20) rfl)
theorem tw453 : (Cond.constantLong RX11 136 (7692908)) ∈ TT := tin_TT18 _ (List.mem_of_getElem? (i := 21) rfl)
theorem tw454 : (Cond.constantLong RX11 138 (30579)) ∈ TT := tin_TT18 _ (List.mem_of_getElem? (i := 22) rfl)
theorem tw455 : (Cond.constantLong RX11 140 (25203)) ∈ TT := tin_TT18 _ (List.mem_of_getElem? (i := 23) rfl)
theorem tw456 : (Cond.constantLong RX11 142 (1768186977)) ∈ TT := tin_TT19 _ (List.mem_of_getElem? (i := 0) rfl)
theorem tw457 : (Cond.constantLong RX11 144 (1769237619)) ∈ TT := tin_TT19 _ (List.mem_of_getElem? (i := 1) rfl)
theorem tw458 : (Cond.constantLong RX11 146 (504280411251)) ∈ TT := tin_TT19 _ (List.mem_of_getElem? (i := 2) rfl)
theorem tw459 : (Cond.constantLong RX11 148 (1769107320)) ∈ TT := tin_TT19 _ (List.mem_of_getElem? (i := 3) rfl)
theorem tw460 : (Cond.constantLong RX11 150 (6910575)) ∈ TT := tin_TT19 _ (List.mem_of_getElem? (i := 4) rfl)
theorem tw461 : (Cond.constantLong RX11 152 (1768189537)) ∈ TT := tin_TT19 _ (List.mem_of_getElem? (i := 5) rfl)
theorem tw462 : (Cond.constantLong RX11 154 (1768713331)) ∈ TT := tin_TT19 _ (List.mem_of_getElem? (i := 6) rfl)
theorem tw463 : (Cond.constantLong RX11 156 (1768714867)) ∈ TT := tin_TT19 _ (List.mem_of_getElem? (i := 7) rfl)
theorem tw464 : (Cond.constantLong RX11 158 (1767993971)) ∈ TT := tin_TT19 _ (List.mem_of_getElem? (i := 8) rfl)
theorem tw465 : (Cond.constant RX11 160 (534840)) ∈ TT := tin_TT19 _ (List.mem_of_getElem? (i := 9) rfl)
theorem tw466 : (Cond.constantLong RX11 161 (6579297)) ∈ TT := tin_TT19 _ (List.mem_of_getElem? (i := 10) rfl)
theorem tw467 : (Cond.constantLong RX11 163 (7105651)) ∈ TT := tin_TT19 _ (List.mem_of_getElem? (i := 11) rfl)
theorem tw468 : (Cond.constantLong RX11 165 (7629939)) ∈ TT := tin_TT19 _ (List.mem_of_getElem? (i := 12) rfl)
theorem tw469 : (Cond.constantLong RX11 167 (1970564211)) ∈ TT := tin_TT19 _ (List.mem_of_getElem? (i := 13) rfl)
theorem tw470 : (Cond.constantLong RX11 169 (7499640)) ∈ TT := tin_TT19 _ (List.mem_of_getElem? (i := 14) rfl)
theorem tw471 : (Cond.constantLong RX11 171 (7107187)) ∈ TT := tin_TT19 _ (List.mem_of_getElem? (i := 15) rfl)
theorem tw472 : (Cond.constantLong RX11 173 (29295)) ∈ TT := tin_TT19 _ (List.mem_of_getElem? (i := 16) rfl)
theorem tw473 : (Cond.constantLong RX11 175 (6581857)) ∈ TT := tin_TT19 _ (List.mem_of_getElem? (i := 17) rfl)
theorem tw474 : (Cond.constantLong RX11 177 (6452595)) ∈ TT := tin_TT19 _ (List.mem_of_getElem? (i := 18) rfl)
theorem tw475 : (Cond.constant RX11 179 (525105)) ∈ TT := tin_TT19 _ (List.mem_of_getElem? (i := 19) rfl)
theorem tw476 : (Cond.constantLong RX11 180 (6386291)) ∈ TT := tin_TT19 _ (List.mem_of_getElem? (i := 20) rfl)
theorem tw477 : (Cond.constant RX11 182 (535345)) ∈ TT := tin_TT19 _ (List.mem_of_getElem? (i := 21) rfl)
theorem tw478 : (Cond.constantLong RX11 183 (1684104548)) ∈ TT := tin_TT19 _ (List.mem_of_getElem? (i := 22) rfl)
theorem tw479 : (Cond.constantLong RX11 185 (435610155363)) ∈ TT := tin_TT19 _ (List.mem_of_getElem? (i := 23) rfl)
theorem tw480 : (Cond.constantLong RX11 187 (1953259880)) ∈ TT := tin_TT20 _ (List.mem_of_getElem? (i := 0) rfl)
theorem tw481 : (Cond.constantLong RX11 189 (1685221239)) ∈ TT := tin_TT20 _ (List.mem_of_getElem? (i := 1) rfl)
theorem tw482 : (Cond.methodLink RX11 266 yX11_operands) ∈ TT := tin_TT20 _ (List.mem_of_getElem? (i := 2) rfl)
theorem tw483 : (Cond.instanceMethod yX11_operands) ∈ TT := tin_TT20 _ (List.mem_of_getElem? (i := 3) rfl)
theorem tw484 : (Cond.selects RX11 yX11_operands yX11_operands) ∈ TT := tin_TT20 _ (List.mem_of_getElem? (i := 4) rfl)
theorem tw485 : (Cond.code yX11_operands cX11_operands 6 (some .int)) ∈ TT := tin_TT20 _ (List.mem_of_getElem? (i := 5) rfl)
theorem tw486 : (Cond.constantLong RX11 232 (31)) ∈ TT := tin_TT20 _ (List.mem_of_getElem? (i := 6) rfl)
theorem tw487 : (Cond.constantLong RX11 234 (-2048)) ∈ TT := tin_TT20 _ (List.mem_of_getElem? (i := 7) rfl)
theorem tw488 : (Cond.constantLong RX11 236 (2047)) ∈ TT := tin_TT20 _ (List.mem_of_getElem? (i := 8) rfl)
theorem tw489 : (Cond.constantLong RX11 248 (1048575)) ∈ TT := tin_TT20 _ (List.mem_of_getElem? (i := 9) rfl)
theorem tw490 : (Cond.constantLong RX11 250 (3)) ∈ TT := tin_TT20 _ (List.mem_of_getElem? (i := 10) rfl)
theorem tw491 : (Cond.constantLong RX11 252 (-2147483648)) ∈ TT := tin_TT20 _ (List.mem_of_getElem? (i := 11) rfl)
theorem tw492 : (Cond.constantLong RX11 254 (4294967295)) ∈ TT := tin_TT20 _ (List.mem_of_getElem? (i := 12) rfl)
theorem tw493 : (Cond.methodLink RX11 228 yX11_pair) ∈ TT := tin_TT20 _ (List.mem_of_getElem? (i := 13) rfl)
theorem tw494 : (Cond.instanceMethod yX11_pair) ∈ TT := tin_TT20 _ (List.mem_of_getElem? (i := 14) rfl)
theorem tw495 : (Cond.selects RX11 yX11_pair yX11_pair) ∈ TT := tin_TT20 _ (List.mem_of_getElem? (i := 15) rfl)
theorem tw496 : (Cond.code yX11_pair cX11_pair 5 (some .int)) ∈ TT := tin_TT20 _ (List.mem_of_getElem? (i := 16) rfl)
theorem tw497 : (Cond.methodLink RX11 220 yX11_takeRegister) ∈ TT := tin_TT20 _ (List.mem_of_getElem? (i := 17) rfl)
theorem tw498 : (Cond.instanceMethod yX11_takeRegister) ∈ TT := tin_TT20 _ (List.mem_of_getElem? (i := 18) rfl)
theorem tw499 : (Cond.selects RX11 yX11_takeRegister yX11_takeRegister) ∈ TT := tin_TT20 _ (List.mem_of_getElem? (i := 19) rfl)
theorem tw500 : (Cond.code yX11_takeRegister cX11_takeRegister 2 (some .int)) ∈ TT := tin_TT20 _ (List.mem_of_getElem? (i := 20) rfl)
theorem tw501 : (Cond.methodLink RX11 106 yX11_isDigit) ∈ TT := tin_TT20 _ (List.mem_of_getElem? (i := 21) rfl)
theorem tw502 : (Cond.static yX11_isDigit) ∈ TT := tin_TT20 _ (List.mem_of_getElem? (i := 22) rfl)
theorem tw503 : (Cond.code yX11_isDigit cX11_isDigit 1 (some .boolean)) ∈ TT := tin_TT20 _ (List.mem_of_getElem? (i := 23) rfl)
theorem tw504 : (Cond.methodLink RX11 224 yX11_need) ∈ TT := tin_TT21 _ (List.mem_of_getElem? (i := 0) rfl)
theorem tw505 : (Cond.instanceMethod yX11_need) ∈ TT := tin_TT21 _ (List.mem_of_getElem? (i := 1) rfl)
theorem tw506 : (Cond.selects RX11 yX11_need yX11_need) ∈ TT := tin_TT21 _ (List.mem_of_getElem? (i := 2) rfl)
theorem tw507 : (Cond.code yX11_need cX11_need 2 none) ∈ TT := tin_TT21 _ (List.mem_of_getElem? (i := 3) rfl)
theorem tw508 : (Cond.methodLink RX11 210 yX11_number) ∈ TT := tin_TT21 _ (List.mem_of_getElem? (i := 4) rfl)
theorem tw509 : (Cond.instanceMethod yX11_number) ∈ TT := tin_TT21 _ (List.mem_of_getElem? (i := 5) rfl)
theorem tw510 : (Cond.selects RX11 yX11_number yX11_number) ∈ TT := tin_TT21 _ (List.mem_of_getElem? (i := 6) rfl)
theorem tw511 : (Cond.code yX11_number cX11_number 10 (some .long)) ∈ TT := tin_TT21 _ (List.mem_of_getElem? (i := 7) rfl)
theorem tw512 : (Cond.constantLong RX11 109 (48)) ∈ TT := tin_TT21 _ (List.mem_of_getElem? (i := 8) rfl)
theorem tw513 : (Cond.methodLink RX11 238 yX11_immediate) ∈ TT := tin_TT21 _ (List.mem_of_getElem? (i := 9) rfl)
theorem tw514 : (Cond.static yX11_immediate) ∈ TT := tin_TT21 _ (List.mem_of_getElem? (i := 10) rfl)
theorem tw515 : (Cond.code yX11_immediate cX11_immediate 1 (some .int)) ∈ TT := tin_TT21 _ (List.mem_of_getElem? (i := 11) rfl)
theorem tw516 : (Cond.methodLink RX11 241 yX11_storing) ∈ TT := tin_TT21 _ (List.mem_of_getElem? (i := 12) rfl)
theorem tw517 : (Cond.static yX11_storing) ∈ TT := tin_TT21 _ (List.mem_of_getElem? (i := 13) rfl)
theorem tw518 : (Cond.code yX11_storing cX11_storing 1 (some .int)) ∈ TT := tin_TT21 _ (List.mem_of_getElem? (i := 14) rfl)
theorem tw519 : (Cond.methodLink RX11 244 yX11_distance) ∈ TT := tin_TT21 _ (List.mem_of_getElem? (i := 15) rfl)
theorem tw520 : (Cond.instanceMethod yX11_distance) ∈ TT := tin_TT21 _ (List.mem_of_getElem? (i := 16) rfl)
theorem tw521 : (Cond.selects RX11 yX11_distance yX11_distance) ∈ TT := tin_TT21 _ (List.mem_of_getElem? (i := 17) rfl)
theorem tw522 : (Cond.code yX11_distance cX11_distance 6 (some .int)) ∈ TT := tin_TT21 _ (List.mem_of_getElem? (i := 18) rfl)
theorem tw523 : (Cond.constantLong RX11 191 (1048574)) ∈ TT := tin_TT21 _ (List.mem_of_getElem? (i := 19) rfl)
theorem tw524 : (Cond.constantLong RX11 193 (4094)) ∈ TT := tin_TT21 _ (List.mem_of_getElem? (i := 20) rfl)
theorem tw525 : (Cond.constantLong RX11 208 (2)) ∈ TT := tin_TT21 _ (List.mem_of_getElem? (i := 21) rfl)
theorem tw526 : (Cond.methodLink RX11 214 yX11_jumping) ∈ TT := tin_TT21 _ (List.mem_of_getElem? (i := 22) rfl)
theorem tw527 : (Cond.static yX11_jumping) ∈ TT := tin_TT21 _ (List.mem_of_getElem? (i := 23) rfl)
theorem tw528 : (Cond.code yX11_jumping cX11_jumping 1 (some .int)) ∈ TT := tin_TT22 _ (List.mem_of_getElem? (i := 0) rfl)
theorem tw529 : (Cond.methodLink RX11 217 yX11_branching) ∈ TT := tin_TT22 _ (List.mem_of_getElem? (i := 1) rfl)
theorem tw530 : (Cond.static yX11_branching) ∈ TT := tin_TT22 _ (List.mem_of_getElem? (i := 2) rfl)
theorem tw531 : (Cond.code yX11_branching cX11_branching 1 (some .int)) ∈ TT := tin_TT22 _ (List.mem_of_getElem? (i := 3) rfl)
theorem tw532 : (Cond.methodLink RX11 269 yX11_isEnd) ∈ TT := tin_TT22 _ (List.mem_of_getElem? (i := 4) rfl)
theorem tw533 : (Cond.instanceMethod yX11_isEnd) ∈ TT := tin_TT22 _ (List.mem_of_getElem? (i := 5) rfl)
theorem tw534 : (Cond.selects RX11 yX11_isEnd yX11_isEnd) ∈ TT := tin_TT22 _ (List.mem_of_getElem? (i := 6) rfl)
theorem tw535 : (Cond.code yX11_isEnd cX11_isEnd 1 (some .boolean)) ∈ TT := tin_TT22 _ (List.mem_of_getElem? (i := 7) rfl)
theorem tw536 : (Cond.methodLink RX11 285 yX11_link) ∈ TT := tin_TT22 _ (List.mem_of_getElem? (i := 8) rfl)
theorem tw537 : (Cond.instanceMethod yX11_link) ∈ TT := tin_TT22 _ (List.mem_of_getElem? (i := 9) rfl)
theorem tw538 : (Cond.selects RX11 yX11_link yX11_link) ∈ TT := tin_TT22 _ (List.mem_of_getElem? (i := 10) rfl)
theorem tw539 : (Cond.code yX11_link cX11_link 7 none) ∈ TT := tin_TT22 _ (List.mem_of_getElem? (i := 11) rfl)
theorem tw540 : (Cond.methodLink RL 53 yX10_fault) ∈ TT := tin_TT22 _ (List.mem_of_getElem? (i := 12) rfl)
theorem tw541 : (Cond.instanceMethod yX10_fault) ∈ TT := tin_TT22 _ (List.mem_of_getElem? (i := 13) rfl)
theorem tw542 : (Cond.selects RX10 yX10_fault yX10_fault) ∈ TT := tin_TT22 _ (List.mem_of_getElem? (i := 14) rfl)
theorem tw543 : (Cond.code yX10_fault cX10_fault 2 (some .int)) ∈ TT := tin_TT22 _ (List.mem_of_getElem? (i := 15) rfl)
theorem tw544 : (Cond.fieldLink RX10 96 "TimedThreads$Assembler" "faultLine" "I") ∈ TT := tin_TT22 _ (List.mem_of_getElem? (i := 16) rfl)
theorem tw545 : (Cond.methodLink RL 57 yX11_fault) ∈ TT := tin_TT22 _ (List.mem_of_getElem? (i := 17) rfl)
theorem tw546 : (Cond.instanceMethod yX11_fault) ∈ TT := tin_TT22 _ (List.mem_of_getElem? (i := 18) rfl)
theorem tw547 : (Cond.selects RX11 yX11_fault yX11_fault) ∈ TT := tin_TT22 _ (List.mem_of_getElem? (i := 19) rfl)
theorem tw548 : (Cond.code yX11_fault cX11_fault 2 (some .int)) ∈ TT := tin_TT22 _ (List.mem_of_getElem? (i := 20) rfl)
theorem tw549 : (Cond.methodLink RL 58 yX10_peek) ∈ TT := tin_TT22 _ (List.mem_of_getElem? (i := 21) rfl)
theorem tw550 : (Cond.instanceMethod yX10_peek) ∈ TT := tin_TT22 _ (List.mem_of_getElem? (i := 22) rfl)
theorem tw551 : (Cond.selects RX10 yX10_peek yX10_peek) ∈ TT := tin_TT22 _ (List.mem_of_getElem? (i := 23) rfl)
theorem tw552 : (Cond.code yX10_peek cX10_peek 3 (some .int)) ∈ TT := tin_TT23 _ (List.mem_of_getElem? (i := 0) rfl)
theorem tw553 : (Cond.methodLink RL 61 yX11_peek) ∈ TT := tin_TT23 _ (List.mem_of_getElem? (i := 1) rfl)
theorem tw554 : (Cond.instanceMethod yX11_peek) ∈ TT := tin_TT23 _ (List.mem_of_getElem? (i := 2) rfl)
theorem tw555 : (Cond.selects RX11 yX11_peek yX11_peek) ∈ TT := tin_TT23 _ (List.mem_of_getElem? (i := 3) rfl)
theorem tw556 : (Cond.code yX11_peek cX11_peek 3 (some .int)) ∈ TT := tin_TT23 _ (List.mem_of_getElem? (i := 4) rfl)
theorem tw557 : (Cond.methodLink RL 62 yX10_poke) ∈ TT := tin_TT23 _ (List.mem_of_getElem? (i := 5) rfl)
theorem tw558 : (Cond.instanceMethod yX10_poke) ∈ TT := tin_TT23 _ (List.mem_of_getElem? (i := 6) rfl)
theorem tw559 : (Cond.selects RX10 yX10_poke yX10_poke) ∈ TT := tin_TT23 _ (List.mem_of_getElem? (i := 7) rfl)
theorem tw560 : (Cond.code yX10_poke cX10_poke 4 (some .boolean)) ∈ TT := tin_TT23 _ (List.mem_of_getElem? (i := 8) rfl)
theorem tw561 : (Cond.methodLink RL 66 yX11_poke) ∈ TT := tin_TT23 _ (List.mem_of_getElem? (i := 9) rfl)
theorem tw562 : (Cond.instanceMethod yX11_poke) ∈ TT := tin_TT23 _ (List.mem_of_getElem? (i := 10) rfl)
theorem tw563 : (Cond.selects RX11 yX11_poke yX11_poke) ∈ TT := tin_TT23 _ (List.mem_of_getElem? (i := 11) rfl)
theorem tw564 : (Cond.code yX11_poke cX11_poke 4 (some .boolean)) ∈ TT := tin_TT23 _ (List.mem_of_getElem? (i := 12) rfl)
theorem tw565 : (Cond.methodLink RL 67 yX10_shared) ∈ TT := tin_TT23 _ (List.mem_of_getElem? (i := 13) rfl)
theorem tw566 : (Cond.instanceMethod yX10_shared) ∈ TT := tin_TT23 _ (List.mem_of_getElem? (i := 14) rfl)
theorem tw567 : (Cond.selects RX10 yX10_shared yX10_shared) ∈ TT := tin_TT23 _ (List.mem_of_getElem? (i := 15) rfl)
theorem tw568 : (Cond.code yX10_shared cX10_shared 2 (some .int)) ∈ TT := tin_TT23 _ (List.mem_of_getElem? (i := 16) rfl)
theorem tw569 : (Cond.fieldLink RX10 99 "TimedThreads$SharedMemory" "words" "[I") ∈ TT := tin_TT23 _ (List.mem_of_getElem? (i := 17) rfl)
theorem tw570 : (Cond.methodLink RL 70 yX11_shared) ∈ TT := tin_TT23 _ (List.mem_of_getElem? (i := 18) rfl)
theorem tw571 : (Cond.instanceMethod yX11_shared) ∈ TT := tin_TT23 _ (List.mem_of_getElem? (i := 19) rfl)
theorem tw572 : (Cond.selects RX11 yX11_shared yX11_shared) ∈ TT := tin_TT23 _ (List.mem_of_getElem? (i := 20) rfl)
theorem tw573 : (Cond.code yX11_shared cX11_shared 2 (some .int)) ∈ TT := tin_TT23 _ (List.mem_of_getElem? (i := 21) rfl)
theorem tw574 : (Cond.methodLink RL 71 yX10_part) ∈ TT := tin_TT23 _ (List.mem_of_getElem? (i := 22) rfl)
theorem tw575 : (Cond.instanceMethod yX10_part) ∈ TT := tin_TT23 _ (List.mem_of_getElem? (i := 23) rfl)
theorem tw576 : (Cond.selects RX10 yX10_part yX10_part) ∈ TT := tin_TT24 _ (List.mem_of_getElem? (i := 0) rfl)
theorem tw577 : (Cond.code yX10_part cX10_part 4 (some .boolean)) ∈ TT := tin_TT24 _ (List.mem_of_getElem? (i := 1) rfl)
theorem tw578 : (Cond.fieldLink RX10 104 "TimedThreads$TimedThread" "low" "I") ∈ TT := tin_TT24 _ (List.mem_of_getElem? (i := 2) rfl)
theorem tw579 : (Cond.fieldLink RX10 107 "TimedThreads$TimedThread" "high" "I") ∈ TT := tin_TT24 _ (List.mem_of_getElem? (i := 3) rfl)
theorem tw580 : (Cond.methodLink RL 74 yX11_part) ∈ TT := tin_TT24 _ (List.mem_of_getElem? (i := 4) rfl)
theorem tw581 : (Cond.instanceMethod yX11_part) ∈ TT := tin_TT24 _ (List.mem_of_getElem? (i := 5) rfl)
theorem tw582 : (Cond.selects RX11 yX11_part yX11_part) ∈ TT := tin_TT24 _ (List.mem_of_getElem? (i := 6) rfl)
theorem tw583 : (Cond.code yX11_part cX11_part 4 (some .boolean)) ∈ TT := tin_TT24 _ (List.mem_of_getElem? (i := 7) rfl)
theorem tw584 : (Cond.methodLink RL 75 yX10_start) ∈ TT := tin_TT24 _ (List.mem_of_getElem? (i := 8) rfl)
theorem tw585 : (Cond.instanceMethod yX10_start) ∈ TT := tin_TT24 _ (List.mem_of_getElem? (i := 9) rfl)
theorem tw586 : (Cond.selects RX10 yX10_start yX10_start) ∈ TT := tin_TT24 _ (List.mem_of_getElem? (i := 10) rfl)
theorem tw587 : (Cond.code yX10_start cX10_start 3 (some .boolean)) ∈ TT := tin_TT24 _ (List.mem_of_getElem? (i := 11) rfl)
theorem tw588 : (Cond.fieldLink RX10 110 "TimedThreads" "cycle" "I") ∈ TT := tin_TT24 _ (List.mem_of_getElem? (i := 12) rfl)
theorem tw589 : (Cond.methodLink RX10 113 yX8_begin) ∈ TT := tin_TT24 _ (List.mem_of_getElem? (i := 13) rfl)
theorem tw590 : (Cond.instanceMethod yX8_begin) ∈ TT := tin_TT24 _ (List.mem_of_getElem? (i := 14) rfl)
theorem tw591 : (Cond.selects RX8 yX8_begin yX8_begin) ∈ TT := tin_TT24 _ (List.mem_of_getElem? (i := 15) rfl)
theorem tw592 : (Cond.code yX8_begin cX8_begin 3 none) ∈ TT := tin_TT24 _ (List.mem_of_getElem? (i := 16) rfl)
theorem tw593 : (Cond.fieldLink RX8 35 "TimedThreads$TimedThread" "address" "I") ∈ TT := tin_TT24 _ (List.mem_of_getElem? (i := 17) rfl)
theorem tw594 : (Cond.fieldLink RX8 38 "TimedThreads$TimedThread" "ready" "I") ∈ TT := tin_TT24 _ (List.mem_of_getElem? (i := 18) rfl)
theorem tw595 : (Cond.methodLink RL 79 yX11_start) ∈ TT := tin_TT24 _ (List.mem_of_getElem? (i := 19) rfl)
theorem tw596 : (Cond.instanceMethod yX11_start) ∈ TT := tin_TT24 _ (List.mem_of_getElem? (i := 20) rfl)
theorem tw597 : (Cond.selects RX11 yX11_start yX11_start) ∈ TT := tin_TT24 _ (List.mem_of_getElem? (i := 21) rfl)
theorem tw598 : (Cond.code yX11_start cX11_start 3 (some .boolean)) ∈ TT := tin_TT24 _ (List.mem_of_getElem? (i := 22) rfl)
theorem tw599 : (Cond.fieldLink RX11 291 "TimedThreadsModel" "now" "I") ∈ TT := tin_TT24 _ (List.mem_of_getElem? (i := 23) rfl)
theorem tw600 : (Cond.methodLink RL 80 yX10_run) ∈ TT := tin_TT25 _ (List.mem_of_getElem? (i := 0) rfl)
theorem tw601 : (Cond.instanceMethod yX10_run) ∈ TT := tin_TT25 _ (List.mem_of_getElem? (i := 1) rfl)
theorem tw602 : (Cond.selects RX10 yX10_run yX10_run) ∈ TT := tin_TT25 _ (List.mem_of_getElem? (i := 2) rfl)
theorem tw603 : (Cond.code yX10_run cX10_run 4 (some .int)) ∈ TT := tin_TT25 _ (List.mem_of_getElem? (i := 3) rfl)
theorem tw604 : (Cond.methodLink RX10 117 yJ9_floorMod_7cf53) ∈ TT := tin_TT25 _ (List.mem_of_getElem? (i := 4) rfl)
theorem tw605 : (Cond.static yJ9_floorMod_7cf53) ∈ TT := tin_TT25 _ (List.mem_of_getElem? (i := 5) rfl)
theorem tw606 : (Cond.initialized RJ9) ∈ TT := tin_TT25 _ (List.mem_of_getElem? (i := 6) rfl)
theorem tw607 : (Cond.code yJ9_floorMod_7cf53 cJ9_floorMod_7cf53 3 (some .int)) ∈ TT := tin_TT25 _ (List.mem_of_getElem? (i := 7) rfl)
theorem tw608 : (Cond.methodLink RX10 120 yX8_takeTurn) ∈ TT := tin_TT25 _ (List.mem_of_getElem? (i := 8) rfl)
theorem tw609 : (Cond.instanceMethod yX8_takeTurn) ∈ TT := tin_TT25 _ (List.mem_of_getElem? (i := 9) rfl)
theorem tw610 : (Cond.selects RX8 yX8_takeTurn yX8_takeTurn) ∈ TT := tin_TT25 _ (List.mem_of_getElem? (i := 10) rfl)
theorem tw611 : (Cond.code yX8_takeTurn cX8_takeTurn 4 (some .boolean)) ∈ TT := tin_TT25 _ (List.mem_of_getElem? (i := 11) rfl)
theorem tw612 : (Cond.fieldLink RX8 48 "TimedThreads$Outcome" "FAULT" "LTimedThreads$Outcome;") ∈ TT := tin_TT25 _ (List.mem_of_getElem? (i := 12) rfl)
theorem tw613 : (Cond.fieldLink RX8 54 "TimedThreads$Outcome" "DONE" "LTimedThreads$Outcome;") ∈ TT := tin_TT25 _ (List.mem_of_getElem? (i := 13) rfl)
theorem tw614 : (Cond.fieldLink RX8 57 "TimedThreads$TimedThread" "retirement" "I") ∈ TT := tin_TT25 _ (List.mem_of_getElem? (i := 14) rfl)
theorem tw615 : (Cond.fieldLink RX8 64 "TimedThreads$TimedThread" "nextAddress" "I") ∈ TT := tin_TT25 _ (List.mem_of_getElem? (i := 15) rfl)
theorem tw616 : (Cond.methodLink RX8 44 yX8_attempt) ∈ TT := tin_TT25 _ (List.mem_of_getElem? (i := 16) rfl)
theorem tw617 : (Cond.instanceMethod yX8_attempt) ∈ TT := tin_TT25 _ (List.mem_of_getElem? (i := 17) rfl)
theorem tw618 : (Cond.selects RX8 yX8_attempt yX8_attempt) ∈ TT := tin_TT25 _ (List.mem_of_getElem? (i := 18) rfl)
theorem tw619 : (Cond.code yX8_attempt cX8_attempt 4 (some (.object "TimedThreads$Outcome"))) ∈ TT := tin_TT25 _ (List.mem_of_getElem? (i := 19) rfl)
theorem tw620 : (Cond.methodLink RX8 67 yX8_isInStore) ∈ TT := tin_TT25 _ (List.mem_of_getElem? (i := 20) rfl)
theorem tw621 : (Cond.static yX8_isInStore) ∈ TT := tin_TT25 _ (List.mem_of_getElem? (i := 21) rfl)
theorem tw622 : (Cond.code yX8_isInStore cX8_isInStore 1 (some .boolean)) ∈ TT := tin_TT25 _ (List.mem_of_getElem? (i := 22) rfl)
theorem tw623 : (Cond.methodLink RX8 71 yX8_isAligned) ∈ TT := tin_TT25 _ (List.mem_of_getElem? (i := 23) rfl)
theorem tw624 : (Cond.static yX8_isAligned) ∈ TT := tin_TT26 _ (List.mem_of_getElem? (i := 0) rfl)
theorem tw625 : (Cond.code yX8_isAligned cX8_isAligned 1 (some .boolean)) ∈ TT := tin_TT26 _ (List.mem_of_getElem? (i := 1) rfl)
theorem tw626 : (Cond.methodLink RX8 74 yX1_op) ∈ TT := tin_TT26 _ (List.mem_of_getElem? (i := 2) rfl)
theorem tw627 : (Cond.methodLink RX8 80 yX8_loadUpper) ∈ TT := tin_TT26 _ (List.mem_of_getElem? (i := 3) rfl)
theorem tw628 : (Cond.instanceMethod yX8_loadUpper) ∈ TT := tin_TT26 _ (List.mem_of_getElem? (i := 4) rfl)
theorem tw629 : (Cond.selects RX8 yX8_loadUpper yX8_loadUpper) ∈ TT := tin_TT26 _ (List.mem_of_getElem? (i := 5) rfl)
theorem tw630 : (Cond.code yX8_loadUpper cX8_loadUpper 3 (some (.object "TimedThreads$Outcome"))) ∈ TT := tin_TT26 _ (List.mem_of_getElem? (i := 6) rfl)
theorem tw631 : (Cond.methodLink RX8 113 yX1_rd) ∈ TT := tin_TT26 _ (List.mem_of_getElem? (i := 7) rfl)
theorem tw632 : (Cond.static yX1_rd) ∈ TT := tin_TT26 _ (List.mem_of_getElem? (i := 8) rfl)
theorem tw633 : (Cond.code yX1_rd cX1_rd 1 (some .int)) ∈ TT := tin_TT26 _ (List.mem_of_getElem? (i := 9) rfl)
theorem tw634 : (Cond.static yX10_isRegister) ∈ TT := tin_TT26 _ (List.mem_of_getElem? (i := 10) rfl)
theorem tw635 : (Cond.code yX10_isRegister cX10_isRegister 1 (some .boolean)) ∈ TT := tin_TT26 _ (List.mem_of_getElem? (i := 11) rfl)
theorem tw636 : (Cond.methodLink RX8 119 yX1_numberU) ∈ TT := tin_TT26 _ (List.mem_of_getElem? (i := 12) rfl)
theorem tw637 : (Cond.static yX1_numberU) ∈ TT := tin_TT26 _ (List.mem_of_getElem? (i := 13) rfl)
theorem tw638 : (Cond.code yX1_numberU cX1_numberU 1 (some .int)) ∈ TT := tin_TT26 _ (List.mem_of_getElem? (i := 14) rfl)
theorem tw639 : (Cond.methodLink RX8 122 yX8_setRegister) ∈ TT := tin_TT26 _ (List.mem_of_getElem? (i := 15) rfl)
theorem tw640 : (Cond.instanceMethod yX8_setRegister) ∈ TT := tin_TT26 _ (List.mem_of_getElem? (i := 16) rfl)
theorem tw641 : (Cond.selects RX8 yX8_setRegister yX8_setRegister) ∈ TT := tin_TT26 _ (List.mem_of_getElem? (i := 17) rfl)
theorem tw642 : (Cond.code yX8_setRegister cX8_setRegister 3 none) ∈ TT := tin_TT26 _ (List.mem_of_getElem? (i := 18) rfl)
theorem tw643 : (Cond.methodLink RX8 84 yX8_jump) ∈ TT := tin_TT26 _ (List.mem_of_getElem? (i := 19) rfl)
theorem tw644 : (Cond.instanceMethod yX8_jump) ∈ TT := tin_TT26 _ (List.mem_of_getElem? (i := 20) rfl)
theorem tw645 : (Cond.selects RX8 yX8_jump yX8_jump) ∈ TT := tin_TT26 _ (List.mem_of_getElem? (i := 21) rfl)
theorem tw646 : (Cond.code yX8_jump cX8_jump 3 (some (.object "TimedThreads$Outcome"))) ∈ TT := tin_TT26 _ (List.mem_of_getElem? (i := 22) rfl)
theorem tw647 : (Cond.methodLink RX8 126 yX1_numberJ) ∈ TT := tin_TT26 _ (List.mem_of_getElem? (i := 23) rfl)
theorem tw648 : (Cond.static yX1_numberJ) ∈ TT := tin_TT27 _ (List.mem_of_getElem? (i := 0) rfl)
theorem tw649 : (Cond.code yX1_numberJ cX1_numberJ 1 (some .int)) ∈ TT := tin_TT27 _ (List.mem_of_getElem? (i := 1) rfl)
theorem tw650 : (Cond.methodLink RX8 87 yX8_jumpToRegister) ∈ TT := tin_TT27 _ (List.mem_of_getElem? (i := 2) rfl)
theorem tw651 : (Cond.instanceMethod yX8_jumpToRegister) ∈ TT := tin_TT27 _ (List.mem_of_getElem? (i := 3) rfl)
theorem tw652 : (Cond.selects RX8 yX8_jumpToRegister yX8_jumpToRegister) ∈ TT := tin_TT27 _ (List.mem_of_getElem? (i := 4) rfl)
theorem tw653 : (Cond.code yX8_jumpToRegister cX8_jumpToRegister 5 (some (.object "TimedThreads$Outcome"))) ∈ TT := tin_TT27 _ (List.mem_of_getElem? (i := 5) rfl)
theorem tw654 : (Cond.methodLink RX8 129 yX1_rs) ∈ TT := tin_TT27 _ (List.mem_of_getElem? (i := 6) rfl)
theorem tw655 : (Cond.static yX1_rs) ∈ TT := tin_TT27 _ (List.mem_of_getElem? (i := 7) rfl)
theorem tw656 : (Cond.code yX1_rs cX1_rs 1 (some .int)) ∈ TT := tin_TT27 _ (List.mem_of_getElem? (i := 8) rfl)
theorem tw657 : (Cond.methodLink RX8 132 yX1_f) ∈ TT := tin_TT27 _ (List.mem_of_getElem? (i := 9) rfl)
theorem tw658 : (Cond.static yX1_f) ∈ TT := tin_TT27 _ (List.mem_of_getElem? (i := 10) rfl)
theorem tw659 : (Cond.code yX1_f cX1_f 1 (some .int)) ∈ TT := tin_TT27 _ (List.mem_of_getElem? (i := 11) rfl)
theorem tw660 : (Cond.methodLink RX8 135 yX1_numberI) ∈ TT := tin_TT27 _ (List.mem_of_getElem? (i := 12) rfl)
theorem tw661 : (Cond.static yX1_numberI) ∈ TT := tin_TT27 _ (List.mem_of_getElem? (i := 13) rfl)
theorem tw662 : (Cond.code yX1_numberI cX1_numberI 1 (some .int)) ∈ TT := tin_TT27 _ (List.mem_of_getElem? (i := 14) rfl)
theorem tw663 : (Cond.methodLink RX8 90 yX8_branch) ∈ TT := tin_TT27 _ (List.mem_of_getElem? (i := 15) rfl)
theorem tw664 : (Cond.instanceMethod yX8_branch) ∈ TT := tin_TT27 _ (List.mem_of_getElem? (i := 16) rfl)
theorem tw665 : (Cond.selects RX8 yX8_branch yX8_branch) ∈ TT := tin_TT27 _ (List.mem_of_getElem? (i := 17) rfl)
theorem tw666 : (Cond.code yX8_branch cX8_branch 5 (some (.object "TimedThreads$Outcome"))) ∈ TT := tin_TT27 _ (List.mem_of_getElem? (i := 18) rfl)
theorem tw667 : (Cond.methodLink RX8 138 yX1_rt) ∈ TT := tin_TT27 _ (List.mem_of_getElem? (i := 19) rfl)
theorem tw668 : (Cond.static yX1_rt) ∈ TT := tin_TT27 _ (List.mem_of_getElem? (i := 20) rfl)
theorem tw669 : (Cond.code yX1_rt cX1_rt 1 (some .int)) ∈ TT := tin_TT27 _ (List.mem_of_getElem? (i := 21) rfl)
theorem tw670 : (Cond.methodLink RX8 141 yX8_isSo) ∈ TT := tin_TT27 _ (List.mem_of_getElem? (i := 22) rfl)
theorem tw671 : (Cond.static yX8_isSo) ∈ TT := tin_TT27 _ (List.mem_of_getElem? (i := 23) rfl)
theorem tw672 : (Cond.code yX8_isSo cX8_isSo 3 (some .boolean)) ∈ TT := tin_TT28 _ (List.mem_of_getElem? (i := 0) rfl)
theorem tw673 : (Cond.methodLink RX8 148 yX8_isBelowUnsigned) ∈ TT := tin_TT28 _ (List.mem_of_getElem? (i := 1) rfl)
theorem tw674 : (Cond.static yX8_isBelowUnsigned) ∈ TT := tin_TT28 _ (List.mem_of_getElem? (i := 2) rfl)
theorem tw675 : (Cond.code yX8_isBelowUnsigned cX8_isBelowUnsigned 2 (some .boolean)) ∈ TT := tin_TT28 _ (List.mem_of_getElem? (i := 3) rfl)
theorem tw676 : (Cond.constantLong RX8 152 (4294967295)) ∈ TT := tin_TT28 _ (List.mem_of_getElem? (i := 4) rfl)
theorem tw677 : (Cond.methodLink RX8 145 yX1_numberB) ∈ TT := tin_TT28 _ (List.mem_of_getElem? (i := 5) rfl)
theorem tw678 : (Cond.static yX1_numberB) ∈ TT := tin_TT28 _ (List.mem_of_getElem? (i := 6) rfl)
theorem tw679 : (Cond.code yX1_numberB cX1_numberB 1 (some .int)) ∈ TT := tin_TT28 _ (List.mem_of_getElem? (i := 7) rfl)
theorem tw680 : (Cond.methodLink RX8 93 yX8_load) ∈ TT := tin_TT28 _ (List.mem_of_getElem? (i := 8) rfl)
theorem tw681 : (Cond.instanceMethod yX8_load) ∈ TT := tin_TT28 _ (List.mem_of_getElem? (i := 9) rfl)
theorem tw682 : (Cond.selects RX8 yX8_load yX8_load) ∈ TT := tin_TT28 _ (List.mem_of_getElem? (i := 10) rfl)
theorem tw683 : (Cond.code yX8_load cX8_load 11 (some (.object "TimedThreads$Outcome"))) ∈ TT := tin_TT28 _ (List.mem_of_getElem? (i := 11) rfl)
theorem tw684 : (Cond.methodLink RX8 154 yX8_canReach) ∈ TT := tin_TT28 _ (List.mem_of_getElem? (i := 12) rfl)
theorem tw685 : (Cond.instanceMethod yX8_canReach) ∈ TT := tin_TT28 _ (List.mem_of_getElem? (i := 13) rfl)
theorem tw686 : (Cond.selects RX8 yX8_canReach yX8_canReach) ∈ TT := tin_TT28 _ (List.mem_of_getElem? (i := 14) rfl)
theorem tw687 : (Cond.code yX8_canReach cX8_canReach 4 (some .boolean)) ∈ TT := tin_TT28 _ (List.mem_of_getElem? (i := 15) rfl)
theorem tw688 : (Cond.fieldLink RX8 174 "TimedThreads$TimedThread" "low" "I") ∈ TT := tin_TT28 _ (List.mem_of_getElem? (i := 16) rfl)
theorem tw689 : (Cond.fieldLink RX8 177 "TimedThreads$TimedThread" "high" "I") ∈ TT := tin_TT28 _ (List.mem_of_getElem? (i := 17) rfl)
theorem tw690 : (Cond.methodLink RX8 157 yX8_rowOf) ∈ TT := tin_TT28 _ (List.mem_of_getElem? (i := 18) rfl)
theorem tw691 : (Cond.instanceMethod yX8_rowOf) ∈ TT := tin_TT28 _ (List.mem_of_getElem? (i := 19) rfl)
theorem tw692 : (Cond.selects RX8 yX8_rowOf yX8_rowOf) ∈ TT := tin_TT28 _ (List.mem_of_getElem? (i := 20) rfl)
theorem tw693 : (Cond.code yX8_rowOf cX8_rowOf 3 (some (.array .int))) ∈ TT := tin_TT28 _ (List.mem_of_getElem? (i := 21) rfl)
theorem tw694 : (Cond.fieldLink RX8 180 "TimedThreads$SharedMemory" "words" "[I") ∈ TT := tin_TT28 _ (List.mem_of_getElem? (i := 22) rfl)
theorem tw695 : (Cond.methodLink RX8 161 yX8_placeOf) ∈ TT := tin_TT28 _ (List.mem_of_getElem? (i := 23) rfl)
theorem tw696 : (Cond.static yX8_placeOf) ∈ TT := tin_TT29 _ (List.mem_of_getElem? (i := 0) rfl)
theorem tw697 : (Cond.code yX8_placeOf cX8_placeOf 1 (some .int)) ∈ TT := tin_TT29 _ (List.mem_of_getElem? (i := 1) rfl)
theorem tw698 : (Cond.methodLink RX8 164 yX8_bitOf) ∈ TT := tin_TT29 _ (List.mem_of_getElem? (i := 2) rfl)
theorem tw699 : (Cond.static yX8_bitOf) ∈ TT := tin_TT29 _ (List.mem_of_getElem? (i := 3) rfl)
theorem tw700 : (Cond.code yX8_bitOf cX8_bitOf 1 (some .int)) ∈ TT := tin_TT29 _ (List.mem_of_getElem? (i := 4) rfl)
theorem tw701 : (Cond.methodLink RX8 167 yX8_setRetirement) ∈ TT := tin_TT29 _ (List.mem_of_getElem? (i := 5) rfl)
theorem tw702 : (Cond.instanceMethod yX8_setRetirement) ∈ TT := tin_TT29 _ (List.mem_of_getElem? (i := 6) rfl)
theorem tw703 : (Cond.selects RX8 yX8_setRetirement yX8_setRetirement) ∈ TT := tin_TT29 _ (List.mem_of_getElem? (i := 7) rfl)
theorem tw704 : (Cond.code yX8_setRetirement cX8_setRetirement 4 none) ∈ TT := tin_TT29 _ (List.mem_of_getElem? (i := 8) rfl)
theorem tw705 : (Cond.methodLink RX8 185 yX6_retirement) ∈ TT := tin_TT29 _ (List.mem_of_getElem? (i := 9) rfl)
theorem tw706 : (Cond.instanceMethod yX6_retirement) ∈ TT := tin_TT29 _ (List.mem_of_getElem? (i := 10) rfl)
theorem tw707 : (Cond.selects RX6 yX6_retirement yX6_retirement) ∈ TT := tin_TT29 _ (List.mem_of_getElem? (i := 11) rfl)
theorem tw708 : (Cond.code yX6_retirement cX6_retirement 4 (some .int)) ∈ TT := tin_TT29 _ (List.mem_of_getElem? (i := 12) rfl)
theorem tw709 : (Cond.methodLink RX6 19 yJ9_floorMod_7cf53) ∈ TT := tin_TT29 _ (List.mem_of_getElem? (i := 13) rfl)
theorem tw710 : (Cond.methodLink RX8 97 yX8_save) ∈ TT := tin_TT29 _ (List.mem_of_getElem? (i := 14) rfl)
theorem tw711 : (Cond.instanceMethod yX8_save) ∈ TT := tin_TT29 _ (List.mem_of_getElem? (i := 15) rfl)
theorem tw712 : (Cond.selects RX8 yX8_save yX8_save) ∈ TT := tin_TT29 _ (List.mem_of_getElem? (i := 16) rfl)
theorem tw713 : (Cond.code yX8_save cX8_save 13 (some (.object "TimedThreads$Outcome"))) ∈ TT := tin_TT29 _ (List.mem_of_getElem? (i := 17) rfl)
theorem tw714 : (Cond.methodLink RX8 171 yX1_numberS) ∈ TT := tin_TT29 _ (List.mem_of_getElem? (i := 18) rfl)
theorem tw715 : (Cond.static yX1_numberS) ∈ TT := tin_TT29 _ (List.mem_of_getElem? (i := 19) rfl)
theorem tw716 : (Cond.code yX1_numberS cX1_numberS 1 (some .int)) ∈ TT := tin_TT29 _ (List.mem_of_getElem? (i := 20) rfl)
theorem tw717 : (Cond.methodLink RX1 9 yX1_rd) ∈ TT := tin_TT29 _ (List.mem_of_getElem? (i := 21) rfl)
theorem tw718 : (Cond.methodLink RX8 100 yX8_computeWithNumber) ∈ TT := tin_TT29 _ (List.mem_of_getElem? (i := 22) rfl)
theorem tw719 : (Cond.instanceMethod yX8_computeWithNumber) ∈ TT := tin_TT29 _ (List.mem_of_getElem? (i := 23) rfl)
theorem tw720 : (Cond.selects RX8 yX8_computeWithNumber yX8_computeWithNumber) ∈ TT := tin_TT30 _ (List.mem_of_getElem? (i := 0) rfl)
theorem tw721 : (Cond.code yX8_computeWithNumber cX8_computeWithNumber 8 (some (.object "TimedThreads$Outcome"))) ∈ TT := tin_TT30 _ (List.mem_of_getElem? (i := 1) rfl)
theorem tw722 : (Cond.methodLink RX8 188 yX1_g) ∈ TT := tin_TT30 _ (List.mem_of_getElem? (i := 2) rfl)
theorem tw723 : (Cond.static yX1_g) ∈ TT := tin_TT30 _ (List.mem_of_getElem? (i := 3) rfl)
theorem tw724 : (Cond.code yX1_g cX1_g 1 (some .int)) ∈ TT := tin_TT30 _ (List.mem_of_getElem? (i := 4) rfl)
theorem tw725 : (Cond.methodLink RX8 191 yX8_compute) ∈ TT := tin_TT30 _ (List.mem_of_getElem? (i := 5) rfl)
theorem tw726 : (Cond.static yX8_compute) ∈ TT := tin_TT30 _ (List.mem_of_getElem? (i := 6) rfl)
theorem tw727 : (Cond.code yX8_compute cX8_compute 4 (some .int)) ∈ TT := tin_TT30 _ (List.mem_of_getElem? (i := 7) rfl)
theorem tw728 : (Cond.methodLink RX8 103 yX8_computeWithRegister) ∈ TT := tin_TT30 _ (List.mem_of_getElem? (i := 8) rfl)
theorem tw729 : (Cond.instanceMethod yX8_computeWithRegister) ∈ TT := tin_TT30 _ (List.mem_of_getElem? (i := 9) rfl)
theorem tw730 : (Cond.selects RX8 yX8_computeWithRegister yX8_computeWithRegister) ∈ TT := tin_TT30 _ (List.mem_of_getElem? (i := 10) rfl)
theorem tw731 : (Cond.code yX8_computeWithRegister cX8_computeWithRegister 8 (some (.object "TimedThreads$Outcome"))) ∈ TT := tin_TT30 _ (List.mem_of_getElem? (i := 11) rfl)
theorem tw732 : (Cond.methodLink RX8 106 yX8_timed) ∈ TT := tin_TT30 _ (List.mem_of_getElem? (i := 12) rfl)
theorem tw733 : (Cond.instanceMethod yX8_timed) ∈ TT := tin_TT30 _ (List.mem_of_getElem? (i := 13) rfl)
theorem tw734 : (Cond.selects RX8 yX8_timed yX8_timed) ∈ TT := tin_TT30 _ (List.mem_of_getElem? (i := 14) rfl)
theorem tw735 : (Cond.code yX8_timed cX8_timed 5 (some (.object "TimedThreads$Outcome"))) ∈ TT := tin_TT30 _ (List.mem_of_getElem? (i := 15) rfl)
theorem tw736 : (Cond.methodLink RX8 195 yX8_setTimer) ∈ TT := tin_TT30 _ (List.mem_of_getElem? (i := 16) rfl)
theorem tw737 : (Cond.instanceMethod yX8_setTimer) ∈ TT := tin_TT30 _ (List.mem_of_getElem? (i := 17) rfl)
theorem tw738 : (Cond.selects RX8 yX8_setTimer yX8_setTimer) ∈ TT := tin_TT30 _ (List.mem_of_getElem? (i := 18) rfl)
theorem tw739 : (Cond.code yX8_setTimer cX8_setTimer 7 (some (.object "TimedThreads$Outcome"))) ∈ TT := tin_TT30 _ (List.mem_of_getElem? (i := 19) rfl)
theorem tw740 : (Cond.fieldLink RX8 199 "TimedThreads$Outcome" "TRY_AGAIN" "LTimedThreads$Outcome;") ∈ TT := tin_TT30 _ (List.mem_of_getElem? (i := 20) rfl)
theorem tw741 : (Cond.constantLong RX8 202 (2147483647)) ∈ TT := tin_TT30 _ (List.mem_of_getElem? (i := 21) rfl)
theorem tw742 : (Cond.methodLink RX8 204 Lib.MathLoose.max_long.x) ∈ TT := tin_TT30 _ (List.mem_of_getElem? (i := 22) rfl)
theorem tw743 : (Cond.static Lib.MathLoose.max_long.x) ∈ TT := tin_TT30 _ (List.mem_of_getElem? (i := 23) rfl)
theorem tw744 : (Cond.code Lib.MathLoose.max_long.x Lib.MathLoose.max_long.code 4 (some .long)) ∈ TT := tin_TT31 _ (List.mem_of_getElem? (i := 0) rfl)
theorem tw745 : (Cond.methodLink RX8 210 Lib.MathLoose.min_long.x) ∈ TT := tin_TT31 _ (List.mem_of_getElem? (i := 1) rfl)
theorem tw746 : (Cond.static Lib.MathLoose.min_long.x) ∈ TT := tin_TT31 _ (List.mem_of_getElem? (i := 2) rfl)
theorem tw747 : (Cond.code Lib.MathLoose.min_long.x Lib.MathLoose.min_long.code 4 (some .long)) ∈ TT := tin_TT31 _ (List.mem_of_getElem? (i := 3) rfl)
theorem tw748 : (Cond.methodLink RX8 110 yX8_halt) ∈ TT := tin_TT31 _ (List.mem_of_getElem? (i := 4) rfl)
theorem tw749 : (Cond.instanceMethod yX8_halt) ∈ TT := tin_TT31 _ (List.mem_of_getElem? (i := 5) rfl)
theorem tw750 : (Cond.selects RX8 yX8_halt yX8_halt) ∈ TT := tin_TT31 _ (List.mem_of_getElem? (i := 6) rfl)
theorem tw751 : (Cond.code yX8_halt cX8_halt 2 (some (.object "TimedThreads$Outcome"))) ∈ TT := tin_TT31 _ (List.mem_of_getElem? (i := 7) rfl)
theorem tw752 : (Cond.methodLink RX8 60 yX2_add) ∈ TT := tin_TT31 _ (List.mem_of_getElem? (i := 8) rfl)
theorem tw753 : (Cond.instanceMethod yX2_add) ∈ TT := tin_TT31 _ (List.mem_of_getElem? (i := 9) rfl)
theorem tw754 : (Cond.selects RX2 yX2_add yX2_add) ∈ TT := tin_TT31 _ (List.mem_of_getElem? (i := 10) rfl)
theorem tw755 : (Cond.code yX2_add cX2_add 5 none) ∈ TT := tin_TT31 _ (List.mem_of_getElem? (i := 11) rfl)
theorem tw756 : (Cond.fieldLink RX2 21 "TimedThreads$History" "count" "I") ∈ TT := tin_TT31 _ (List.mem_of_getElem? (i := 12) rfl)
theorem tw757 : (Cond.methodLink RX2 25 yX2_placeOf) ∈ TT := tin_TT31 _ (List.mem_of_getElem? (i := 13) rfl)
theorem tw758 : (Cond.static yX2_placeOf) ∈ TT := tin_TT31 _ (List.mem_of_getElem? (i := 14) rfl)
theorem tw759 : (Cond.code yX2_placeOf cX2_placeOf 1 (some .int)) ∈ TT := tin_TT31 _ (List.mem_of_getElem? (i := 15) rfl)
theorem tw760 : (Cond.methodLink RX2 29 yJ9_floorMod_7cf53) ∈ TT := tin_TT31 _ (List.mem_of_getElem? (i := 16) rfl)
theorem tw761 : (Cond.methodLink RL 83 yX11_run) ∈ TT := tin_TT31 _ (List.mem_of_getElem? (i := 17) rfl)
theorem tw762 : (Cond.instanceMethod yX11_run) ∈ TT := tin_TT31 _ (List.mem_of_getElem? (i := 18) rfl)
theorem tw763 : (Cond.selects RX11 yX11_run yX11_run) ∈ TT := tin_TT31 _ (List.mem_of_getElem? (i := 19) rfl)
theorem tw764 : (Cond.code yX11_run cX11_run 4 (some .int)) ∈ TT := tin_TT31 _ (List.mem_of_getElem? (i := 20) rfl)
theorem tw765 : (Cond.methodLink RX11 349 yX11_turn) ∈ TT := tin_TT31 _ (List.mem_of_getElem? (i := 21) rfl)
theorem tw766 : (Cond.instanceMethod yX11_turn) ∈ TT := tin_TT31 _ (List.mem_of_getElem? (i := 22) rfl)
theorem tw767 : (Cond.selects RX11 yX11_turn yX11_turn) ∈ TT := tin_TT31 _ (List.mem_of_getElem? (i := 23) rfl)
theorem tw768 : (Cond.code yX11_turn cX11_turn 4 (some .int)) ∈ TT := tin_TT32 _ (List.mem_of_getElem? (i := 0) rfl)
theorem tw769 : (Cond.methodLink RX11 288 yX11_isOwn) ∈ TT := tin_TT32 _ (List.mem_of_getElem? (i := 1) rfl)
theorem tw770 : (Cond.static yX11_isOwn) ∈ TT := tin_TT32 _ (List.mem_of_getElem? (i := 2) rfl)
theorem tw771 : (Cond.code yX11_isOwn cX11_isOwn 1 (some .boolean)) ∈ TT := tin_TT32 _ (List.mem_of_getElem? (i := 3) rfl)
theorem tw772 : (Cond.methodLink RX11 299 yX11_stop) ∈ TT := tin_TT32 _ (List.mem_of_getElem? (i := 4) rfl)
theorem tw773 : (Cond.instanceMethod yX11_stop) ∈ TT := tin_TT32 _ (List.mem_of_getElem? (i := 5) rfl)
theorem tw774 : (Cond.selects RX11 yX11_stop yX11_stop) ∈ TT := tin_TT32 _ (List.mem_of_getElem? (i := 6) rfl)
theorem tw775 : (Cond.code yX11_stop cX11_stop 2 (some .int)) ∈ TT := tin_TT32 _ (List.mem_of_getElem? (i := 7) rfl)
theorem tw776 : (Cond.methodLink RX11 313 yX11_set) ∈ TT := tin_TT32 _ (List.mem_of_getElem? (i := 8) rfl)
theorem tw777 : (Cond.instanceMethod yX11_set) ∈ TT := tin_TT32 _ (List.mem_of_getElem? (i := 9) rfl)
theorem tw778 : (Cond.selects RX11 yX11_set yX11_set) ∈ TT := tin_TT32 _ (List.mem_of_getElem? (i := 10) rfl)
theorem tw779 : (Cond.code yX11_set cX11_set 4 none) ∈ TT := tin_TT32 _ (List.mem_of_getElem? (i := 11) rfl)
theorem tw780 : (Cond.methodLink RX11 319 yX11_done) ∈ TT := tin_TT32 _ (List.mem_of_getElem? (i := 12) rfl)
theorem tw781 : (Cond.instanceMethod yX11_done) ∈ TT := tin_TT32 _ (List.mem_of_getElem? (i := 13) rfl)
theorem tw782 : (Cond.selects RX11 yX11_done yX11_done) ∈ TT := tin_TT32 _ (List.mem_of_getElem? (i := 14) rfl)
theorem tw783 : (Cond.code yX11_done cX11_done 5 (some .int)) ∈ TT := tin_TT32 _ (List.mem_of_getElem? (i := 15) rfl)
theorem tw784 : (Cond.methodLink RX11 333 yX11_jump) ∈ TT := tin_TT32 _ (List.mem_of_getElem? (i := 16) rfl)
theorem tw785 : (Cond.instanceMethod yX11_jump) ∈ TT := tin_TT32 _ (List.mem_of_getElem? (i := 17) rfl)
theorem tw786 : (Cond.selects RX11 yX11_jump yX11_jump) ∈ TT := tin_TT32 _ (List.mem_of_getElem? (i := 18) rfl)
theorem tw787 : (Cond.code yX11_jump cX11_jump 8 (some .int)) ∈ TT := tin_TT32 _ (List.mem_of_getElem? (i := 19) rfl)
theorem tw788 : (Cond.methodLink RX11 337 yX11_branch) ∈ TT := tin_TT32 _ (List.mem_of_getElem? (i := 20) rfl)
theorem tw789 : (Cond.instanceMethod yX11_branch) ∈ TT := tin_TT32 _ (List.mem_of_getElem? (i := 21) rfl)
theorem tw790 : (Cond.selects RX11 yX11_branch yX11_branch) ∈ TT := tin_TT32 _ (List.mem_of_getElem? (i := 22) rfl)
theorem tw791 : (Cond.code yX11_branch cX11_branch 8 (some .int)) ∈ TT := tin_TT32 _ (List.mem_of_getElem? (i := 23) rfl)
theorem tw792 : (Cond.methodLink RX11 327 yX11_goes) ∈ TT := tin_TT33 _ (List.mem_of_getElem? (i := 0) rfl)
theorem tw793 : (Cond.static yX11_goes) ∈ TT := tin_TT33 _ (List.mem_of_getElem? (i := 1) rfl)
theorem tw794 : (Cond.code yX11_goes cX11_goes 4 (some .boolean)) ∈ TT := tin_TT33 _ (List.mem_of_getElem? (i := 2) rfl)
theorem tw795 : (Cond.methodLink RX11 295 yX11_isLess) ∈ TT := tin_TT33 _ (List.mem_of_getElem? (i := 3) rfl)
theorem tw796 : (Cond.static yX11_isLess) ∈ TT := tin_TT33 _ (List.mem_of_getElem? (i := 4) rfl)
theorem tw797 : (Cond.code yX11_isLess cX11_isLess 2 (some .boolean)) ∈ TT := tin_TT33 _ (List.mem_of_getElem? (i := 5) rfl)
theorem tw798 : (Cond.constant RX11 294 (-2147483648)) ∈ TT := tin_TT33 _ (List.mem_of_getElem? (i := 6) rfl)
theorem tw799 : (Cond.methodLink RX11 340 yX11_moveWord) ∈ TT := tin_TT33 _ (List.mem_of_getElem? (i := 7) rfl)
theorem tw800 : (Cond.instanceMethod yX11_moveWord) ∈ TT := tin_TT33 _ (List.mem_of_getElem? (i := 8) rfl)
theorem tw801 : (Cond.selects RX11 yX11_moveWord yX11_moveWord) ∈ TT := tin_TT33 _ (List.mem_of_getElem? (i := 9) rfl)
theorem tw802 : (Cond.code yX11_moveWord cX11_moveWord 13 (some .int)) ∈ TT := tin_TT33 _ (List.mem_of_getElem? (i := 10) rfl)
theorem tw803 : (Cond.methodLink RX11 302 yX11_isThere) ∈ TT := tin_TT33 _ (List.mem_of_getElem? (i := 11) rfl)
theorem tw804 : (Cond.instanceMethod yX11_isThere) ∈ TT := tin_TT33 _ (List.mem_of_getElem? (i := 12) rfl)
theorem tw805 : (Cond.selects RX11 yX11_isThere yX11_isThere) ∈ TT := tin_TT33 _ (List.mem_of_getElem? (i := 13) rfl)
theorem tw806 : (Cond.code yX11_isThere cX11_isThere 4 (some .boolean)) ∈ TT := tin_TT33 _ (List.mem_of_getElem? (i := 14) rfl)
theorem tw807 : (Cond.methodLink RX11 306 yX11_wordAt) ∈ TT := tin_TT33 _ (List.mem_of_getElem? (i := 15) rfl)
theorem tw808 : (Cond.instanceMethod yX11_wordAt) ∈ TT := tin_TT33 _ (List.mem_of_getElem? (i := 16) rfl)
theorem tw809 : (Cond.selects RX11 yX11_wordAt yX11_wordAt) ∈ TT := tin_TT33 _ (List.mem_of_getElem? (i := 17) rfl)
theorem tw810 : (Cond.code yX11_wordAt cX11_wordAt 3 (some .int)) ∈ TT := tin_TT33 _ (List.mem_of_getElem? (i := 18) rfl)
theorem tw811 : (Cond.methodLink RX11 309 yX11_put) ∈ TT := tin_TT33 _ (List.mem_of_getElem? (i := 19) rfl)
theorem tw812 : (Cond.instanceMethod yX11_put) ∈ TT := tin_TT33 _ (List.mem_of_getElem? (i := 20) rfl)
theorem tw813 : (Cond.selects RX11 yX11_put yX11_put) ∈ TT := tin_TT33 _ (List.mem_of_getElem? (i := 21) rfl)
theorem tw814 : (Cond.code yX11_put cX11_put 4 none) ∈ TT := tin_TT33 _ (List.mem_of_getElem? (i := 22) rfl)
theorem tw815 : (Cond.methodLink RX11 316 yX11_first) ∈ TT := tin_TT33 _ (List.mem_of_getElem? (i := 23) rfl)
theorem tw816 : (Cond.instanceMethod yX11_first) ∈ TT := tin_TT34 _ (List.mem_of_getElem? (i := 0) rfl)
theorem tw817 : (Cond.selects RX11 yX11_first yX11_first) ∈ TT := tin_TT34 _ (List.mem_of_getElem? (i := 1) rfl)
theorem tw818 : (Cond.code yX11_first cX11_first 3 (some .int)) ∈ TT := tin_TT34 _ (List.mem_of_getElem? (i := 2) rfl)
theorem tw819 : (Cond.methodLink RX11 343 yX11_calculate) ∈ TT := tin_TT34 _ (List.mem_of_getElem? (i := 3) rfl)
theorem tw820 : (Cond.instanceMethod yX11_calculate) ∈ TT := tin_TT34 _ (List.mem_of_getElem? (i := 4) rfl)
theorem tw821 : (Cond.selects RX11 yX11_calculate yX11_calculate) ∈ TT := tin_TT34 _ (List.mem_of_getElem? (i := 5) rfl)
theorem tw822 : (Cond.code yX11_calculate cX11_calculate 13 (some .int)) ∈ TT := tin_TT34 _ (List.mem_of_getElem? (i := 6) rfl)
theorem tw823 : (Cond.methodLink RX11 323 yX11_worked) ∈ TT := tin_TT34 _ (List.mem_of_getElem? (i := 7) rfl)
theorem tw824 : (Cond.static yX11_worked) ∈ TT := tin_TT34 _ (List.mem_of_getElem? (i := 8) rfl)
theorem tw825 : (Cond.code yX11_worked cX11_worked 4 (some .int)) ∈ TT := tin_TT34 _ (List.mem_of_getElem? (i := 9) rfl)
theorem tw826 : (Cond.methodLink RX11 346 yX11_clock) ∈ TT := tin_TT34 _ (List.mem_of_getElem? (i := 10) rfl)
theorem tw827 : (Cond.instanceMethod yX11_clock) ∈ TT := tin_TT34 _ (List.mem_of_getElem? (i := 11) rfl)
theorem tw828 : (Cond.selects RX11 yX11_clock yX11_clock) ∈ TT := tin_TT34 _ (List.mem_of_getElem? (i := 12) rfl)
theorem tw829 : (Cond.code yX11_clock cX11_clock 8 (some .int)) ∈ TT := tin_TT34 _ (List.mem_of_getElem? (i := 13) rfl)
theorem tw830 : (Cond.constantLong RX11 330 (2147483647)) ∈ TT := tin_TT34 _ (List.mem_of_getElem? (i := 14) rfl)
theorem tw831 : (Cond.constant RX11 332 (2147483647)) ∈ TT := tin_TT34 _ (List.mem_of_getElem? (i := 15) rfl)
theorem tw832 : (Cond.methodLink RL 84 yX10_now) ∈ TT := tin_TT34 _ (List.mem_of_getElem? (i := 16) rfl)
theorem tw833 : (Cond.instanceMethod yX10_now) ∈ TT := tin_TT34 _ (List.mem_of_getElem? (i := 17) rfl)
theorem tw834 : (Cond.selects RX10 yX10_now yX10_now) ∈ TT := tin_TT34 _ (List.mem_of_getElem? (i := 18) rfl)
theorem tw835 : (Cond.code yX10_now cX10_now 1 (some .int)) ∈ TT := tin_TT34 _ (List.mem_of_getElem? (i := 19) rfl)
theorem tw836 : (Cond.methodLink RL 87 yX11_now) ∈ TT := tin_TT34 _ (List.mem_of_getElem? (i := 20) rfl)
theorem tw837 : (Cond.instanceMethod yX11_now) ∈ TT := tin_TT34 _ (List.mem_of_getElem? (i := 21) rfl)
theorem tw838 : (Cond.selects RX11 yX11_now yX11_now) ∈ TT := tin_TT34 _ (List.mem_of_getElem? (i := 22) rfl)
theorem tw839 : (Cond.code yX11_now cX11_now 1 (some .int)) ∈ TT := tin_TT34 _ (List.mem_of_getElem? (i := 23) rfl)
theorem tw840 : (Cond.methodLink RL 88 yX10_register) ∈ TT := tin_TT35 _ (List.mem_of_getElem? (i := 0) rfl)
theorem tw841 : (Cond.instanceMethod yX10_register) ∈ TT := tin_TT35 _ (List.mem_of_getElem? (i := 1) rfl)
theorem tw842 : (Cond.selects RX10 yX10_register yX10_register) ∈ TT := tin_TT35 _ (List.mem_of_getElem? (i := 2) rfl)
theorem tw843 : (Cond.code yX10_register cX10_register 3 (some .int)) ∈ TT := tin_TT35 _ (List.mem_of_getElem? (i := 3) rfl)
theorem tw844 : (Cond.fieldLink RX10 127 "TimedThreads$TimedThread" "registers" "[I") ∈ TT := tin_TT35 _ (List.mem_of_getElem? (i := 4) rfl)
theorem tw845 : (Cond.methodLink RX10 124 yX10_isRegister) ∈ TT := tin_TT35 _ (List.mem_of_getElem? (i := 5) rfl)
theorem tw846 : (Cond.methodLink RL 91 yX11_register) ∈ TT := tin_TT35 _ (List.mem_of_getElem? (i := 6) rfl)
theorem tw847 : (Cond.instanceMethod yX11_register) ∈ TT := tin_TT35 _ (List.mem_of_getElem? (i := 7) rfl)
theorem tw848 : (Cond.selects RX11 yX11_register yX11_register) ∈ TT := tin_TT35 _ (List.mem_of_getElem? (i := 8) rfl)
theorem tw849 : (Cond.code yX11_register cX11_register 3 (some .int)) ∈ TT := tin_TT35 _ (List.mem_of_getElem? (i := 9) rfl)
theorem tw850 : (Cond.methodLink RL 92 yX10_state) ∈ TT := tin_TT35 _ (List.mem_of_getElem? (i := 10) rfl)
theorem tw851 : (Cond.instanceMethod yX10_state) ∈ TT := tin_TT35 _ (List.mem_of_getElem? (i := 11) rfl)
theorem tw852 : (Cond.selects RX10 yX10_state yX10_state) ∈ TT := tin_TT35 _ (List.mem_of_getElem? (i := 12) rfl)
theorem tw853 : (Cond.code yX10_state cX10_state 3 (some .int)) ∈ TT := tin_TT35 _ (List.mem_of_getElem? (i := 13) rfl)
theorem tw854 : (Cond.methodLink RX10 130 yX8_condition) ∈ TT := tin_TT35 _ (List.mem_of_getElem? (i := 14) rfl)
theorem tw855 : (Cond.instanceMethod yX8_condition) ∈ TT := tin_TT35 _ (List.mem_of_getElem? (i := 15) rfl)
theorem tw856 : (Cond.selects RX8 yX8_condition yX8_condition) ∈ TT := tin_TT35 _ (List.mem_of_getElem? (i := 16) rfl)
theorem tw857 : (Cond.code yX8_condition cX8_condition 2 (some .int)) ∈ TT := tin_TT35 _ (List.mem_of_getElem? (i := 17) rfl)
theorem tw858 : (Cond.fieldLink RX8 41 "TimedThreads$History" "count" "I") ∈ TT := tin_TT35 _ (List.mem_of_getElem? (i := 18) rfl)
theorem tw859 : (Cond.methodLink RL 95 yX11_state) ∈ TT := tin_TT35 _ (List.mem_of_getElem? (i := 19) rfl)
theorem tw860 : (Cond.instanceMethod yX11_state) ∈ TT := tin_TT35 _ (List.mem_of_getElem? (i := 20) rfl)
theorem tw861 : (Cond.selects RX11 yX11_state yX11_state) ∈ TT := tin_TT35 _ (List.mem_of_getElem? (i := 21) rfl)
theorem tw862 : (Cond.code yX11_state cX11_state 3 (some .int)) ∈ TT := tin_TT35 _ (List.mem_of_getElem? (i := 22) rfl)
theorem tw863 : (Cond.methodLink RL 96 yX10_trace) ∈ TT := tin_TT35 _ (List.mem_of_getElem? (i := 23) rfl)
theorem tw864 : (Cond.instanceMethod yX10_trace) ∈ TT := tin_TT36 _ (List.mem_of_getElem? (i := 0) rfl)
theorem tw865 : (Cond.selects RX10 yX10_trace yX10_trace) ∈ TT := tin_TT36 _ (List.mem_of_getElem? (i := 1) rfl)
theorem tw866 : (Cond.code yX10_trace cX10_trace 4 (some .int)) ∈ TT := tin_TT36 _ (List.mem_of_getElem? (i := 2) rfl)
theorem tw867 : (Cond.fieldLink RX10 134 "TimedThreads$TimedThread" "history" "LTimedThreads$History;") ∈ TT := tin_TT36 _ (List.mem_of_getElem? (i := 3) rfl)
theorem tw868 : (Cond.methodLink RX10 138 yX2_entry) ∈ TT := tin_TT36 _ (List.mem_of_getElem? (i := 4) rfl)
theorem tw869 : (Cond.instanceMethod yX2_entry) ∈ TT := tin_TT36 _ (List.mem_of_getElem? (i := 5) rfl)
theorem tw870 : (Cond.selects RX2 yX2_entry yX2_entry) ∈ TT := tin_TT36 _ (List.mem_of_getElem? (i := 6) rfl)
theorem tw871 : (Cond.code yX2_entry cX2_entry 4 (some .int)) ∈ TT := tin_TT36 _ (List.mem_of_getElem? (i := 7) rfl)
theorem tw872 : (Cond.methodLink RL 100 yX11_trace) ∈ TT := tin_TT36 _ (List.mem_of_getElem? (i := 8) rfl)
theorem tw873 : (Cond.instanceMethod yX11_trace) ∈ TT := tin_TT36 _ (List.mem_of_getElem? (i := 9) rfl)
theorem tw874 : (Cond.selects RX11 yX11_trace yX11_trace) ∈ TT := tin_TT36 _ (List.mem_of_getElem? (i := 10) rfl)
theorem tw875 : (Cond.code yX11_trace cX11_trace 4 (some .int)) ∈ TT := tin_TT36 _ (List.mem_of_getElem? (i := 11) rfl)
end
section
/-! A judgement over worlds whose references are places: no address, no heap, no context is seen in it.
A value or a cell is written with places (0, 1, ..) of the world's list; places from 1000 on are the constants of the program:
1000 + i the outcomes, 1003 the array of the names of instructions, 1100 + i these names, 1200 + i their texts, 1300 + i the texts' bytes. -/
def g_tv (ad : Nat → Nat) (v : Value) : Value := match v with
  | .ref i => .ref (ad i)
  | x => x
def g_ta (ad : Nat → Nat) (x : vp_A) : vp_A := (x.1, match x.2 with
  | .inr (.inr (.inr (.inr f))) => .inr (.inr (.inr (.inr (fun j => (f j).map ad))))
  | y => y)
def g_te (ad : Nat → Nat) (cid : Nat → ClassId) (e : va_E) : va_E := match e with
  | .inl q => .inl (cid q.1, g_ta ad q.2)
  | .inr o => .inr (o.1, o.2.map (g_tv ad))
def g_mk (ad : Nat → Nat) (cid : Nat → ClassId) (ws : List va_E) : va_W := ws.mapIdx (fun i e => (ad i, g_te ad cid e))
def g_tl (ad : Nat → Nat) (q : Nat × Value) : Nat × Value := (q.1, g_tv ad q.2)
def g_tys (cid : Nat → ClassId) : List (ClassId × FieldType) := [(cid 0, .char), (cid 1, .int), (cid 2, .long), (cid 3, .object "TimedThreads$TimedThread")]
def g_eq (n0 : Nat) (ad ad0 : Nat → Nat) : Prop := ∀ i, i < n0 ∨ 1000 ≤ i → ad i = ad0 i
theorem g_eq_all {ad ad0 : Nat → Nat} (h : g_eq 1000 ad ad0) : ad = ad0 := funext fun i => h i (by omega)
theorem g_get (ad : Nat → Nat) (cid : Nat → ClassId) {ws : List va_E} {i : Nat} {e : va_E} (h : ws[i]? = some e) : (g_mk ad cid ws)[i]? = some (ad i, g_te ad cid e) := by
  simp [g_mk, h]
theorem g_get' (ad : Nat → Nat) (cid : Nat → ClassId) {ws : List va_E} {i : Nat} {q : Nat × va_E} (h : (g_mk ad cid ws)[i]? = some q) : ∃ e, ws[i]? = some e ∧ q = (ad i, g_te ad cid e) := by
  simp only [g_mk, List.getElem?_mapIdx, Option.map_eq_some_iff] at h
  obtain ⟨e, h1, h2⟩ := h
  exact ⟨e, h1, h2.symm⟩
theorem g_set (ad : Nat → Nat) (cid : Nat → ClassId) (ws : List va_E) (i : Nat) (e : va_E) : (g_mk ad cid ws).set i (ad i, g_te ad cid e) = g_mk ad cid (ws.set i e) := by
  apply List.ext_getElem?
  intro j
  simp only [g_mk, List.getElem?_set, List.getElem?_mapIdx, List.length_mapIdx]
  by_cases h : i = j
  · subst h
    by_cases h2 : i < ws.length <;> simp [h2]
  · simp [h]
theorem g_len (ad : Nat → Nat) (cid : Nat → ClassId) (ws : List va_E) : (g_mk ad cid ws).length = ws.length := by simp [g_mk]
theorem g_catv (ad : Nat → Nat) (v : Value) : (g_tv ad v).category = v.category := by cases v <;> rfl
theorem g_args (ad : Nat → Nat) : ∀ (as : List Value) (i : Nat), lv_args i (as.map (g_tv ad)) = (lv_args i as).map (g_tl ad)
  | [], _ => rfl
  | v :: vs, i => by
    simp only [List.map_cons, lv_args, g_catv, g_args ad vs]
    rfl
theorem g_sl (ad : Nat → Nat) : ∀ vs : List Value, (lg_sl (vs.map (g_tv ad))).length = (lg_sl vs).length
  | [] => rfl
  | v :: vs => by
    have ih := g_sl ad vs
    cases v <;> simp_all [lg_sl, g_tv, Value.category]
/-- the constants -/
def m_key : List Int64 := [12969, 10284, 329106, 2225, 2501, 2452, 2277, 78485, 72885, 407, 386, 12373, 631, 610, 37001, 635529, 20336949, 802377, 15945, 47241, 635273, 641417, 641065, 1156, 19852, 19860, 635541, 25074, 20044, 498, 1476, 20130, 20033, 136228, 3968389, 263572, 769604]
def m_bits : List Int32 := [55, 111, 103, 99, 4195, 16483, 20579, 24675, 28771, 8195, 3, 16387, 8227, 35, 19, 8211, 12307, 16403, 24595, 28691, 4115, 20499, 1073762323, 51, 4147, 8243, 12339, 16435, 20531, 24627, 28723, 1073741875, 1073762355, 11, 4107, 115, 0]
def m_str : List Nat := [0, 1, 2, 3, 3, 3, 3, 3, 3, 2, 2, 2, 4, 4, 5, 5, 5, 5, 5, 5, 6, 6, 6, 7, 7, 7, 7, 7, 7, 7, 7, 7, 7, 8, 9, 10, 11]
def m_len : List Nat := [3, 3, 6, 5, 6, 5, 5, 5, 5, 1, 0, 1]
def m_byt : List (List Int32) := [[100, 44, 117], [100, 44, 106], [100, 44, 105, 40, 115, 41], [115, 44, 116, 44, 98], [116, 44, 109, 40, 115, 41], [100, 44, 115, 44, 105], [100, 44, 115, 44, 104], [100, 44, 115, 44, 116], [107, 44, 115, 44, 105], [100], [], [119]]
def g_Z (q : String × String × String × Value) : Prop :=
  (∃ i, i < 3 ∧ q = ("TimedThreads$Outcome", ["DONE", "TRY_AGAIN", "FAULT"].getD i "", "LTimedThreads$Outcome;", .ref (1000 + i))) ∨ q = ("TimedThreads", "MNEMONICS", "[LTimedThreads$Mnemonic;", .ref 1003) ∨ q = ("java/lang/String", "COMPACT_STRINGS", "Z", .int 1)
def g_O (q : String × Nat) : Prop := ∃ i, i < 12 ∧ q = ("java/lang/String", 1200 + i)
def g_OF (q : String × String × String × Value × Nat) : Prop :=
  (∃ i, i < 37 ∧ (q = ("TimedThreads$Mnemonic", "key", "J", .long (m_key.getD i 0), 1100 + i) ∨ q = ("TimedThreads$Mnemonic", "bits", "I", .int (m_bits.getD i 0), 1100 + i) ∨ q = ("TimedThreads$Mnemonic", "pieces", "Ljava/lang/String;", .ref (1200 + m_str.getD i 0), 1100 + i))) ∨
  (∃ i, i < 12 ∧ (q = ("java/lang/String", "coder", "B", .int 0, 1200 + i) ∨ q = ("java/lang/String", "value", "[B", .ref (1300 + i), 1200 + i)))
def g_T (q : FieldType × Nat × Nat × (Nat → Value)) : Prop :=
  q = (.object "TimedThreads$Mnemonic", 1003, 37, fun j => .ref (1100 + j)) ∨ ∃ i, i < 12 ∧ q = (.byte, 1300 + i, m_len.getD i 0, fun j => .int ((m_byt.getD i []).getD j 0))
def g_B (ad : Nat → Nat) (A : Nat → Prop) (U : State) (H : Heap) : Prop :=
  (∀ q, g_Z q → va_Z q.1 q.2.1 q.2.2.1 (g_tv ad q.2.2.2) A U H) ∧ (∀ q, g_O q → va_O q.1 (ad q.2) A U H) ∧ (∀ q, g_OF q → va_OF q.1 q.2.1 q.2.2.1 (g_tv ad q.2.2.2.1) (ad q.2.2.2.2) A U H) ∧ (∀ q, g_T q → va_T q.1 (ad q.2.1) q.2.2.1 (fun j => g_tv ad (q.2.2.2 j)) A U H) ∧
  (∀ i j, i < 3 → j < 3 → ad (1000 + i) = ad (1000 + j) → i = j) ∧ va_Zq "jdk/internal/util/Preconditions" "SIOOBE_FORMATTER" "Ljava/util/function/BiFunction;" A U H
theorem g_B.moved {ad : Nat → Nat} {A : Nat → Prop} {u U : State} {H : Heap} (hvm : u.vm.Alike U.vm) (h : g_B ad A u H) : g_B ad A U H :=
  ⟨fun q hq => (h.1 q hq).moved hvm, fun q hq => (h.2.1 q hq).moved hvm, fun q hq => (h.2.2.1 q hq).moved hvm, fun q hq => (h.2.2.2.1 q hq).moved hvm, h.2.2.2.2.1, h.2.2.2.2.2.moved hvm⟩
theorem g_B.kept {ad : Nat → Nat} {A : Nat → Prop} {U : State} {H H1 : Heap} (h : g_B ad A U H) (hq : ∀ a : Nat, a < H.size → ¬ A a → H1[a]? = H[a]?) : g_B ad A U H1 :=
  ⟨fun q h1 => (h.1 q h1).kept hq, fun q h1 => (h.2.1 q h1).kept hq, fun q h1 => (h.2.2.1 q h1).kept hq, fun q h1 => (h.2.2.2.1 q h1).kept hq, h.2.2.2.2.1, h.2.2.2.2.2.kept hq⟩
theorem g_B.narrow {ad : Nat → Nat} {A B : Nat → Prop} {U : State} {H : Heap} (h : g_B ad A U H) (hAB : ∀ q, B q → A q) : g_B ad B U H :=
  ⟨fun q h1 => (h.1 q h1).narrow hAB, fun q h1 => (h.2.1 q h1).narrow hAB, fun q h1 => (h.2.2.1 q h1).narrow hAB, fun q h1 => (h.2.2.2.1 q h1).narrow hAB, h.2.2.2.2.1, h.2.2.2.2.2.narrow hAB⟩
theorem g_B.at {ad ad1 : Nat → Nat} {A : Nat → Prop} {U : State} {H : Heap} (h : g_B ad A U H) (he : ∀ i, 1000 ≤ i → ad1 i = ad i) : g_B ad1 A U H := by
  obtain ⟨h1, h2, h3, h4, h5, h6⟩ := h
  refine ⟨?_, ?_, ?_, ?_, ?_, h6⟩
  · intro q hq
    have h9 := h1 q hq
    rcases hq with ⟨i, hi, rfl⟩ | rfl | rfl
    · simp only [g_tv, he (1000 + i) (by omega)]; exact h9
    · simp only [g_tv, he 1003 (by omega)]; exact h9
    · exact h9
  · intro q hq
    have h9 := h2 q hq
    obtain ⟨i, hi, rfl⟩ := hq
    rw [show ad1 (1200 + i) = ad (1200 + i) from he _ (by omega)]; exact h9
  · intro q hq
    have h9 := h3 q hq
    rcases hq with ⟨i, hi, rfl | rfl | rfl⟩ | ⟨i, hi, rfl | rfl⟩
    · simp only [g_tv, he (1100 + i) (by omega)]; exact h9
    · simp only [g_tv, he (1100 + i) (by omega)]; exact h9
    · simp only [g_tv, he (1100 + i) (by omega), he (1200 + m_str.getD i 0) (by omega)]; exact h9
    · simp only [g_tv, he (1200 + i) (by omega)]; exact h9
    · simp only [g_tv, he (1200 + i) (by omega), he (1300 + i) (by omega)]; exact h9
  · intro q hq
    have h9 := h4 q hq
    rcases hq with rfl | ⟨i, hi, rfl⟩
    · have e1 : (fun j => g_tv ad1 (Value.ref (1100 + j))) = fun j => g_tv ad (Value.ref (1100 + j)) := funext fun j => by simp only [g_tv, he (1100 + j) (by omega)]
      show va_T _ (ad1 1003) _ (fun j => g_tv ad1 (Value.ref (1100 + j))) _ _ _
      rw [e1, he 1003 (by omega)]; exact h9
    · show va_T _ (ad1 (1300 + i)) _ _ _ _ _
      rw [he (1300 + i) (by omega)]; exact h9
  · intro i j hi hj
    rw [he (1000 + i) (by omega), he (1000 + j) (by omega)]
    exact h5 i j hi hj
/-- the links to private members of the nest -/
def g_nn : List Cond := [.methodLinkNest RX8 20 yX2_init "TimedThreads", .methodLinkNest RX10 36 yX7_init "TimedThreads", .methodLinkNest RX10 43 yX0_init "TimedThreads", .methodLinkNest RX0 24 yX3_init "TimedThreads", .methodLinkNest RX0 31 yX9_init "TimedThreads", .methodLinkNest RX8 116 yX10_isRegister "TimedThreads"]
def g_N (U : State) : Prop := ∀ w ∈ g_nn, va_Nw w U
theorem g_N.warm {s U : State} (hW : s.WarmedH U.vm) (h : g_N s) : g_N U := by
  intro w hw
  have h9 := h w hw
  simp only [g_nn, List.mem_cons, List.not_mem_nil, or_false] at hw
  rcases hw with rfl | rfl | rfl | rfl | rfl | rfl <;> exact va_Nw.warmM hW h9
theorem g_N.same {u U : State} (hv : u.vm = U.vm) (h : g_N u) : g_N U := by
  intro w hw
  have h9 := h w hw
  simp only [g_nn, List.mem_cons, List.not_mem_nil, or_false] at hw
  rcases hw with rfl | rfl | rfl | rfl | rfl | rfl <;> exact va_Nw.same rfl hv h9
/-- a method: its bytes, its locals, its class, what it returns, its room, the cells and slots that it makes -/
abbrev g_M : Type := ByteArray × Nat × String × Option FieldType × Room × Nat × Nat
def g_Cx (M : g_M) (p : Program) (s : State) (m : MethodId) (args : Array Value) (meth : Method) (c : Code) (D : va_G) (cid : Nat → ClassId) (A : Nat → Prop) (ad0 : Nat → Nat) : Prop :=
  p.tables.exec = Jvm.exec ∧ c.code = M.1 ∧ meth.sig.returnType = M.2.2.2.1 ∧ c.maxLocals = M.2.1 ∧ s.vm.findClass M.2.2.1 = some m.cls ∧ (∀ w ∈ TT, w.before args s = true) ∧ meth.locks = false ∧ va_K D vwCl (g_tys cid) s ∧ (∀ q, s.heap.size ≤ q → A q) ∧ g_B ad0 A s s.heap ∧ g_N s
def g_Q (D : va_G) (cid : Nat → ClassId) (A : Nat → Prop) (n0 : Nat) (ad0 : Nat → Nat) (r : Option Value) (ws' : List va_E) : Array Value → State → Outcome → State → Prop := fun _ st oc t =>
  (∃ ad : Nat → Nat, g_eq n0 ad ad0 ∧ oc = .returned (r.map (g_tv ad)) ∧ va_P D vwCl (g_mk ad cid ws') t.heap ∧ va_K D vwCl (g_tys cid) t ∧ va_D A (g_mk ad cid ws')) ∧ va_F A st t
/-- from this place of the method, with these locals, this stack, this world, it comes to its end: the answer r, the world ws' -/
def G (M : g_M) (k n pc : Nat) (lv : List (Nat × Value)) (st : List Value) (ws : List va_E) (r : Option Value) (ws' : List va_E) : Prop :=
  ∀ (p : Program) (l : Launch) (e : Env) (s : State) (m : MethodId) (args : Array Value) (below : List Frame) (meth : Method) (c : Code) (D : va_G) (cid : Nat → ClassId) (A : Nat → Prop) (n0 : Nat) (ad0 : Nat → Nat), g_Cx M p s m args meth c D cid A ad0 →
  ∀ (ad : Nat → Nat) (ls : Array Slot) (H : Heap) (locs : List Loc), g_eq n0 ad ad0 → lv_has ls M.2.1 (lv.map (g_tl ad)) → va_P D vwCl (g_mk ad cid ws) H → va_D A (g_mk ad cid ws) → va_S A s.heap H locs →
  W p l e M.2.2.2.2.1 s m args below meth c H locs k n (MQ below (g_Q D cid A n0 ad0 r ws') args s M.2.2.2.2.2.1 M.2.2.2.2.2.2 A) (F0 m pc ls (st.map (g_tv ad)))
def g_n0 (M : g_M) (ws : List va_E) : Nat := if M.2.2.2.2.2.1 = 0 then 1000 else ws.length
def g_Pc (D : va_G) (cid : Nat → ClassId) (ad : Nat → Nat) (sz : Nat) (as : List Value) (ws : List va_E) : Array Value → State → Prop :=
  va_Pc (as.map (g_tv ad)) (fun U => U.heap.size = sz ∧ va_P D vwCl (g_mk ad cid ws) U.heap ∧ va_K D vwCl (g_tys cid) U ∧ va_D (fun _ => True) (g_mk ad cid ws) ∧ g_B ad (va_A (g_mk ad cid ws) sz) U U.heap ∧ g_N U)
/-- the method y, called with these values in this world: the answer r, the world ws' -/
def K (M : g_M) (y : MethodName) (as : List Value) (ws : List va_E) (r : Option Value) (ws' : List va_E) : Prop :=
  ∀ (l : Launch) (D : va_G) (cid : Nat → ClassId) (ad : Nat → Nat) (sz : Nat), Met l y (Cond.code y M.1 M.2.1 M.2.2.2.1 :: TT) M.2.2.2.2.1
    (g_Pc D cid ad sz as ws) (g_Q D cid (va_A (g_mk ad cid ws) sz) (g_n0 M ws) ad r ws') M.2.2.2.2.2.1 M.2.2.2.2.2.2 (va_A (g_mk ad cid ws) sz)
theorem K.of {M : g_M} {y : MethodName} {as : List Value} {lv : List (Nat × Value)} {ws : List va_E} {r : Option Value} {ws' : List va_E} (hy : plainFor y = true) (ho : M.2.2.1 = y.cls) (hn : Nat.ble (lg_sl as).length M.2.1 = true) (hlv : lv_args 0 as = lv) (h : G M 0 0 0 lv [] ws r ws') : K M y as ws r ws' := by
  intro l D cid ad sz
  refine va_MetF (cc := M.1) (maxL := M.2.1) (ret := M.2.2.2.1) hy rfl ?_
  intro p e s m args below meth c s₁ B hml hv
  obtain ⟨rfl, hsz, hP, hK, hD0, hB, hN⟩ := hv
  have hts := atoms_spec (ws := Cond.code y M.1 M.2.1 M.2.2.2.1 :: TT) B.pre
  have hown : s.vm.findClass y.cls = some m.cls := findClass_of_methodNamed B.named
  subst hsz
  have hD := hD0.self (sz := s.heap.size)
  have hl := lv_entry (as.map (g_tv ad)) (n := M.2.1) (by rw [g_sl]; exact Nat.le_of_ble_eq_true hn)
  rw [lg_entry_eq]
  rw [g_args, hlv] at hl
  exact h p l e s m _ below meth c D cid (va_A (g_mk ad cid ws) s.heap.size) (g_n0 M ws) ad ⟨B.exec, B.bytes, B.returns, hml, ho ▸ hown, fun w hw => hts w (List.mem_cons_of_mem _ hw), B.notSynchronized, hK, fun q hq => Or.inr hq, hB, hN⟩ ad _ s.heap [] (fun _ _ => rfl) hl hP hD va_S.rf
end
section
def g_lk : List (Nat × Value) → Nat → Option Value
  | [], _ => none
  | (i, v) :: l, k => match Nat.beq i k with
    | true => some v
    | false => g_lk l k
theorem g_lk_mem : ∀ {l : List (Nat × Value)} {k : Nat} {v : Value}, g_lk l k = some v → (k, v) ∈ l
  | [], _, _, h => by cases h
  | (i, w) :: l, k, v, h => by
    unfold g_lk at h
    cases hb : Nat.beq i k with
    | true =>
      rw [hb] at h
      have e := Nat.eq_of_beq_eq_true hb
      subst e
      cases h
      exact List.mem_cons_self
    | false =>
      rw [hb] at h
      exact List.mem_cons_of_mem _ (g_lk_mem h)
theorem g_at {ad : Nat → Nat} {ls : Array Slot} {nL : Nat} {lv : List (Nat × Value)} (hl : lv_has ls nL (lv.map (g_tl ad))) {i : Nat} {v : Value} (h : g_lk lv i = some v) : ls[i]? = some (.val (g_tv ad v)) :=
  hl.2.2 (i, g_tv ad v) (List.mem_map.mpr ⟨(i, v), g_lk_mem h, rfl⟩)
def g_s1 (lv : List (Nat × Value)) (i : Nat) (v : Value) : List (Nat × Value) := (i, v) :: lv.filter (fun q => !(q.1 == i) && !(q.1 + 1 == i && q.2.category == 2))
def g_s2 (lv : List (Nat × Value)) (i : Nat) (v : Value) : List (Nat × Value) := (i, v) :: lv.filter (fun q => !(q.1 == i) && (!(q.1 == i + 1) && !(q.1 + 1 == i && q.2.category == 2)))
theorem g_s1_map (ad : Nat → Nat) (lv : List (Nat × Value)) (i : Nat) (v : Value) : (i, g_tv ad v) :: (lv.map (g_tl ad)).filter (fun q => !(q.1 == i) && !(q.1 + 1 == i && q.2.category == 2)) = (g_s1 lv i v).map (g_tl ad) := by
  simp only [g_s1, List.map_cons, List.filter_map, g_tl, Function.comp_def, g_catv]
theorem g_s2_map (ad : Nat → Nat) (lv : List (Nat × Value)) (i : Nat) (v : Value) : (i, g_tv ad v) :: (lv.map (g_tl ad)).filter (fun q => !(q.1 == i) && (!(q.1 == i + 1) && !(q.1 + 1 == i && q.2.category == 2))) = (g_s2 lv i v).map (g_tl ad) := by
  simp only [g_s2, List.map_cons, List.filter_map, g_tl, Function.comp_def, g_catv]
theorem g_lt {i m : Nat} (h : Nat.ble (i + 1) m = true) : i < m := Nat.le_of_ble_eq_true h
theorem G.iload_n {M : g_M} {k n pc : Nat} {lv : List (Nat × Value)} {st : List Value} {ws : List va_E} {r : Option Value} {ws' : List va_E} {kf : Fin 4} {x : Int32} (hd : decode M.1 pc = .ok (.iload_n kf, 1)) (hx : g_lk lv kf.val = some (.int x)) (kk : G M k n (pc + 1) lv (.int x :: st) ws r ws') : G M k n pc lv st ws r ws' := by
  intro p l e s m args below meth c D cid A n0 ad0 C ad ls H locs hq hl hP hD hS
  exact lv_iload_n C.1 C.2.1 hd rfl (g_at hl hx) (kk p l e s m args below meth c D cid A n0 ad0 C ad ls H locs hq hl hP hD hS)
theorem G.lload_n {M : g_M} {k n pc : Nat} {lv : List (Nat × Value)} {st : List Value} {ws : List va_E} {r : Option Value} {ws' : List va_E} {kf : Fin 4} {x : Int64} (hd : decode M.1 pc = .ok (.lload_n kf, 1)) (hx : g_lk lv kf.val = some (.long x)) (kk : G M k n (pc + 1) lv (.long x :: st) ws r ws') : G M k n pc lv st ws r ws' := by
  intro p l e s m args below meth c D cid A n0 ad0 C ad ls H locs hq hl hP hD hS
  exact lv_lload_n C.1 C.2.1 hd rfl (g_at hl hx) (kk p l e s m args below meth c D cid A n0 ad0 C ad ls H locs hq hl hP hD hS)
theorem G.aload_n {M : g_M} {k n pc : Nat} {lv : List (Nat × Value)} {st : List Value} {ws : List va_E} {r : Option Value} {ws' : List va_E} {kf : Fin 4} {x : Nat} (hd : decode M.1 pc = .ok (.aload_n kf, 1)) (hx : g_lk lv kf.val = some (.ref x)) (kk : G M k n (pc + 1) lv (.ref x :: st) ws r ws') : G M k n pc lv st ws r ws' := by
  intro p l e s m args below meth c D cid A n0 ad0 C ad ls H locs hq hl hP hD hS
  exact lv_aload_n C.1 C.2.1 hd rfl (g_at hl hx) (kk p l e s m args below meth c D cid A n0 ad0 C ad ls H locs hq hl hP hD hS)
theorem G.iload {M : g_M} {k n pc : Nat} {lv : List (Nat × Value)} {st : List Value} {ws : List va_E} {r : Option Value} {ws' : List va_E} {i : Nat} {x : Int32} (hd : decode M.1 pc = .ok (.iload i, 2)) (hx : g_lk lv i = some (.int x)) (kk : G M k n (pc + 2) lv (.int x :: st) ws r ws') : G M k n pc lv st ws r ws' := by
  intro p l e s m args below meth c D cid A n0 ad0 C ad ls H locs hq hl hP hD hS
  exact lv_iload C.1 C.2.1 hd (g_at hl hx) (kk p l e s m args below meth c D cid A n0 ad0 C ad ls H locs hq hl hP hD hS)
theorem G.lload {M : g_M} {k n pc : Nat} {lv : List (Nat × Value)} {st : List Value} {ws : List va_E} {r : Option Value} {ws' : List va_E} {i : Nat} {x : Int64} (hd : decode M.1 pc = .ok (.lload i, 2)) (hx : g_lk lv i = some (.long x)) (kk : G M k n (pc + 2) lv (.long x :: st) ws r ws') : G M k n pc lv st ws r ws' := by
  intro p l e s m args below meth c D cid A n0 ad0 C ad ls H locs hq hl hP hD hS
  exact lv_lload C.1 C.2.1 hd (g_at hl hx) (kk p l e s m args below meth c D cid A n0 ad0 C ad ls H locs hq hl hP hD hS)
theorem G.aload {M : g_M} {k n pc : Nat} {lv : List (Nat × Value)} {st : List Value} {ws : List va_E} {r : Option Value} {ws' : List va_E} {i : Nat} {x : Nat} (hd : decode M.1 pc = .ok (.aload i, 2)) (hx : g_lk lv i = some (.ref x)) (kk : G M k n (pc + 2) lv (.ref x :: st) ws r ws') : G M k n pc lv st ws r ws' := by
  intro p l e s m args below meth c D cid A n0 ad0 C ad ls H locs hq hl hP hD hS
  exact lv_aload C.1 C.2.1 hd (g_at hl hx) (kk p l e s m args below meth c D cid A n0 ad0 C ad ls H locs hq hl hP hD hS)
theorem G.istore_n {M : g_M} {k n pc : Nat} {lv : List (Nat × Value)} {st : List Value} {ws : List va_E} {r : Option Value} {ws' : List va_E} {kf : Fin 4} {x : Int32} {lv1 : List (Nat × Value)} (hd : decode M.1 pc = .ok (.istore_n kf, 1)) (hn : Nat.ble (kf.val + 1) M.2.1 = true) (hs : g_s1 lv kf.val (.int x) = lv1) (kk : G M k n (pc + 1) lv1 st ws r ws') : G M k n pc lv (.int x :: st) ws r ws' := by
  intro p l e s m args below meth c D cid A n0 ad0 C ad ls H locs hq hl hP hD hS
  refine lv_istore_n C.1 C.2.1 hd rfl hl (g_lt hn) (g_s1_map ad lv kf.val (.int x)) (fun ls hl => ?_)
  exact (kk p l e s m args below meth c D cid A n0 ad0 C ad ls H locs hq (hs ▸ hl) hP hD hS)
theorem G.astore_n {M : g_M} {k n pc : Nat} {lv : List (Nat × Value)} {st : List Value} {ws : List va_E} {r : Option Value} {ws' : List va_E} {kf : Fin 4} {x : Nat} {lv1 : List (Nat × Value)} (hd : decode M.1 pc = .ok (.astore_n kf, 1)) (hn : Nat.ble (kf.val + 1) M.2.1 = true) (hs : g_s1 lv kf.val (.ref x) = lv1) (kk : G M k n (pc + 1) lv1 st ws r ws') : G M k n pc lv (.ref x :: st) ws r ws' := by
  intro p l e s m args below meth c D cid A n0 ad0 C ad ls H locs hq hl hP hD hS
  refine lv_astore_n C.1 C.2.1 hd rfl hl (g_lt hn) (g_s1_map ad lv kf.val (.ref x)) (fun ls hl => ?_)
  exact (kk p l e s m args below meth c D cid A n0 ad0 C ad ls H locs hq (hs ▸ hl) hP hD hS)
theorem G.lstore_n {M : g_M} {k n pc : Nat} {lv : List (Nat × Value)} {st : List Value} {ws : List va_E} {r : Option Value} {ws' : List va_E} {kf : Fin 4} {x : Int64} {lv1 : List (Nat × Value)} (hd : decode M.1 pc = .ok (.lstore_n kf, 1)) (hn : Nat.ble (kf.val + 1 + 1) M.2.1 = true) (hs : g_s2 lv kf.val (.long x) = lv1) (kk : G M k n (pc + 1) lv1 st ws r ws') : G M k n pc lv (.long x :: st) ws r ws' := by
  intro p l e s m args below meth c D cid A n0 ad0 C ad ls H locs hq hl hP hD hS
  refine lv_lstore_n C.1 C.2.1 hd rfl hl (g_lt hn) (g_s2_map ad lv kf.val (.long x)) (fun ls hl => ?_)
  exact (kk p l e s m args below meth c D cid A n0 ad0 C ad ls H locs hq (hs ▸ hl) hP hD hS)
theorem G.istore {M : g_M} {k n pc : Nat} {lv : List (Nat × Value)} {st : List Value} {ws : List va_E} {r : Option Value} {ws' : List va_E} {i : Nat} {x : Int32} {lv1 : List (Nat × Value)} (hd : decode M.1 pc = .ok (.istore i, 2)) (hn : Nat.ble (i + 1) M.2.1 = true) (hs : g_s1 lv i (.int x) = lv1) (kk : G M k n (pc + 2) lv1 st ws r ws') : G M k n pc lv (.int x :: st) ws r ws' := by
  intro p l e s m args below meth c D cid A n0 ad0 C ad ls H locs hq hl hP hD hS
  refine lv_istore C.1 C.2.1 hd hl (g_lt hn) (g_s1_map ad lv i (.int x)) (fun ls hl => ?_)
  exact (kk p l e s m args below meth c D cid A n0 ad0 C ad ls H locs hq (hs ▸ hl) hP hD hS)
theorem G.astore {M : g_M} {k n pc : Nat} {lv : List (Nat × Value)} {st : List Value} {ws : List va_E} {r : Option Value} {ws' : List va_E} {i : Nat} {x : Nat} {lv1 : List (Nat × Value)} (hd : decode M.1 pc = .ok (.astore i, 2)) (hn : Nat.ble (i + 1) M.2.1 = true) (hs : g_s1 lv i (.ref x) = lv1) (kk : G M k n (pc + 2) lv1 st ws r ws') : G M k n pc lv (.ref x :: st) ws r ws' := by
  intro p l e s m args below meth c D cid A n0 ad0 C ad ls H locs hq hl hP hD hS
  refine lv_astore C.1 C.2.1 hd hl (g_lt hn) (g_s1_map ad lv i (.ref x)) (fun ls hl => ?_)
  exact (kk p l e s m args below meth c D cid A n0 ad0 C ad ls H locs hq (hs ▸ hl) hP hD hS)
theorem G.lstore {M : g_M} {k n pc : Nat} {lv : List (Nat × Value)} {st : List Value} {ws : List va_E} {r : Option Value} {ws' : List va_E} {i : Nat} {x : Int64} {lv1 : List (Nat × Value)} (hd : decode M.1 pc = .ok (.lstore i, 2)) (hn : Nat.ble (i + 1 + 1) M.2.1 = true) (hs : g_s2 lv i (.long x) = lv1) (kk : G M k n (pc + 2) lv1 st ws r ws') : G M k n pc lv (.long x :: st) ws r ws' := by
  intro p l e s m args below meth c D cid A n0 ad0 C ad ls H locs hq hl hP hD hS
  refine lv_lstore C.1 C.2.1 hd hl (g_lt hn) (g_s2_map ad lv i (.long x)) (fun ls hl => ?_)
  exact (kk p l e s m args below meth c D cid A n0 ad0 C ad ls H locs hq (hs ▸ hl) hP hD hS)
theorem g_lk_ix : ∀ {l : List (Nat × Value)} {k : Nat} {v : Value}, g_lk l k = some v → ∃ j : Nat, l[j]? = some (k, v) := fun h => by
  obtain ⟨j, hj⟩ := List.getElem?_of_mem (g_lk_mem h)
  exact ⟨j, hj⟩
theorem G.iinc {M : g_M} {k n pc : Nat} {lv : List (Nat × Value)} {st : List Value} {ws : List va_E} {r : Option Value} {ws' : List va_E} {i : Nat} {d : Int} {x v : Int32} {lv1 : List (Nat × Value)} (hd : decode M.1 pc = .ok (.iinc i d, 3)) (hx : g_lk lv i = some (.int x)) (hv : x + Int32.ofInt d = v) (hn : Nat.ble (i + 1) M.2.1 = true) (hs : g_s1 lv i (.int v) = lv1) (kk : G M k n (pc + 3) lv1 st ws r ws') : G M k n pc lv st ws r ws' := by
  intro p l e s m args below meth c D cid A n0 ad0 C ad ls H locs hq hl hP hD hS
  obtain ⟨j, hj⟩ := g_lk_ix hx
  refine lv_iinc C.1 C.2.1 hd hl (k := j) (by rw [List.getElem?_map, hj]; rfl) hv (g_lt hn) (g_s1_map ad lv i (.int v)) (fun ls hl => ?_)
  exact (kk p l e s m args below meth c D cid A n0 ad0 C ad ls H locs hq (hs ▸ hl) hP hD hS)
theorem G.iconst {M : g_M} {k n pc : Nat} {lv : List (Nat × Value)} {st : List Value} {ws : List va_E} {r : Option Value} {ws' : List va_E} {d : Int} {v : Int32} (hd : decode M.1 pc = .ok (.iconst d, 1)) (hv : Int32.ofInt d = v) (kk : G M k n (pc + 1) lv (.int v :: st) ws r ws') : G M k n pc lv st ws r ws' := by
  intro p l e s m args below meth c D cid A n0 ad0 C ad ls H locs hq hl hP hD hS
  exact lv_iconst C.1 C.2.1 hd hv (kk p l e s m args below meth c D cid A n0 ad0 C ad ls H locs hq hl hP hD hS)
theorem G.bipush {M : g_M} {k n pc : Nat} {lv : List (Nat × Value)} {st : List Value} {ws : List va_E} {r : Option Value} {ws' : List va_E} {d : Int} {v : Int32} (hd : decode M.1 pc = .ok (.bipush d, 2)) (hv : (Int8.ofInt d).toInt32 = v) (kk : G M k n (pc + 2) lv (.int v :: st) ws r ws') : G M k n pc lv st ws r ws' := by
  intro p l e s m args below meth c D cid A n0 ad0 C ad ls H locs hq hl hP hD hS
  exact lv_bipush C.1 C.2.1 hd hv (kk p l e s m args below meth c D cid A n0 ad0 C ad ls H locs hq hl hP hD hS)
theorem G.sipush {M : g_M} {k n pc : Nat} {lv : List (Nat × Value)} {st : List Value} {ws : List va_E} {r : Option Value} {ws' : List va_E} {d : Int} {v : Int32} (hd : decode M.1 pc = .ok (.sipush d, 3)) (hv : (Int16.ofInt d).toInt32 = v) (kk : G M k n (pc + 3) lv (.int v :: st) ws r ws') : G M k n pc lv st ws r ws' := by
  intro p l e s m args below meth c D cid A n0 ad0 C ad ls H locs hq hl hP hD hS
  exact lv_sipush C.1 C.2.1 hd hv (kk p l e s m args below meth c D cid A n0 ad0 C ad ls H locs hq hl hP hD hS)
theorem G.lconst {M : g_M} {k n pc : Nat} {lv : List (Nat × Value)} {st : List Value} {ws : List va_E} {r : Option Value} {ws' : List va_E} {d : Fin 2} {v : Int64} (hd : decode M.1 pc = .ok (.lconst d, 1)) (hv : Int64.ofNat d.val = v) (kk : G M k n (pc + 1) lv (.long v :: st) ws r ws') : G M k n pc lv st ws r ws' := by
  intro p l e s m args below meth c D cid A n0 ad0 C ad ls H locs hq hl hP hD hS
  exact lv_lconst C.1 C.2.1 hd hv (kk p l e s m args below meth c D cid A n0 ad0 C ad ls H locs hq hl hP hD hS)
theorem G.ldc {M : g_M} {k n pc : Nat} {lv : List (Nat × Value)} {st : List Value} {ws : List va_E} {r : Option Value} {ws' : List va_E} {i : Nat} {v : Int32} (hd : decode M.1 pc = .ok (.ldc i, 2)) (hw : Cond.constant M.2.2.1 i v ∈ TT) (kk : G M k n (pc + 2) lv (.int v :: st) ws r ws') : G M k n pc lv st ws r ws' := by
  intro p l e s m args below meth c D cid A n0 ad0 C ad ls H locs hq hl hP hD hS
  exact lv_ldc C.1 C.2.1 C.2.2.2.2.1 (C.2.2.2.2.2.1 _ hw) hd (kk p l e s m args below meth c D cid A n0 ad0 C ad ls H locs hq hl hP hD hS)
theorem G.ldc_w {M : g_M} {k n pc : Nat} {lv : List (Nat × Value)} {st : List Value} {ws : List va_E} {r : Option Value} {ws' : List va_E} {i : Nat} {v : Int32} (hd : decode M.1 pc = .ok (.ldc_w i, 3)) (hw : Cond.constant M.2.2.1 i v ∈ TT) (kk : G M k n (pc + 3) lv (.int v :: st) ws r ws') : G M k n pc lv st ws r ws' := by
  intro p l e s m args below meth c D cid A n0 ad0 C ad ls H locs hq hl hP hD hS
  exact lv_ldcw C.1 C.2.1 C.2.2.2.2.1 (C.2.2.2.2.2.1 _ hw) hd (kk p l e s m args below meth c D cid A n0 ad0 C ad ls H locs hq hl hP hD hS)
theorem G.ldc2 {M : g_M} {k n pc : Nat} {lv : List (Nat × Value)} {st : List Value} {ws : List va_E} {r : Option Value} {ws' : List va_E} {i : Nat} {v : Int64} (hd : decode M.1 pc = .ok (.ldc2_w i, 3)) (hw : Cond.constantLong M.2.2.1 i v ∈ TT) (kk : G M k n (pc + 3) lv (.long v :: st) ws r ws') : G M k n pc lv st ws r ws' := by
  intro p l e s m args below meth c D cid A n0 ad0 C ad ls H locs hq hl hP hD hS
  exact lv_ldc2 C.1 C.2.1 C.2.2.2.2.1 (C.2.2.2.2.2.1 _ hw) hd (kk p l e s m args below meth c D cid A n0 ad0 C ad ls H locs hq hl hP hD hS)
theorem G.iadd {M : g_M} {k n pc : Nat} {lv : List (Nat × Value)} {st : List Value} {ws : List va_E} {r : Option Value} {ws' : List va_E} {x y : Int32} (hd : decode M.1 pc = .ok (.iadd, 1)) (kk : G M k n (pc + 1) lv (.int (x + y) :: st) ws r ws') : G M k n pc lv (.int y :: .int x :: st) ws r ws' := by
  intro p l e s m args below meth c D cid A n0 ad0 C ad ls H locs hq hl hP hD hS
  exact lv_iadd C.1 C.2.1 hd (kk p l e s m args below meth c D cid A n0 ad0 C ad ls H locs hq hl hP hD hS)
theorem G.isub {M : g_M} {k n pc : Nat} {lv : List (Nat × Value)} {st : List Value} {ws : List va_E} {r : Option Value} {ws' : List va_E} {x y : Int32} (hd : decode M.1 pc = .ok (.isub, 1)) (kk : G M k n (pc + 1) lv (.int (x - y) :: st) ws r ws') : G M k n pc lv (.int y :: .int x :: st) ws r ws' := by
  intro p l e s m args below meth c D cid A n0 ad0 C ad ls H locs hq hl hP hD hS
  exact lv_isub C.1 C.2.1 hd (kk p l e s m args below meth c D cid A n0 ad0 C ad ls H locs hq hl hP hD hS)
theorem G.imul {M : g_M} {k n pc : Nat} {lv : List (Nat × Value)} {st : List Value} {ws : List va_E} {r : Option Value} {ws' : List va_E} {x y : Int32} (hd : decode M.1 pc = .ok (.imul, 1)) (kk : G M k n (pc + 1) lv (.int (x * y) :: st) ws r ws') : G M k n pc lv (.int y :: .int x :: st) ws r ws' := by
  intro p l e s m args below meth c D cid A n0 ad0 C ad ls H locs hq hl hP hD hS
  exact lv_imul C.1 C.2.1 hd (kk p l e s m args below meth c D cid A n0 ad0 C ad ls H locs hq hl hP hD hS)
theorem G.iand {M : g_M} {k n pc : Nat} {lv : List (Nat × Value)} {st : List Value} {ws : List va_E} {r : Option Value} {ws' : List va_E} {x y : Int32} (hd : decode M.1 pc = .ok (.iand, 1)) (kk : G M k n (pc + 1) lv (.int (x &&& y) :: st) ws r ws') : G M k n pc lv (.int y :: .int x :: st) ws r ws' := by
  intro p l e s m args below meth c D cid A n0 ad0 C ad ls H locs hq hl hP hD hS
  exact lv_iand C.1 C.2.1 hd (kk p l e s m args below meth c D cid A n0 ad0 C ad ls H locs hq hl hP hD hS)
theorem G.ior {M : g_M} {k n pc : Nat} {lv : List (Nat × Value)} {st : List Value} {ws : List va_E} {r : Option Value} {ws' : List va_E} {x y : Int32} (hd : decode M.1 pc = .ok (.ior, 1)) (kk : G M k n (pc + 1) lv (.int (x ||| y) :: st) ws r ws') : G M k n pc lv (.int y :: .int x :: st) ws r ws' := by
  intro p l e s m args below meth c D cid A n0 ad0 C ad ls H locs hq hl hP hD hS
  exact lv_ior C.1 C.2.1 hd (kk p l e s m args below meth c D cid A n0 ad0 C ad ls H locs hq hl hP hD hS)
theorem G.ixor {M : g_M} {k n pc : Nat} {lv : List (Nat × Value)} {st : List Value} {ws : List va_E} {r : Option Value} {ws' : List va_E} {x y : Int32} (hd : decode M.1 pc = .ok (.ixor, 1)) (kk : G M k n (pc + 1) lv (.int (x ^^^ y) :: st) ws r ws') : G M k n pc lv (.int y :: .int x :: st) ws r ws' := by
  intro p l e s m args below meth c D cid A n0 ad0 C ad ls H locs hq hl hP hD hS
  exact lv_ixor C.1 C.2.1 hd (kk p l e s m args below meth c D cid A n0 ad0 C ad ls H locs hq hl hP hD hS)
theorem G.ishl {M : g_M} {k n pc : Nat} {lv : List (Nat × Value)} {st : List Value} {ws : List va_E} {r : Option Value} {ws' : List va_E} {x y : Int32} (hd : decode M.1 pc = .ok (.ishl, 1)) (kk : G M k n (pc + 1) lv (.int (x <<< (y &&& 31)) :: st) ws r ws') : G M k n pc lv (.int y :: .int x :: st) ws r ws' := by
  intro p l e s m args below meth c D cid A n0 ad0 C ad ls H locs hq hl hP hD hS
  exact lv_ishl C.1 C.2.1 hd (kk p l e s m args below meth c D cid A n0 ad0 C ad ls H locs hq hl hP hD hS)
theorem G.ishr {M : g_M} {k n pc : Nat} {lv : List (Nat × Value)} {st : List Value} {ws : List va_E} {r : Option Value} {ws' : List va_E} {x y : Int32} (hd : decode M.1 pc = .ok (.ishr, 1)) (kk : G M k n (pc + 1) lv (.int (x >>> (y &&& 31)) :: st) ws r ws') : G M k n pc lv (.int y :: .int x :: st) ws r ws' := by
  intro p l e s m args below meth c D cid A n0 ad0 C ad ls H locs hq hl hP hD hS
  exact lv_ishr C.1 C.2.1 hd (kk p l e s m args below meth c D cid A n0 ad0 C ad ls H locs hq hl hP hD hS)
theorem G.idiv {M : g_M} {k n pc : Nat} {lv : List (Nat × Value)} {st : List Value} {ws : List va_E} {r : Option Value} {ws' : List va_E} {x y : Int32} (hd : decode M.1 pc = .ok (.idiv, 1)) (hne : ¬ y = 0) (kk : G M k n (pc + 1) lv (.int (x / y) :: st) ws r ws') : G M k n pc lv (.int y :: .int x :: st) ws r ws' := by
  intro p l e s m args below meth c D cid A n0 ad0 C ad ls H locs hq hl hP hD hS
  exact lv_idiv C.1 C.2.1 hd hne (kk p l e s m args below meth c D cid A n0 ad0 C ad ls H locs hq hl hP hD hS)
theorem G.irem {M : g_M} {k n pc : Nat} {lv : List (Nat × Value)} {st : List Value} {ws : List va_E} {r : Option Value} {ws' : List va_E} {x y : Int32} (hd : decode M.1 pc = .ok (.irem, 1)) (hne : ¬ y = 0) (kk : G M k n (pc + 1) lv (.int (x - x / y * y) :: st) ws r ws') : G M k n pc lv (.int y :: .int x :: st) ws r ws' := by
  intro p l e s m args below meth c D cid A n0 ad0 C ad ls H locs hq hl hP hD hS
  exact lv_irem C.1 C.2.1 hd hne (kk p l e s m args below meth c D cid A n0 ad0 C ad ls H locs hq hl hP hD hS)
theorem G.ladd {M : g_M} {k n pc : Nat} {lv : List (Nat × Value)} {st : List Value} {ws : List va_E} {r : Option Value} {ws' : List va_E} {x y : Int64} (hd : decode M.1 pc = .ok (.ladd, 1)) (kk : G M k n (pc + 1) lv (.long (x + y) :: st) ws r ws') : G M k n pc lv (.long y :: .long x :: st) ws r ws' := by
  intro p l e s m args below meth c D cid A n0 ad0 C ad ls H locs hq hl hP hD hS
  exact lv_ladd C.1 C.2.1 hd (kk p l e s m args below meth c D cid A n0 ad0 C ad ls H locs hq hl hP hD hS)
theorem G.lsub {M : g_M} {k n pc : Nat} {lv : List (Nat × Value)} {st : List Value} {ws : List va_E} {r : Option Value} {ws' : List va_E} {x y : Int64} (hd : decode M.1 pc = .ok (.lsub, 1)) (kk : G M k n (pc + 1) lv (.long (x - y) :: st) ws r ws') : G M k n pc lv (.long y :: .long x :: st) ws r ws' := by
  intro p l e s m args below meth c D cid A n0 ad0 C ad ls H locs hq hl hP hD hS
  exact lv_lsub C.1 C.2.1 hd (kk p l e s m args below meth c D cid A n0 ad0 C ad ls H locs hq hl hP hD hS)
theorem G.lmul {M : g_M} {k n pc : Nat} {lv : List (Nat × Value)} {st : List Value} {ws : List va_E} {r : Option Value} {ws' : List va_E} {x y : Int64} (hd : decode M.1 pc = .ok (.lmul, 1)) (kk : G M k n (pc + 1) lv (.long (x * y) :: st) ws r ws') : G M k n pc lv (.long y :: .long x :: st) ws r ws' := by
  intro p l e s m args below meth c D cid A n0 ad0 C ad ls H locs hq hl hP hD hS
  exact lv_lmul C.1 C.2.1 hd (kk p l e s m args below meth c D cid A n0 ad0 C ad ls H locs hq hl hP hD hS)
theorem G.land {M : g_M} {k n pc : Nat} {lv : List (Nat × Value)} {st : List Value} {ws : List va_E} {r : Option Value} {ws' : List va_E} {x y : Int64} (hd : decode M.1 pc = .ok (.land, 1)) (kk : G M k n (pc + 1) lv (.long (x &&& y) :: st) ws r ws') : G M k n pc lv (.long y :: .long x :: st) ws r ws' := by
  intro p l e s m args below meth c D cid A n0 ad0 C ad ls H locs hq hl hP hD hS
  exact lv_land C.1 C.2.1 hd (kk p l e s m args below meth c D cid A n0 ad0 C ad ls H locs hq hl hP hD hS)
theorem G.lor {M : g_M} {k n pc : Nat} {lv : List (Nat × Value)} {st : List Value} {ws : List va_E} {r : Option Value} {ws' : List va_E} {x y : Int64} (hd : decode M.1 pc = .ok (.lor, 1)) (kk : G M k n (pc + 1) lv (.long (x ||| y) :: st) ws r ws') : G M k n pc lv (.long y :: .long x :: st) ws r ws' := by
  intro p l e s m args below meth c D cid A n0 ad0 C ad ls H locs hq hl hP hD hS
  exact lv_lor C.1 C.2.1 hd (kk p l e s m args below meth c D cid A n0 ad0 C ad ls H locs hq hl hP hD hS)
def g_ushr (x y : Int32) : Int32 := (x.toUInt32 >>> (y.toUInt32 &&& Int32.toUInt32 31)).toInt32
def g_lushr (x : Int64) (y : Int32) : Int64 := (x.toUInt64 >>> (y.toInt64.toUInt64 &&& Int64.toUInt64 63)).toInt64
def g_lshl (x : Int64) (y : Int32) : Int64 := x <<< (y.toInt64 &&& 63)
def g_lshr (x : Int64) (y : Int32) : Int64 := x >>> (y.toInt64 &&& 63)
def g_i2c (x : Int32) : Int32 := (x.toUInt32 % 65536).toInt32
def g_i2b (x : Int32) : Int32 := x.toInt8.toInt32
theorem G.iushr {M : g_M} {k n pc : Nat} {lv : List (Nat × Value)} {st : List Value} {ws : List va_E} {r : Option Value} {ws' : List va_E} {x y : Int32} (hd : decode M.1 pc = .ok (.iushr, 1)) (kk : G M k n (pc + 1) lv (.int (g_ushr x y) :: st) ws r ws') : G M k n pc lv (.int y :: .int x :: st) ws r ws' := by
  intro p l e s m args below meth c D cid A n0 ad0 C ad ls H locs hq hl hP hD hS
  exact lv_iushr C.1 C.2.1 hd rfl (kk p l e s m args below meth c D cid A n0 ad0 C ad ls H locs hq hl hP hD hS)
theorem G.lushr {M : g_M} {k n pc : Nat} {lv : List (Nat × Value)} {st : List Value} {ws : List va_E} {r : Option Value} {ws' : List va_E} {x : Int64} {y : Int32} (hd : decode M.1 pc = .ok (.lushr, 1)) (kk : G M k n (pc + 1) lv (.long (g_lushr x y) :: st) ws r ws') : G M k n pc lv (.int y :: .long x :: st) ws r ws' := by
  intro p l e s m args below meth c D cid A n0 ad0 C ad ls H locs hq hl hP hD hS
  exact lv_lushr C.1 C.2.1 hd rfl (kk p l e s m args below meth c D cid A n0 ad0 C ad ls H locs hq hl hP hD hS)
theorem G.lshl {M : g_M} {k n pc : Nat} {lv : List (Nat × Value)} {st : List Value} {ws : List va_E} {r : Option Value} {ws' : List va_E} {x : Int64} {y : Int32} (hd : decode M.1 pc = .ok (.lshl, 1)) (kk : G M k n (pc + 1) lv (.long (g_lshl x y) :: st) ws r ws') : G M k n pc lv (.int y :: .long x :: st) ws r ws' := by
  intro p l e s m args below meth c D cid A n0 ad0 C ad ls H locs hq hl hP hD hS
  exact lv_lshl C.1 C.2.1 hd rfl (kk p l e s m args below meth c D cid A n0 ad0 C ad ls H locs hq hl hP hD hS)
theorem G.lshr {M : g_M} {k n pc : Nat} {lv : List (Nat × Value)} {st : List Value} {ws : List va_E} {r : Option Value} {ws' : List va_E} {x : Int64} {y : Int32} (hd : decode M.1 pc = .ok (.lshr, 1)) (kk : G M k n (pc + 1) lv (.long (g_lshr x y) :: st) ws r ws') : G M k n pc lv (.int y :: .long x :: st) ws r ws' := by
  intro p l e s m args below meth c D cid A n0 ad0 C ad ls H locs hq hl hP hD hS
  exact lv_lshr C.1 C.2.1 hd rfl (kk p l e s m args below meth c D cid A n0 ad0 C ad ls H locs hq hl hP hD hS)
theorem G.i2l {M : g_M} {k n pc : Nat} {lv : List (Nat × Value)} {st : List Value} {ws : List va_E} {r : Option Value} {ws' : List va_E} {x : Int32} (hd : decode M.1 pc = .ok (.i2l, 1)) (kk : G M k n (pc + 1) lv (.long (x.toInt64) :: st) ws r ws') : G M k n pc lv (.int x :: st) ws r ws' := by
  intro p l e s m args below meth c D cid A n0 ad0 C ad ls H locs hq hl hP hD hS
  exact lv_i2l C.1 C.2.1 hd rfl (kk p l e s m args below meth c D cid A n0 ad0 C ad ls H locs hq hl hP hD hS)
theorem G.l2i {M : g_M} {k n pc : Nat} {lv : List (Nat × Value)} {st : List Value} {ws : List va_E} {r : Option Value} {ws' : List va_E} {x : Int64} (hd : decode M.1 pc = .ok (.l2i, 1)) (kk : G M k n (pc + 1) lv (.int (x.toInt32) :: st) ws r ws') : G M k n pc lv (.long x :: st) ws r ws' := by
  intro p l e s m args below meth c D cid A n0 ad0 C ad ls H locs hq hl hP hD hS
  exact lv_l2i C.1 C.2.1 hd rfl (kk p l e s m args below meth c D cid A n0 ad0 C ad ls H locs hq hl hP hD hS)
theorem G.i2c {M : g_M} {k n pc : Nat} {lv : List (Nat × Value)} {st : List Value} {ws : List va_E} {r : Option Value} {ws' : List va_E} {x : Int32} (hd : decode M.1 pc = .ok (.i2c, 1)) (kk : G M k n (pc + 1) lv (.int (g_i2c x) :: st) ws r ws') : G M k n pc lv (.int x :: st) ws r ws' := by
  intro p l e s m args below meth c D cid A n0 ad0 C ad ls H locs hq hl hP hD hS
  exact lv_i2c C.1 C.2.1 hd rfl (kk p l e s m args below meth c D cid A n0 ad0 C ad ls H locs hq hl hP hD hS)
theorem G.i2b {M : g_M} {k n pc : Nat} {lv : List (Nat × Value)} {st : List Value} {ws : List va_E} {r : Option Value} {ws' : List va_E} {x : Int32} (hd : decode M.1 pc = .ok (.i2b, 1)) (kk : G M k n (pc + 1) lv (.int (g_i2b x) :: st) ws r ws') : G M k n pc lv (.int x :: st) ws r ws' := by
  intro p l e s m args below meth c D cid A n0 ad0 C ad ls H locs hq hl hP hD hS
  exact lv_i2b C.1 C.2.1 hd rfl (kk p l e s m args below meth c D cid A n0 ad0 C ad ls H locs hq hl hP hD hS)
theorem G.lneg {M : g_M} {k n pc : Nat} {lv : List (Nat × Value)} {st : List Value} {ws : List va_E} {r : Option Value} {ws' : List va_E} {x : Int64} (hd : decode M.1 pc = .ok (.lneg, 1)) (kk : G M k n (pc + 1) lv (.long (-x) :: st) ws r ws') : G M k n pc lv (.long x :: st) ws r ws' := by
  intro p l e s m args below meth c D cid A n0 ad0 C ad ls H locs hq hl hP hD hS
  exact lv_lneg C.1 C.2.1 hd (kk p l e s m args below meth c D cid A n0 ad0 C ad ls H locs hq hl hP hD hS)
theorem G.lcmp {M : g_M} {k n pc : Nat} {lv : List (Nat × Value)} {st : List Value} {ws : List va_E} {r : Option Value} {ws' : List va_E} {x y : Int64} (hd : decode M.1 pc = .ok (.lcmp, 1)) (kk : G M k n (pc + 1) lv (.int (lg_cmp x y) :: st) ws r ws') : G M k n pc lv (.long y :: .long x :: st) ws r ws' := by
  intro p l e s m args below meth c D cid A n0 ad0 C ad ls H locs hq hl hP hD hS
  exact W.lcmp C.1 C.2.1 hd (kk p l e s m args below meth c D cid A n0 ad0 C ad ls H locs hq hl hP hD hS)
theorem G.dup {M : g_M} {k n pc : Nat} {lv : List (Nat × Value)} {st : List Value} {ws : List va_E} {r : Option Value} {ws' : List va_E} {v : Value} (hd : decode M.1 pc = .ok (.dup, 1)) (hc : v.category = 1) (kk : G M k n (pc + 1) lv (v :: v :: st) ws r ws') : G M k n pc lv (v :: st) ws r ws' := by
  intro p l e s m args below meth c D cid A n0 ad0 C ad ls H locs hq hl hP hD hS
  exact lv_dup C.1 C.2.1 hd ((g_catv ad v).trans hc) (kk p l e s m args below meth c D cid A n0 ad0 C ad ls H locs hq hl hP hD hS)
theorem G.pop {M : g_M} {k n pc : Nat} {lv : List (Nat × Value)} {st : List Value} {ws : List va_E} {r : Option Value} {ws' : List va_E} {v : Value} (hd : decode M.1 pc = .ok (.pop, 1)) (hc : v.category = 1) (kk : G M k n (pc + 1) lv st ws r ws') : G M k n pc lv (v :: st) ws r ws' := by
  intro p l e s m args below meth c D cid A n0 ad0 C ad ls H locs hq hl hP hD hS
  exact lv_pop C.1 C.2.1 hd ((g_catv ad v).trans hc) (kk p l e s m args below meth c D cid A n0 ad0 C ad ls H locs hq hl hP hD hS)
theorem G.dup2 {M : g_M} {k n pc : Nat} {lv : List (Nat × Value)} {st : List Value} {ws : List va_E} {r : Option Value} {ws' : List va_E} {v u : Value} (hd : decode M.1 pc = .ok (.dup2, 1)) (hc : v.category = 1) (hc2 : u.category = 1) (kk : G M k n (pc + 1) lv (v :: u :: v :: u :: st) ws r ws') : G M k n pc lv (v :: u :: st) ws r ws' := by
  intro p l e s m args below meth c D cid A n0 ad0 C ad ls H locs hq hl hP hD hS
  exact lv_dup2_11 C.1 C.2.1 hd ((g_catv ad v).trans hc) ((g_catv ad u).trans hc2) (kk p l e s m args below meth c D cid A n0 ad0 C ad ls H locs hq hl hP hD hS)
theorem G.if_eq {M : g_M} {k n pc : Nat} {lv : List (Nat × Value)} {st : List Value} {ws : List va_E} {r : Option Value} {ws' : List va_E} {x : Int32} {off : Int} {tgt : Nat} (hd : decode M.1 pc = .ok (.ifCond .eq off, 3)) (ht : (pc : Int) + off = (tgt : Int)) (kt : x = 0 → G M k n tgt lv st ws r ws') (kf : ¬ x = 0 → G M k n (pc + 3) lv st ws r ws') : G M k n pc lv (.int x :: st) ws r ws' := by
  intro p l e s m args below meth c D cid A n0 ad0 C ad ls H locs hq hl hP hD hS
  exact lv_if_eq C.1 C.2.1 hd ht (fun h => (kt h p l e s m args below meth c D cid A n0 ad0 C ad ls H locs hq hl hP hD hS)) (fun h => (kf h p l e s m args below meth c D cid A n0 ad0 C ad ls H locs hq hl hP hD hS))
theorem G.if_ne {M : g_M} {k n pc : Nat} {lv : List (Nat × Value)} {st : List Value} {ws : List va_E} {r : Option Value} {ws' : List va_E} {x : Int32} {off : Int} {tgt : Nat} (hd : decode M.1 pc = .ok (.ifCond .ne off, 3)) (ht : (pc : Int) + off = (tgt : Int)) (kt : ¬ x = 0 → G M k n tgt lv st ws r ws') (kf : x = 0 → G M k n (pc + 3) lv st ws r ws') : G M k n pc lv (.int x :: st) ws r ws' := by
  intro p l e s m args below meth c D cid A n0 ad0 C ad ls H locs hq hl hP hD hS
  exact lv_if_ne C.1 C.2.1 hd ht (fun h => (kt h p l e s m args below meth c D cid A n0 ad0 C ad ls H locs hq hl hP hD hS)) (fun h => (kf h p l e s m args below meth c D cid A n0 ad0 C ad ls H locs hq hl hP hD hS))
theorem G.if_lt {M : g_M} {k n pc : Nat} {lv : List (Nat × Value)} {st : List Value} {ws : List va_E} {r : Option Value} {ws' : List va_E} {x : Int32} {off : Int} {tgt : Nat} (hd : decode M.1 pc = .ok (.ifCond .lt off, 3)) (ht : (pc : Int) + off = (tgt : Int)) (kt : x < 0 → G M k n tgt lv st ws r ws') (kf : ¬ x < 0 → G M k n (pc + 3) lv st ws r ws') : G M k n pc lv (.int x :: st) ws r ws' := by
  intro p l e s m args below meth c D cid A n0 ad0 C ad ls H locs hq hl hP hD hS
  exact lv_if_lt C.1 C.2.1 hd ht (fun h => (kt h p l e s m args below meth c D cid A n0 ad0 C ad ls H locs hq hl hP hD hS)) (fun h => (kf h p l e s m args below meth c D cid A n0 ad0 C ad ls H locs hq hl hP hD hS))
theorem G.if_ge {M : g_M} {k n pc : Nat} {lv : List (Nat × Value)} {st : List Value} {ws : List va_E} {r : Option Value} {ws' : List va_E} {x : Int32} {off : Int} {tgt : Nat} (hd : decode M.1 pc = .ok (.ifCond .ge off, 3)) (ht : (pc : Int) + off = (tgt : Int)) (kt : 0 ≤ x → G M k n tgt lv st ws r ws') (kf : ¬ 0 ≤ x → G M k n (pc + 3) lv st ws r ws') : G M k n pc lv (.int x :: st) ws r ws' := by
  intro p l e s m args below meth c D cid A n0 ad0 C ad ls H locs hq hl hP hD hS
  exact lv_if_ge C.1 C.2.1 hd ht (fun h => (kt h p l e s m args below meth c D cid A n0 ad0 C ad ls H locs hq hl hP hD hS)) (fun h => (kf h p l e s m args below meth c D cid A n0 ad0 C ad ls H locs hq hl hP hD hS))
theorem G.if_gt {M : g_M} {k n pc : Nat} {lv : List (Nat × Value)} {st : List Value} {ws : List va_E} {r : Option Value} {ws' : List va_E} {x : Int32} {off : Int} {tgt : Nat} (hd : decode M.1 pc = .ok (.ifCond .gt off, 3)) (ht : (pc : Int) + off = (tgt : Int)) (kt : 0 < x → G M k n tgt lv st ws r ws') (kf : ¬ 0 < x → G M k n (pc + 3) lv st ws r ws') : G M k n pc lv (.int x :: st) ws r ws' := by
  intro p l e s m args below meth c D cid A n0 ad0 C ad ls H locs hq hl hP hD hS
  exact lv_if_gt C.1 C.2.1 hd ht (fun h => (kt h p l e s m args below meth c D cid A n0 ad0 C ad ls H locs hq hl hP hD hS)) (fun h => (kf h p l e s m args below meth c D cid A n0 ad0 C ad ls H locs hq hl hP hD hS))
theorem G.if_le {M : g_M} {k n pc : Nat} {lv : List (Nat × Value)} {st : List Value} {ws : List va_E} {r : Option Value} {ws' : List va_E} {x : Int32} {off : Int} {tgt : Nat} (hd : decode M.1 pc = .ok (.ifCond .le off, 3)) (ht : (pc : Int) + off = (tgt : Int)) (kt : x ≤ 0 → G M k n tgt lv st ws r ws') (kf : ¬ x ≤ 0 → G M k n (pc + 3) lv st ws r ws') : G M k n pc lv (.int x :: st) ws r ws' := by
  intro p l e s m args below meth c D cid A n0 ad0 C ad ls H locs hq hl hP hD hS
  exact lv_if_le C.1 C.2.1 hd ht (fun h => (kt h p l e s m args below meth c D cid A n0 ad0 C ad ls H locs hq hl hP hD hS)) (fun h => (kf h p l e s m args below meth c D cid A n0 ad0 C ad ls H locs hq hl hP hD hS))
theorem G.icmp_eq {M : g_M} {k n pc : Nat} {lv : List (Nat × Value)} {st : List Value} {ws : List va_E} {r : Option Value} {ws' : List va_E} {x y : Int32} {off : Int} {tgt : Nat} (hd : decode M.1 pc = .ok (.if_icmp .eq off, 3)) (ht : (pc : Int) + off = (tgt : Int)) (kt : x = y → G M k n tgt lv st ws r ws') (kf : ¬ x = y → G M k n (pc + 3) lv st ws r ws') : G M k n pc lv (.int y :: .int x :: st) ws r ws' := by
  intro p l e s m args below meth c D cid A n0 ad0 C ad ls H locs hq hl hP hD hS
  exact lv_icmp_eq C.1 C.2.1 hd ht (fun h => (kt h p l e s m args below meth c D cid A n0 ad0 C ad ls H locs hq hl hP hD hS)) (fun h => (kf h p l e s m args below meth c D cid A n0 ad0 C ad ls H locs hq hl hP hD hS))
theorem G.icmp_ne {M : g_M} {k n pc : Nat} {lv : List (Nat × Value)} {st : List Value} {ws : List va_E} {r : Option Value} {ws' : List va_E} {x y : Int32} {off : Int} {tgt : Nat} (hd : decode M.1 pc = .ok (.if_icmp .ne off, 3)) (ht : (pc : Int) + off = (tgt : Int)) (kt : ¬ x = y → G M k n tgt lv st ws r ws') (kf : x = y → G M k n (pc + 3) lv st ws r ws') : G M k n pc lv (.int y :: .int x :: st) ws r ws' := by
  intro p l e s m args below meth c D cid A n0 ad0 C ad ls H locs hq hl hP hD hS
  exact lv_icmp_ne C.1 C.2.1 hd ht (fun h => (kt h p l e s m args below meth c D cid A n0 ad0 C ad ls H locs hq hl hP hD hS)) (fun h => (kf h p l e s m args below meth c D cid A n0 ad0 C ad ls H locs hq hl hP hD hS))
theorem G.icmp_lt {M : g_M} {k n pc : Nat} {lv : List (Nat × Value)} {st : List Value} {ws : List va_E} {r : Option Value} {ws' : List va_E} {x y : Int32} {off : Int} {tgt : Nat} (hd : decode M.1 pc = .ok (.if_icmp .lt off, 3)) (ht : (pc : Int) + off = (tgt : Int)) (kt : x < y → G M k n tgt lv st ws r ws') (kf : ¬ x < y → G M k n (pc + 3) lv st ws r ws') : G M k n pc lv (.int y :: .int x :: st) ws r ws' := by
  intro p l e s m args below meth c D cid A n0 ad0 C ad ls H locs hq hl hP hD hS
  exact lv_icmp_lt C.1 C.2.1 hd ht (fun h => (kt h p l e s m args below meth c D cid A n0 ad0 C ad ls H locs hq hl hP hD hS)) (fun h => (kf h p l e s m args below meth c D cid A n0 ad0 C ad ls H locs hq hl hP hD hS))
theorem G.icmp_ge {M : g_M} {k n pc : Nat} {lv : List (Nat × Value)} {st : List Value} {ws : List va_E} {r : Option Value} {ws' : List va_E} {x y : Int32} {off : Int} {tgt : Nat} (hd : decode M.1 pc = .ok (.if_icmp .ge off, 3)) (ht : (pc : Int) + off = (tgt : Int)) (kt : y ≤ x → G M k n tgt lv st ws r ws') (kf : ¬ y ≤ x → G M k n (pc + 3) lv st ws r ws') : G M k n pc lv (.int y :: .int x :: st) ws r ws' := by
  intro p l e s m args below meth c D cid A n0 ad0 C ad ls H locs hq hl hP hD hS
  exact lv_icmp_ge C.1 C.2.1 hd ht (fun h => (kt h p l e s m args below meth c D cid A n0 ad0 C ad ls H locs hq hl hP hD hS)) (fun h => (kf h p l e s m args below meth c D cid A n0 ad0 C ad ls H locs hq hl hP hD hS))
theorem G.icmp_gt {M : g_M} {k n pc : Nat} {lv : List (Nat × Value)} {st : List Value} {ws : List va_E} {r : Option Value} {ws' : List va_E} {x y : Int32} {off : Int} {tgt : Nat} (hd : decode M.1 pc = .ok (.if_icmp .gt off, 3)) (ht : (pc : Int) + off = (tgt : Int)) (kt : y < x → G M k n tgt lv st ws r ws') (kf : ¬ y < x → G M k n (pc + 3) lv st ws r ws') : G M k n pc lv (.int y :: .int x :: st) ws r ws' := by
  intro p l e s m args below meth c D cid A n0 ad0 C ad ls H locs hq hl hP hD hS
  exact lv_icmp_gt C.1 C.2.1 hd ht (fun h => (kt h p l e s m args below meth c D cid A n0 ad0 C ad ls H locs hq hl hP hD hS)) (fun h => (kf h p l e s m args below meth c D cid A n0 ad0 C ad ls H locs hq hl hP hD hS))
theorem G.icmp_le {M : g_M} {k n pc : Nat} {lv : List (Nat × Value)} {st : List Value} {ws : List va_E} {r : Option Value} {ws' : List va_E} {x y : Int32} {off : Int} {tgt : Nat} (hd : decode M.1 pc = .ok (.if_icmp .le off, 3)) (ht : (pc : Int) + off = (tgt : Int)) (kt : x ≤ y → G M k n tgt lv st ws r ws') (kf : ¬ x ≤ y → G M k n (pc + 3) lv st ws r ws') : G M k n pc lv (.int y :: .int x :: st) ws r ws' := by
  intro p l e s m args below meth c D cid A n0 ad0 C ad ls H locs hq hl hP hD hS
  exact lv_icmp_le C.1 C.2.1 hd ht (fun h => (kt h p l e s m args below meth c D cid A n0 ad0 C ad ls H locs hq hl hP hD hS)) (fun h => (kf h p l e s m args below meth c D cid A n0 ad0 C ad ls H locs hq hl hP hD hS))
theorem G.goto {M : g_M} {k n pc : Nat} {lv : List (Nat × Value)} {st : List Value} {ws : List va_E} {r : Option Value} {ws' : List va_E} {off : Int} {tgt : Nat} (hd : decode M.1 pc = .ok (.goto off, 3)) (ht : (pc : Int) + off = (tgt : Int)) (kk : G M k n tgt lv st ws r ws') : G M k n pc lv st ws r ws' := by
  intro p l e s m args below meth c D cid A n0 ad0 C ad ls H locs hq hl hP hD hS
  exact lv_goto C.1 C.2.1 hd ht (kk p l e s m args below meth c D cid A n0 ad0 C ad ls H locs hq hl hP hD hS)
theorem G.topi {M : g_M} {k n pc : Nat} {lv : List (Nat × Value)} {st : List Value} {ws : List va_E} {r : Option Value} {ws' : List va_E} {x : Int32} (kk : ∀ y : Int32, y = x → G M k n pc lv (.int y :: st) ws r ws') : G M k n pc lv (.int x :: st) ws r ws' := kk x rfl
theorem G.topl {M : g_M} {k n pc : Nat} {lv : List (Nat × Value)} {st : List Value} {ws : List va_E} {r : Option Value} {ws' : List va_E} {x : Int64} (kk : ∀ y : Int64, y = x → G M k n pc lv (.long y :: st) ws r ws') : G M k n pc lv (.long x :: st) ws r ws' := kk x rfl
theorem g_tabOff {x v : Int32} (h : x = v) : x.toInt = v.toInt := by rw [h]
theorem G.tabIn {M : g_M} {k n pc : Nat} {lv : List (Nat × Value)} {st : List Value} {ws : List va_E} {r : Option Value} {ws' : List va_E} {dflt lo hi : Int} {offs : Array Int} {len : Nat} {x v : Int32} {off : Int} {tgt : Nat} (hd : decode M.1 pc = .ok (.tableswitch dflt lo hi offs, len)) (hv : x = v) (h1 : ¬ v.toInt < lo) (h2 : ¬ hi < v.toInt) (ho : offs[(v.toInt - lo).toNat]? = some off) (ht : (pc : Int) + off = (tgt : Int)) (kk : G M k n tgt lv st ws r ws') : G M k n pc lv (.int x :: st) ws r ws' := by
  intro p l e s m args below meth c D cid A n0 ad0 C ad ls H locs hq hl hP hD hS
  subst hv
  exact lv_tableIn C.1 C.2.1 hd h1 h2 ho ht (kk p l e s m args below meth c D cid A n0 ad0 C ad ls H locs hq hl hP hD hS)
theorem G.tabOut {M : g_M} {k n pc : Nat} {lv : List (Nat × Value)} {st : List Value} {ws : List va_E} {r : Option Value} {ws' : List va_E} {dflt lo hi : Int} {offs : Array Int} {len : Nat} {x : Int32} {tgt : Nat} (hd : decode M.1 pc = .ok (.tableswitch dflt lo hi offs, len)) (h : x.toInt < lo ∨ hi < x.toInt) (ht : (pc : Int) + dflt = (tgt : Int)) (kk : G M k n tgt lv st ws r ws') : G M k n pc lv (.int x :: st) ws r ws' := by
  intro p l e s m args below meth c D cid A n0 ad0 C ad ls H locs hq hl hP hD hS
  exact lv_tableOut C.1 C.2.1 hd h ht (kk p l e s m args below meth c D cid A n0 ad0 C ad ls H locs hq hl hP hD hS)
theorem G.lookup {M : g_M} {k n pc : Nat} {lv : List (Nat × Value)} {st : List Value} {ws : List va_E} {r : Option Value} {ws' : List va_E} {dflt : Int} {ps : Array (Int × Int)} {len : Nat} {x : Int32} {off : Int} {tgt : Nat} (hd : decode M.1 pc = .ok (.lookupswitch dflt ps, len)) (hp : (ps.toList.zip (ps.toList.drop 1)).all (fun (a, next) => a.1 < next.1) = true) (ho : Op.lookupswitch.offset ps.toList dflt x.toInt = off) (ht : (pc : Int) + off = (tgt : Int)) (kk : G M k n tgt lv st ws r ws') : G M k n pc lv (.int x :: st) ws r ws' := by
  intro p l e s m args below meth c D cid A n0 ad0 C ad ls H locs hq hl hP hD hS
  exact lv_lookup C.1 C.2.1 hd hp ho ht (kk p l e s m args below meth c D cid A n0 ad0 C ad ls H locs hq hl hP hD hS)
def g_F (own : String) (idx ci k : Nat) : Prop := ∃ (C : String) (T : u_T) (N : Nat), vwCl[ci]? = some (C, T, N) ∧ k < N ∧ (∀ w ∈ u_ws C T N, w ∈ TT) ∧ Cond.fieldLink own idx (T k).1 (T k).2.1 (T k).2.2.1 ∈ TT
def g_Fw (own : String) (idx ci k : Nat) (ty : FieldType) : Prop := ∃ (C : String) (T : u_T) (N : Nat) (ty0 : Nat → FieldType), vwCl[ci]? = some (C, T, N) ∧ k < N ∧ (∀ w ∈ u_ws C T N, w ∈ TT) ∧ Cond.fieldLink own idx (T k).1 (T k).2.1 (T k).2.2.1 ∈ TT ∧ (∀ k, k < N → parseFieldDescriptor (T k).2.2.1 = some (ty0 k)) ∧ (∀ a, a < N → ∀ b, b < N → a ≠ b → (T a).2.1 ≠ (T b).2.1) ∧ (T k).2.2.2 = false ∧ parseFieldDescriptor (T k).2.2.1 = some ty
theorem G.getfield {M : g_M} {k n pc : Nat} {lv : List (Nat × Value)} {st : List Value} {ws : List va_E} {r : Option Value} {ws' : List va_E} {idx ci kf a : Nat} {fs : List Value} {v : Value} (hd : decode M.1 pc = .ok (.getfield idx, 3)) (hf : g_F M.2.2.1 idx ci kf) (he : ws[a]? = some (.inr (ci, fs))) (hv : fs[kf]? = some v) (kk : G M k n (pc + 3) lv (v :: st) ws r ws') : G M k n pc lv (.ref a :: st) ws r ws' := by
  intro p l e s m args below meth c D cid A n0 ad0 C ad ls H locs hq hl hP hD hS
  obtain ⟨C9, T9, N9, h1, h2, h3, h4⟩ := hf
  exact va_get (D := D) (ci := ci) (v := g_tv ad v) C.1 C.2.1 C.2.2.2.2.2.1 h3 C.2.2.2.2.1 C.2.2.2.2.2.2.2.1 hP a (fs := fs.map (g_tv ad)) (g_get ad cid he) h1 kf h2 (C.2.2.2.2.2.1 _ h4) (fun _ h9 => h9) (by rw [List.getElem?_map, hv]; rfl) hd (kk p l e s m args below meth c D cid A n0 ad0 C ad ls H locs hq hl hP hD hS)
def g_fit (ty : FieldType) (v : Value) : Prop := ∀ ad : Nat → Nat, narrow ty (g_tv ad v) = g_tv ad v ∧ fits ty (g_tv ad v) = true
theorem g_fit_i (x : Int32) : g_fit .int (.int x) := fun _ => ⟨rfl, rfl⟩
theorem g_fit_l (x : Int64) : g_fit .long (.long x) := fun _ => ⟨rfl, rfl⟩
theorem g_fit_z {x : Int32} (h : x = 0 ∨ x = 1) : g_fit .boolean (.int x) := fun _ => by
  rcases h with rfl | rfl
  · show narrow .boolean (.int 0) = .int 0 ∧ fits .boolean (.int 0) = true; decide
  · show narrow .boolean (.int 1) = .int 1 ∧ fits .boolean (.int 1) = true; decide
theorem g_fit_a (t : FieldType) (i : Nat) : g_fit (.array t) (.ref i) := fun _ => ⟨rfl, rfl⟩
theorem g_fit_o (t : String) (i : Nat) : g_fit (.object t) (.ref i) := fun _ => ⟨rfl, rfl⟩
theorem G.putfield {M : g_M} {k n pc : Nat} {lv : List (Nat × Value)} {st : List Value} {ws : List va_E} {r : Option Value} {ws' : List va_E} {idx ci kf a : Nat} {fs : List Value} {v : Value} {ty : FieldType} {ws1 : List va_E} (hd : decode M.1 pc = .ok (.putfield idx, 3)) (hf : g_Fw M.2.2.1 idx ci kf ty) (he : ws[a]? = some (.inr (ci, fs))) (hfit : g_fit ty v) (hl9 : Nat.ble (kf + 1) fs.length = true) (hw : ws.set a (.inr (ci, fs.set kf v)) = ws1) (kk : G M k n (pc + 3) lv st ws1 r ws') : G M k n pc lv (v :: .ref a :: st) ws r ws' := by
  intro p l e s m args below meth c D cid A n0 ad0 C ad ls H locs hq hl hP hD hS
  obtain ⟨C9, T9, N9, ty0, h1, h2, h3, h4, h5, h6, h7, h8⟩ := hf
  refine va_put (D := D) (ci := ci) (v := g_tv ad v) (ty := ty) C.1 C.2.1 C.2.2.2.2.2.1 h3 ty0 h5 h6 C.2.2.2.2.1 C.2.2.2.2.2.2.2.1 hP hD hS a (fs := fs.map (g_tv ad)) (g_get ad cid he) h1 kf h2 (C.2.2.2.2.2.1 _ h4) (fun _ h9 => h9) h7 h8 (hfit ad).1 (hfit ad).2 (by rw [List.length_map]; exact g_lt hl9) hd (fun H locs hP hD hS => ?_)
  have hz : (g_mk ad cid ws).set a (ad a, .inr (ci, (fs.map (g_tv ad)).set kf (g_tv ad v))) = g_mk ad cid ws1 := by
    rw [← hw, ← g_set]
    simp only [g_te, List.map_set]
  rw [hz] at hP hD
  exact (kk p l e s m args below meth c D cid A n0 ad0 C ad ls H locs hq hl hP hD hS)
theorem G.iaload {M : g_M} {k n pc : Nat} {lv : List (Nat × Value)} {st : List Value} {ws : List va_E} {r : Option Value} {ws' : List va_E} {a N : Nat} {f : Nat → Int32} {i : Int32} (hd : decode M.1 pc = .ok (.iaload, 1)) (he : ws[a]? = some (.inl (1, N, .inl f))) (hin : vp_in i N) (kk : G M k n (pc + 1) lv (.int (f i.toNatClampNeg) :: st) ws r ws') : G M k n pc lv (.int i :: .ref a :: st) ws r ws' := by
  intro p l e s m args below meth c D cid A n0 ad0 C ad ls H locs hq hl hP hD hS
  exact va_iald (D := D) C.1 C.2.1 C.2.2.2.2.2.2.2.1 hP a 1 (g_get ad cid he) rfl hin hd (kk p l e s m args below meth c D cid A n0 ad0 C ad ls H locs hq hl hP hD hS)
theorem G.caload {M : g_M} {k n pc : Nat} {lv : List (Nat × Value)} {st : List Value} {ws : List va_E} {r : Option Value} {ws' : List va_E} {a N : Nat} {f : Nat → Int32} {i : Int32} (hd : decode M.1 pc = .ok (.caload, 1)) (he : ws[a]? = some (.inl (0, N, .inl f))) (hin : vp_in i N) (kk : G M k n (pc + 1) lv (.int (f i.toNatClampNeg) :: st) ws r ws') : G M k n pc lv (.int i :: .ref a :: st) ws r ws' := by
  intro p l e s m args below meth c D cid A n0 ad0 C ad ls H locs hq hl hP hD hS
  exact va_cald (D := D) C.1 C.2.1 C.2.2.2.2.2.2.2.1 hP a 0 (g_get ad cid he) rfl hin hd (kk p l e s m args below meth c D cid A n0 ad0 C ad ls H locs hq hl hP hD hS)
theorem G.laload {M : g_M} {k n pc : Nat} {lv : List (Nat × Value)} {st : List Value} {ws : List va_E} {r : Option Value} {ws' : List va_E} {a N : Nat} {f : Nat → Int64} {i : Int32} (hd : decode M.1 pc = .ok (.laload, 1)) (he : ws[a]? = some (.inl (2, N, .inr (.inl f)))) (hin : vp_in i N) (kk : G M k n (pc + 1) lv (.long (f i.toNatClampNeg) :: st) ws r ws') : G M k n pc lv (.int i :: .ref a :: st) ws r ws' := by
  intro p l e s m args below meth c D cid A n0 ad0 C ad ls H locs hq hl hP hD hS
  exact va_lald (D := D) C.1 C.2.1 C.2.2.2.2.2.2.2.1 hP a 2 (g_get ad cid he) rfl hin hd (kk p l e s m args below meth c D cid A n0 ad0 C ad ls H locs hq hl hP hD hS)
theorem G.aaload {M : g_M} {k n pc : Nat} {lv : List (Nat × Value)} {st : List Value} {ws : List va_E} {r : Option Value} {ws' : List va_E} {a N b : Nat} {f : Nat → Option Nat} {i : Int32} (hd : decode M.1 pc = .ok (.aaload, 1)) (he : ws[a]? = some (.inl (3, N, .inr (.inr (.inr (.inr f)))))) (hin : vp_in i N) (hb : f i.toNatClampNeg = some b) (kk : G M k n (pc + 1) lv (.ref b :: st) ws r ws') : G M k n pc lv (.int i :: .ref a :: st) ws r ws' := by
  intro p l e s m args below meth c D cid A n0 ad0 C ad ls H locs hq hl hP hD hS
  refine va_aldq (D := D) C.1 C.2.1 C.2.2.2.2.2.2.2.1 hP a 3 (f := fun j => (f j).map ad) (g_get ad cid he) rfl hin hd ?_
  have hz : va_rf ((f i.toNatClampNeg).map ad) = .ref (ad b) := by rw [hb]; rfl
  rw [hz]
  exact (kk p l e s m args below meth c D cid A n0 ad0 C ad ls H locs hq hl hP hD hS)
theorem G.arraylength {M : g_M} {k n pc : Nat} {lv : List (Nat × Value)} {st : List Value} {ws : List va_E} {r : Option Value} {ws' : List va_E} {a t N : Nat} {x : (Nat → Int32) ⊕ (Nat → Int64) ⊕ (Nat → UInt32) ⊕ (Nat → UInt64) ⊕ (Nat → Option Nat)} {v : Int32} (hd : decode M.1 pc = .ok (.arraylength, 1)) (he : ws[a]? = some (.inl (t, N, x))) (ht : Nat.ble (t + 1) 4 = true) (hv : Int32.ofNat N = v) (kk : G M k n (pc + 1) lv (.int v :: st) ws r ws') : G M k n pc lv (.ref a :: st) ws r ws' := by
  intro p l e s m args below meth c D cid A n0 ad0 C ad ls H locs hq hl hP hD hS
  have ht := g_lt ht
  have hh : ∃ ty, (g_tys cid)[t]? = some (cid t, ty) := by
    rcases (show t = 0 ∨ t = 1 ∨ t = 2 ∨ t = 3 by omega) with rfl | rfl | rfl | rfl <;> exact ⟨_, rfl⟩
  obtain ⟨ty, hty⟩ := hh
  exact va_alen (D := D) C.1 C.2.1 C.2.2.2.2.2.2.2.1 hP a t (x := g_ta ad (N, x)) (g_get ad cid he) hty hv hd (kk p l e s m args below meth c D cid A n0 ad0 C ad ls H locs hq hl hP hD hS)
theorem G.iastore {M : g_M} {k n pc : Nat} {lv : List (Nat × Value)} {st : List Value} {ws : List va_E} {r : Option Value} {ws' : List va_E} {a N : Nat} {f : Nat → Int32} {i : Int32} {x : Int32} {ws1 : List va_E} (hd : decode M.1 pc = .ok (.iastore, 1)) (he : ws[a]? = some (.inl (1, N, .inl f))) (hin : vp_in i N) (hw : ws.set a (.inl (1, N, .inl (upd f i.toNatClampNeg x))) = ws1) (kk : G M k n (pc + 1) lv st ws1 r ws') : G M k n pc lv (.int x :: .int i :: .ref a :: st) ws r ws' := by
  intro p l e s m args below meth c D cid A n0 ad0 C ad ls H locs hq hl hP hD hS
  refine va_iast (D := D) C.1 C.2.1 C.2.2.2.2.2.2.2.1 hP hD hS a 1 (g_get ad cid he) rfl hin hd (fun H locs hP hD hS => ?_)
  have hz := g_set ad cid ws a (.inl (1, N, .inl (upd f i.toNatClampNeg x)))
  rw [hw] at hz
  have hP : va_P D vwCl (g_mk ad cid ws1) H := hz ▸ hP
  have hD : va_D A (g_mk ad cid ws1) := hz ▸ hD
  exact (kk p l e s m args below meth c D cid A n0 ad0 C ad ls H locs hq hl hP hD hS)
theorem G.castore {M : g_M} {k n pc : Nat} {lv : List (Nat × Value)} {st : List Value} {ws : List va_E} {r : Option Value} {ws' : List va_E} {a N : Nat} {f : Nat → Int32} {i : Int32} {x : Int32} {ws1 : List va_E} (hd : decode M.1 pc = .ok (.castore, 1)) (he : ws[a]? = some (.inl (0, N, .inl f))) (hin : vp_in i N) (hw : ws.set a (.inl (0, N, .inl (upd f i.toNatClampNeg (vp_nar .char x)))) = ws1) (kk : G M k n (pc + 1) lv st ws1 r ws') : G M k n pc lv (.int x :: .int i :: .ref a :: st) ws r ws' := by
  intro p l e s m args below meth c D cid A n0 ad0 C ad ls H locs hq hl hP hD hS
  refine va_cast (D := D) C.1 C.2.1 C.2.2.2.2.2.2.2.1 hP hD hS a 0 (g_get ad cid he) rfl hin hd (fun H locs hP hD hS => ?_)
  have hz := g_set ad cid ws a (.inl (0, N, .inl (upd f i.toNatClampNeg (vp_nar .char x))))
  rw [hw] at hz
  have hP : va_P D vwCl (g_mk ad cid ws1) H := hz ▸ hP
  have hD : va_D A (g_mk ad cid ws1) := hz ▸ hD
  exact (kk p l e s m args below meth c D cid A n0 ad0 C ad ls H locs hq hl hP hD hS)
theorem G.lastore {M : g_M} {k n pc : Nat} {lv : List (Nat × Value)} {st : List Value} {ws : List va_E} {r : Option Value} {ws' : List va_E} {a N : Nat} {f : Nat → Int64} {i : Int32} {x : Int64} {ws1 : List va_E} (hd : decode M.1 pc = .ok (.lastore, 1)) (he : ws[a]? = some (.inl (2, N, .inr (.inl f)))) (hin : vp_in i N) (hw : ws.set a (.inl (2, N, .inr (.inl (vp_updL f i.toNatClampNeg x)))) = ws1) (kk : G M k n (pc + 1) lv st ws1 r ws') : G M k n pc lv (.long x :: .int i :: .ref a :: st) ws r ws' := by
  intro p l e s m args below meth c D cid A n0 ad0 C ad ls H locs hq hl hP hD hS
  refine va_last (D := D) C.1 C.2.1 C.2.2.2.2.2.2.2.1 hP hD hS a 2 (g_get ad cid he) rfl hin hd (fun H locs hP hD hS => ?_)
  have hz := g_set ad cid ws a (.inl (2, N, .inr (.inl (vp_updL f i.toNatClampNeg x))))
  rw [hw] at hz
  have hP : va_P D vwCl (g_mk ad cid ws1) H := hz ▸ hP
  have hD : va_D A (g_mk ad cid ws1) := hz ▸ hD
  exact (kk p l e s m args below meth c D cid A n0 ad0 C ad ls H locs hq hl hP hD hS)
theorem G.ireturn {M : g_M} {k n pc : Nat} {lv : List (Nat × Value)} {ws : List va_E} {x : Int32} (hd : decode M.1 pc = .ok (.ireturn, 1)) (hr : M.2.2.2.1 = some .int) (hk : Nat.ble k M.2.2.2.2.2.1 = true) (hn : Nat.ble n M.2.2.2.2.2.2 = true) : G M k n pc lv [.int x] ws (some (.int x)) ws := by
  intro p l e s m args below meth c D cid A n0 ad0 C ad ls H locs hq hl hP hD hS
  refine W.widen (k := M.2.2.2.2.2.1) (n := M.2.2.2.2.2.2) (Nat.le_of_ble_eq_true hk) (Nat.le_of_ble_eq_true hn) ?_
  exact W.iret (v := x) C.1 C.2.1 (C.2.2.1.trans hr) (fun t ht hW => ⟨⟨ad, hq, rfl, by rw [ht]; exact hP, va_K.moved hW.alike C.2.2.2.2.2.2.2.1, hD⟩, hS.F ht⟩) hS.2.2 hd C.2.2.2.2.2.2.1
theorem G.zreturn {M : g_M} {k n pc : Nat} {lv : List (Nat × Value)} {ws : List va_E} {x : Int32} {ty : FieldType} (hd : decode M.1 pc = .ok (.ireturn, 1)) (hr : M.2.2.2.1 = some ty) (hx : narrow ty (.int x) = .int x) (hk : Nat.ble k M.2.2.2.2.2.1 = true) (hn : Nat.ble n M.2.2.2.2.2.2 = true) : G M k n pc lv [.int x] ws (some (.int x)) ws := by
  intro p l e s m args below meth c D cid A n0 ad0 C ad ls H locs hq hl hP hD hS
  refine W.widen (k := M.2.2.2.2.2.1) (n := M.2.2.2.2.2.2) (Nat.le_of_ble_eq_true hk) (Nat.le_of_ble_eq_true hn) ?_
  exact W.zret (v := x) C.1 C.2.1 (C.2.2.1.trans hr) hx (fun t ht hW => ⟨⟨ad, hq, rfl, by rw [ht]; exact hP, va_K.moved hW.alike C.2.2.2.2.2.2.2.1, hD⟩, hS.F ht⟩) hS.2.2 hd C.2.2.2.2.2.2.1
theorem G.lreturn {M : g_M} {k n pc : Nat} {lv : List (Nat × Value)} {ws : List va_E} {x : Int64} (hd : decode M.1 pc = .ok (.lreturn, 1)) (hr : M.2.2.2.1 = some .long) (hk : Nat.ble k M.2.2.2.2.2.1 = true) (hn : Nat.ble n M.2.2.2.2.2.2 = true) : G M k n pc lv [.long x] ws (some (.long x)) ws := by
  intro p l e s m args below meth c D cid A n0 ad0 C ad ls H locs hq hl hP hD hS
  refine W.widen (k := M.2.2.2.2.2.1) (n := M.2.2.2.2.2.2) (Nat.le_of_ble_eq_true hk) (Nat.le_of_ble_eq_true hn) ?_
  exact W.lret (v := x) C.1 C.2.1 (C.2.2.1.trans hr) (fun t ht hW => ⟨⟨ad, hq, rfl, by rw [ht]; exact hP, va_K.moved hW.alike C.2.2.2.2.2.2.2.1, hD⟩, hS.F ht⟩) hS.2.2 hd C.2.2.2.2.2.2.1
theorem G.vreturn {M : g_M} {k n pc : Nat} {lv : List (Nat × Value)} {ws : List va_E} (hd : decode M.1 pc = .ok (.return_, 1)) (hr : M.2.2.2.1 = none) (hk : Nat.ble k M.2.2.2.2.2.1 = true) (hn : Nat.ble n M.2.2.2.2.2.2 = true) : G M k n pc lv [] ws none ws := by
  intro p l e s m args below meth c D cid A n0 ad0 C ad ls H locs hq hl hP hD hS
  refine W.widen (k := M.2.2.2.2.2.1) (n := M.2.2.2.2.2.2) (Nat.le_of_ble_eq_true hk) (Nat.le_of_ble_eq_true hn) ?_
  exact W.vret C.1 C.2.1 (C.2.2.1.trans hr) (fun t ht hW => ⟨⟨ad, hq, rfl, by rw [ht]; exact hP, va_K.moved hW.alike C.2.2.2.2.2.2.2.1, hD⟩, hS.F ht⟩) hS.2.2 hd C.2.2.2.2.2.2.1
theorem G.areturn {M : g_M} {k n pc : Nat} {lv : List (Nat × Value)} {ws : List va_E} {i : Nat} {rt : FieldType} (hd : decode M.1 pc = .ok (.areturn, 1)) (hr : M.2.2.2.1 = some rt) (hrt : (∃ n, rt = .object n) ∨ ∃ t, rt = .array t) (hk : Nat.ble k M.2.2.2.2.2.1 = true) (hn : Nat.ble n M.2.2.2.2.2.2 = true) : G M k n pc lv [.ref i] ws (some (.ref i)) ws := by
  intro p l e s m args below meth c D cid A n0 ad0 C ad ls H locs hq hl hP hD hS
  refine W.widen (k := M.2.2.2.2.2.1) (n := M.2.2.2.2.2.2) (Nat.le_of_ble_eq_true hk) (Nat.le_of_ble_eq_true hn) ?_
  exact W.aret (v := .ref (ad i)) C.1 C.2.1 (C.2.2.1.trans hr) hrt (Or.inr ⟨_, rfl⟩) (fun t ht hW => ⟨⟨ad, hq, rfl, by rw [ht]; exact hP, va_K.moved hW.alike C.2.2.2.2.2.2.2.1, hD⟩, hS.F ht⟩) hS.2.2 hd C.2.2.2.2.2.2.1
theorem G.lvp {M : g_M} {k n pc : Nat} {lv : List (Nat × Value)} {st : List Value} {ws : List va_E} {r : Option Value} {ws' : List va_E} {lv1 : List (Nat × Value)} (ks : List Nat) (h : lv_pick lv ks = lv1) (kk : G M k n pc lv1 st ws r ws') : G M k n pc lv st ws r ws' := by
  intro p l e s m args below meth c D cid A n0 ad0 C ad ls H locs hq hl hP hD hS
  have hl : lv_has ls M.2.1 (lv1.map (g_tl ad)) := lv_sub hl ks (by rw [← h]; simp [lv_pick, List.map_filterMap])
  exact (kk p l e s m args below meth c D cid A n0 ad0 C ad ls H locs hq hl hP hD hS)
theorem g_tabmiss {x : Int32} {lo hi : Int} (hlo : -2147483648 ≤ lo) (hhi : hi ≤ 2147483647) (h : ∀ v : Int, lo ≤ v → v ≤ hi → x ≠ Int32.ofInt v) : x.toInt < lo ∨ hi < x.toInt := by
  rcases Int.lt_or_le x.toInt lo with h1 | h1
  · exact Or.inl h1
  · rcases Int.lt_or_le hi x.toInt with h2 | h2
    · exact Or.inr h2
    · exact absurd (Int32.ofInt_toInt x).symm (h x.toInt h1 h2)
theorem g_toInt_ne {x v : Int32} {z : Int} (h : ¬ x = v) (hz : v.toInt = z) : ¬ x.toInt = z := fun e => h (Int32.toInt_inj.mp (e.trans hz.symm))
theorem g_lkmiss {dflt x : Int} : ∀ {ps : List (Int × Int)}, ps.all (fun q => decide (¬ x = q.1)) = true → Op.lookupswitch.offset ps dflt x = dflt
  | [], _ => rfl
  | q :: ps, h => by
    simp only [List.all_cons, Bool.and_eq_true, decide_eq_true_eq] at h
    have ih := g_lkmiss (dflt := dflt) (x := x) (ps := ps) (by simpa using h.2)
    simp only [Op.lookupswitch.offset] at ih ⊢
    simp [h.1, Ne.symm h.1, ih]
end
section
def TG (ws : List Cond) : Prop := ∀ w ∈ ws, (w.onTables && w.keeps) = true ∨ ∃ ty, w = .arrayClass ty
theorem tg1 {a : List Cond} (h : a.all goodWord = true) : TG a := fun w hw => good_of_word (List.all_eq_true.mp h w hw)
theorem tg2 {a b : List Cond} (ha : TG a) (hb : TG b) : TG (a ++ b) := fun w h => (List.mem_append.mp h).elim (ha w) (hb w)
theorem tg_TT0 : TT0.all goodWord = true := by decide +kernel
theorem tg_TT1 : TT1.all goodWord = true := by decide +kernel
theorem tg_TT2 : TT2.all goodWord = true := by decide +kernel
theorem tg_TT3 : TT3.all goodWord = true := by decide +kernel
theorem tg_TT4 : TT4.all goodWord = true := by decide +kernel
theorem tg_TT5 : TT5.all goodWord = true := by decide +kernel
theorem tg_TT6 : TT6.all goodWord = true := by decide +kernel
theorem tg_TT7 : TT7.all goodWord = true := by decide +kernel
theorem tg_TT8 : TT8.all goodWord = true := by decide +kernel
theorem tg_TT9 : TT9.all goodWord = true := by decide +kernel
theorem tg_TT10 : TT10.all goodWord = true := by decide +kernel
theorem tg_TT11 : TT11.all goodWord = true := by decide +kernel
theorem tg_TT12 : TT12.all goodWord = true := by decide +kernel
theorem tg_TT13 : TT13.all goodWord = true := by decide +kernel
theorem tg_TT14 : TT14.all goodWord = true := by decide +kernel
theorem tg_TT15 : TT15.all goodWord = true := by decide +kernel
theorem tg_TT16 : TT16.all goodWord = true := by decide +kernel
theorem tg_TT17 : TT17.all goodWord = true := by decide +kernel
theorem tg_TT18 : TT18.all goodWord = true := by decide +kernel
theorem tg_TT19 : TT19.all goodWord = true := by decide +kernel
theorem tg_TT20 : TT20.all goodWord = true := by decide +kernel
theorem tg_TT21 : TT21.all goodWord = true := by decide +kernel
theorem tg_TT22 : TT22.all goodWord = true := by decide +kernel
theorem tg_TT23 : TT23.all goodWord = true := by decide +kernel
theorem tg_TT24 : TT24.all goodWord = true := by decide +kernel
theorem tg_TT25 : TT25.all goodWord = true := by decide +kernel
theorem tg_TT26 : TT26.all goodWord = true := by decide +kernel
theorem tg_TT27 : TT27.all goodWord = true := by decide +kernel
theorem tg_TT28 : TT28.all goodWord = true := by decide +kernel
theorem tg_TT29 : TT29.all goodWord = true := by decide +kernel
theorem tg_TT30 : TT30.all goodWord = true := by decide +kernel
theorem tg_TT31 : TT31.all goodWord = true := by decide +kernel
theorem tg_TT32 : TT32.all goodWord = true := by decide +kernel
theorem tg_TT33 : TT33.all goodWord = true := by decide +kernel
theorem tg_TT34 : TT34.all goodWord = true := by decide +kernel
theorem tg_TT35 : TT35.all goodWord = true := by decide +kernel
theorem tg_TT36 : TT36.all goodWord = true := by decide +kernel
theorem tg_wsX00 : wsX00.all goodWord = true := by decide +kernel
theorem tg_wsX20 : wsX20.all goodWord = true := by decide +kernel
theorem tg_wsX30 : wsX30.all goodWord = true := by decide +kernel
theorem tg_wsX60 : wsX60.all goodWord = true := by decide +kernel
theorem tg_wsX70 : wsX70.all goodWord = true := by decide +kernel
theorem tg_wsX80 : wsX80.all goodWord = true := by decide +kernel
theorem tg_wsX90 : wsX90.all goodWord = true := by decide +kernel
theorem tg_wsX100 : wsX100.all goodWord = true := by decide +kernel
theorem tg_wsX110 : wsX110.all goodWord = true := by decide +kernel
theorem tg_TT : TG TT := by
  unfold TT
  exact tg2 (tg1 tg_TT0) (tg2 (tg1 tg_TT1) (tg2 (tg1 tg_TT2) (tg2 (tg1 tg_TT3) (tg2 (tg1 tg_TT4) (tg2 (tg1 tg_TT5) (tg2 (tg1 tg_TT6) (tg2 (tg1 tg_TT7) (tg2 (tg1 tg_TT8) (tg2 (tg1 tg_TT9) (tg2 (tg1 tg_TT10) (tg2 (tg1 tg_TT11) (tg2 (tg1 tg_TT12) (tg2 (tg1 tg_TT13) (tg2 (tg1 tg_TT14) (tg2 (tg1 tg_TT15) (tg2 (tg1 tg_TT16) (tg2 (tg1 tg_TT17) (tg2 (tg1 tg_TT18) (tg2 (tg1 tg_TT19) (tg2 (tg1 tg_TT20) (tg2 (tg1 tg_TT21) (tg2 (tg1 tg_TT22) (tg2 (tg1 tg_TT23) (tg2 (tg1 tg_TT24) (tg2 (tg1 tg_TT25) (tg2 (tg1 tg_TT26) (tg2 (tg1 tg_TT27) (tg2 (tg1 tg_TT28) (tg2 (tg1 tg_TT29) (tg2 (tg1 tg_TT30) (tg2 (tg1 tg_TT31) (tg2 (tg1 tg_TT32) (tg2 (tg1 tg_TT33) (tg2 (tg1 tg_TT34) (tg2 (tg1 tg_TT35) (tg2 (tg1 tg_TT36) (tg2 (tg1 tg_wsX00) (tg2 (tg1 tg_wsX20) (tg2 (tg1 tg_wsX30) (tg2 (tg1 tg_wsX60) (tg2 (tg1 tg_wsX70) (tg2 (tg1 tg_wsX80) (tg2 (tg1 tg_wsX90) (tg2 (tg1 tg_wsX100) (tg1 tg_wsX110)))))))))))))))))))))))))))))))))))))))))))))
theorem tg_in {ws : List Cond} (h : ∀ w ∈ ws, w ∈ TT) : GoodIn TT ws := fun w hw => ⟨h w hw, tg_TT w (h w hw)⟩
/-- a callee's cells, written with the caller's places -/
def g_rn (is : List Nat) (j : Nat) : Nat := (is[j]?).getD j
def g_re (is : List Nat) (e : va_E) : va_E := g_te (g_rn is) (fun x => x) e
def g_rv (is : List Nat) (v : Value) : Value := g_tv (g_rn is) v
def g_pt : List Nat → List va_E → List va_E → List va_E
  | i :: is, e :: es, ws => g_pt is es (ws.set i e)
  | _, _, ws => ws
theorem g_tv_tv (ad f : Nat → Nat) (v : Value) : g_tv ad (g_tv f v) = g_tv (fun j => ad (f j)) v := by cases v <;> rfl
theorem g_te_te (ad f : Nat → Nat) (cid : Nat → ClassId) (e : va_E) : g_te ad cid (g_te f (fun x => x) e) = g_te (fun j => ad (f j)) cid e := by
  rcases e with ⟨k, n, x⟩ | ⟨ci, fs⟩
  · rcases x with x | x | x | x | x <;> simp [g_te, g_ta, Function.comp_def]
  · simp [g_te, Function.comp_def, g_tv_tv]
theorem g_pt_len : ∀ (is : List Nat) (es ws : List va_E), (g_pt is es ws).length = ws.length
  | [], _, _ => by simp [g_pt]
  | _ :: _, [], _ => by simp [g_pt]
  | i :: is, e :: es, ws => by simp [g_pt, g_pt_len is es]
theorem g_pt_get : ∀ (is : List Nat) (es ws : List va_E) (i : Nat) (e : va_E), (g_pt is es ws)[i]? = some e → is.length = es.length → (∃ j : Nat, is[j]? = some i ∧ es[j]? = some e) ∨ (i ∉ is ∧ ws[i]? = some e)
  | [], es, ws, i, e, h, _ => by
    simp [g_pt] at h
    exact Or.inr ⟨by simp, h⟩
  | _ :: _, [], _, _, _, _, h => by simp at h
  | i0 :: is, e0 :: es, ws, i, e, h, hl => by
    rw [g_pt] at h
    rcases g_pt_get is es (ws.set i0 e0) i e h (by simpa using hl) with ⟨j, h1, h2⟩ | ⟨h1, h2⟩
    · exact Or.inl ⟨j + 1, by simpa using h1, by simpa using h2⟩
    · rw [List.getElem?_set] at h2
      by_cases hi : i0 = i
      · subst hi
        rw [if_pos rfl] at h2
        by_cases hl2 : i0 < ws.length
        · rw [if_pos hl2] at h2
          cases h2
          exact Or.inl ⟨0, rfl, rfl⟩
        · rw [if_neg hl2] at h2
          cases h2
      · rw [if_neg hi] at h2
        exact Or.inr ⟨by simp [Ne.symm hi, h1], h2⟩
theorem g_D_len {A : Nat → Prop} {ad : Nat → Nat} {cid : Nat → ClassId} {ws ws1 : List va_E} (hl : ws1.length = ws.length) (h : va_D A (g_mk ad cid ws)) : va_D A (g_mk ad cid ws1) := by
  have hx : ∀ (i : Nat) (q : Nat × va_E), (g_mk ad cid ws1)[i]? = some q → ∃ q0 : Nat × va_E, (g_mk ad cid ws)[i]? = some q0 ∧ q0.1 = q.1 := by
    intro i q hq
    obtain ⟨e, h1, rfl⟩ := g_get' ad cid hq
    have hi : i < ws.length := by
      have := (List.getElem?_eq_some_iff.mp h1).1
      omega
    exact ⟨_, g_get ad cid (List.getElem?_eq_getElem hi), rfl⟩
  refine ⟨fun i j p q hp hq hpq => ?_, fun i q hq => ?_⟩
  · obtain ⟨p0, h1, h2⟩ := hx i p hp
    obtain ⟨q0, h3, h4⟩ := hx j q hq
    exact h.1 i j p0 q0 h1 h3 (by rw [h2, h4, hpq])
  · obtain ⟨q0, h1, h2⟩ := hx i q hq
    rw [← h2]
    exact h.2 i q0 h1
/-- the callee's world among the caller's -/
theorem g_sub {ad : Nat → Nat} {cid : Nat → ClassId} {ws wc : List va_E} {is : List Nat} (hw : is.map (fun i => ws[i]?) = (wc.map (g_re is)).map some) : is.map (fun i => (g_mk ad cid ws)[i]?) = (g_mk (fun j => ad (g_rn is j)) cid wc).map some := by
  apply List.ext_getElem?
  intro j
  have h := congrArg (fun l => l[j]?) hw
  simp only [List.getElem?_map] at h ⊢
  cases hi : is[j]? with
  | none =>
    rw [hi] at h
    cases hc : wc[j]? with
    | none => simp [g_mk, hc]
    | some e => rw [hc] at h; simp at h
  | some i =>
    rw [hi] at h
    cases hc : wc[j]? with
    | none => rw [hc] at h; simp at h
    | some e =>
      rw [hc] at h
      simp only [Option.map_some, Option.some.injEq] at h
      have hr : g_rn is j = i := by simp [g_rn, hi]
      simp only [Option.map_some, g_get ad cid h, g_get (fun j => ad (g_rn is j)) cid hc]
      rw [g_re, g_te_te, hr]
section GCall
variable {p : Program} {l : Launch} {e : Env} {R : Room} {s : State} {m : MethodId} {args : Array Value} {below : List Frame} {meth : Method} {c : Code} {H : Heap} {locs : List Loc} {Q : State → Prop}
theorem g_after {k n pc : Nat} {ls : Array Slot} {st0 rest0 : List Value} {a : Array Value} {D : va_G} {cid : Nat → ClassId} {A : Nat → Prop} {ad : Nat → Nat} {ws wc wc1 : List va_E} {is : List Nat} {r1 : Option Value}
    (hr : va_Run p l e R s m args below meth c H locs k n 0 0 (F0 m pc ls st0) rest0 (g_Q D cid (va_A (g_mk (fun j => ad (g_rn is j)) cid wc) H.size) 1000 (fun j => ad (g_rn is j)) r1 wc1 a) (va_A (g_mk (fun j => ad (g_rn is j)) cid wc) H.size))
    (hw : is.map (fun i => ws[i]?) = (wc.map (g_re is)).map some) (hlen : wc1.length = wc.length) (hA : ∀ q, s.heap.size ≤ q → A q) (hP : va_P D vwCl (g_mk ad cid ws) H) (hD : va_D A (g_mk ad cid ws)) (hS : va_S A s.heap H locs)
    (kk : ∀ (H1 : Heap) (locs1 : List Loc), va_P D vwCl (g_mk ad cid (g_pt is (wc1.map (g_re is)) ws)) H1 → va_D A (g_mk ad cid (g_pt is (wc1.map (g_re is)) ws)) → va_S A s.heap H1 locs1 → W p l e R s m args below meth c H1 locs1 k n Q (F0 m (pc + 3) ls ((r1.map (g_tv (fun j => ad (g_rn is j)))).toList ++ rest0))) :
    W p l e R s m args below meth c H locs k n Q (F0 m pc ls st0) := by
  intro T hT X
  obtain ⟨v, st₀, t, T', L, h0, X', hL, e1, e2, ⟨⟨ad', hq', hv, hP1, hK1, hD1⟩, hz, hk⟩, st⟩ := hr T hT X
  have hF := va_free (wc := g_mk (fun j => ad (g_rn is j)) cid wc) hD hS hA is (g_sub hw)
  rw [g_eq_all hq'] at hv hP1 hD1
  cases hv
  rw [h0] at hz hk
  have hlw : is.length = (wc1.map (g_re is)).length := by
    have := congrArg List.length hw
    simp at this
    simp [this, hlen]
  have hP2 : va_P D vwCl (g_mk ad cid (g_pt is (wc1.map (g_re is)) ws)) t.heap := by
    intro i q hq
    obtain ⟨e0, h1, rfl⟩ := g_get' ad cid hq
    rcases g_pt_get is _ ws i e0 h1 hlw with ⟨j, h2, h3⟩ | ⟨h2, h3⟩
    · rw [List.getElem?_map, Option.map_eq_some_iff] at h3
      obtain ⟨e3, h4, rfl⟩ := h3
      have h5 := hP1 j _ (g_get _ cid h4)
      have hr9 : g_rn is j = i := by simp [g_rn, h2]
      rw [g_re, g_te_te]
      rw [hr9] at h5
      exact h5
    · have h4 := hP i _ (g_get ad cid h3)
      have h5 := h4.lt
      refine h4.kept ?_
      refine hk _ h5 (fun hA1 => ?_)
      rcases hA1 with ⟨j, e3, h6⟩ | h6
      · obtain ⟨e4, h7, h8⟩ := g_get' _ cid h6
        have h9 : is[j]? = some (g_rn is j) := by
          have := (List.getElem?_eq_some_iff.mp h7).1
          have hj : j < is.length := by
            have h10 := congrArg List.length hw
            simp at h10
            omega
          simp [g_rn, List.getElem?_eq_getElem hj]
        have h10 := g_sub (ad := ad) (cid := cid) hw
        have h11 := congrArg (fun l => l[j]?) h10
        simp only [List.getElem?_map, h9, Option.map_some, g_get (fun j => ad (g_rn is j)) cid h7, Option.some.injEq] at h11
        have h12 := hD.1 i (g_rn is j) _ _ (g_get ad cid h3) h11 (by simpa using (congrArg Prod.fst h8))
        exact h2 (h12 ▸ List.mem_of_getElem? h9)
      · exact absurd h5 (Nat.not_lt.mpr h6)
  obtain ⟨t2, a1, b1⟩ := kk T'.heap (locs ++ L) (by rw [e1]; exact hP2) (g_D_len (g_pt_len _ _ _) hD)
    ⟨Nat.le_trans hS.1 (by rw [e1]; exact hz), fun q h1 h2 => by rw [e1, hk q (Nat.lt_of_lt_of_le h1 hS.1) (fun z => h2 (hF q z))]; exact hS.2.1 q h1 h2, fun q hq => by
      rcases List.mem_append.mp hq with h | h
      · exact hS.2.2 q h
      · exact hF _ (hL q h)⟩ T' rfl X'
  exact ⟨t2, st t2 a1, b1⟩
end GCall
/-- what a call of y stands on, but the worlds: a static call, a call on an object, one of a private method of the nest -/
def g_cs (M : g_M) (idx : Nat) (M1 : g_M) (y : MethodName) (n : Nat) : Prop := Cond.methodLink M.2.2.1 idx y ∈ TT ∧ Cond.static y ∈ TT ∧ Cond.initialized y.cls ∈ TT ∧ Cond.code y M1.1 M1.2.1 M1.2.2.2.1 ∈ TT ∧ (M1.2.2.2.2.1.cells = 0 ∧ M1.2.2.2.2.1.slots = 0 ∧ M1.2.2.2.2.2.1 = 0 ∧ M1.2.2.2.2.2.2 = 0) ∧ (y.cls ≠ "java/lang/invoke/MethodHandle" ∧ y.cls ≠ "java/lang/invoke/VarHandle" ∧ (parseMethodDescriptor y.desc).map (fun d => d.parameters.length) = some n) ∧ (M1.2.2.2.2.1.frames + 1 ≤ M.2.2.2.2.1.frames ∧ 8 + (M1.2.1 + 11) + M1.2.2.2.2.1.locals ≤ M.2.2.2.2.1.locals)
def g_cv (M : g_M) (idx : Nat) (M1 : g_M) (y : MethodName) (n : Nat) : Prop := Cond.methodLink M.2.2.1 idx y ∈ TT ∧ Cond.instanceMethod y ∈ TT ∧ Cond.selects y.cls y y ∈ TT ∧ Cond.initialized y.cls ∈ TT ∧ Cond.code y M1.1 M1.2.1 M1.2.2.2.1 ∈ TT ∧ (M1.2.2.2.2.1.cells = 0 ∧ M1.2.2.2.2.1.slots = 0 ∧ M1.2.2.2.2.2.1 = 0 ∧ M1.2.2.2.2.2.2 = 0) ∧ (y.cls ≠ "java/lang/invoke/MethodHandle" ∧ y.cls ≠ "java/lang/invoke/VarHandle" ∧ (parseMethodDescriptor y.desc).map (fun d => d.parameters.length) = some n) ∧ (M1.2.2.2.2.1.frames + 1 ≤ M.2.2.2.2.1.frames ∧ 8 + (M1.2.1 + 11) + M1.2.2.2.2.1.locals ≤ M.2.2.2.2.1.locals)
def g_csn (M : g_M) (idx : Nat) (M1 : g_M) (y : MethodName) (n : Nat) : Prop := Cond.methodLinkNest M.2.2.1 idx y "TimedThreads" ∈ g_nn ∧ Cond.static y ∈ TT ∧ Cond.initialized y.cls ∈ TT ∧ Cond.code y M1.1 M1.2.1 M1.2.2.2.1 ∈ TT ∧ (M1.2.2.2.2.1.cells = 0 ∧ M1.2.2.2.2.1.slots = 0 ∧ M1.2.2.2.2.2.1 = 0 ∧ M1.2.2.2.2.2.2 = 0) ∧ (y.cls ≠ "java/lang/invoke/MethodHandle" ∧ y.cls ≠ "java/lang/invoke/VarHandle" ∧ (parseMethodDescriptor y.desc).map (fun d => d.parameters.length) = some n) ∧ (M1.2.2.2.2.1.frames + 1 ≤ M.2.2.2.2.1.frames ∧ 8 + (M1.2.1 + 11) + M1.2.2.2.2.1.locals ≤ M.2.2.2.2.1.locals)
theorem g_blind (D : va_G) (cid : Nat → ClassId) (ad : Nat → Nat) (sz : Nat) (as : List Value) (ws : List va_E) : FrameBlind (g_Pc D cid ad sz as ws) := fun a U g mk q => by
  obtain ⟨q0, q1, qP, qK, qD, qB, qN⟩ := q
  exact ⟨q0, q1, qP, va_K.moved (u := U) (U := U.calling g mk a) (Vm.Alike.refl U.vm) qK, qD, g_B.moved (u := U) (U := U.calling g mk a) (Vm.Alike.refl U.vm) qB, g_N.same (u := U) (U := U.calling g mk a) rfl qN⟩
theorem g_pre {M : g_M} {p : Program} {s : State} {m : MethodId} {args : Array Value} {meth : Method} {c : Code} {D : va_G} {cid : Nat → ClassId} {A : Nat → Prop} {n0 : Nat} {ad0 ad : Nat → Nat} {H : Heap} {locs : List Loc} {ws wc : List va_E} {is : List Nat} {as : List Value} {As : List Value}
    (C : g_Cx M p s m args meth c D cid A ad0) (hq : g_eq n0 ad ad0) (hP : va_P D vwCl (g_mk ad cid ws) H) (hD : va_D A (g_mk ad cid ws)) (hS : va_S A s.heap H locs)
    (hw : is.map (fun i => ws[i]?) = (wc.map (g_re is)).map some) (hnd : va_nd is = true) (hle : is.length ≤ 1000) (hAs : As = as.map (g_tv (fun j => ad (g_rn is j)))) :
    ∀ U : State, U.heap = H → s.WarmedH U.vm → g_Pc D cid (fun j => ad (g_rn is j)) H.size as wc As.toArray U := by
  intro U hU hW
  have hF := va_free (wc := g_mk (fun j => ad (g_rn is j)) cid wc) hD hS C.2.2.2.2.2.2.2.2.1 is (g_sub hw)
  subst hAs
  refine ⟨rfl, by rw [hU], ?_, va_K.moved hW.alike C.2.2.2.2.2.2.2.1, ?_, ?_, g_N.warm hW C.2.2.2.2.2.2.2.2.2.2⟩
  · rw [hU]
    intro j q hj
    have h := congrArg (fun l => l[j]?) (g_sub (ad := ad) (cid := cid) hw)
    simp only [List.getElem?_map, hj, Option.map_some] at h
    cases hi : is[j]? with
    | none => rw [hi] at h; simp at h
    | some i =>
      rw [hi] at h
      simp only [Option.map_some, Option.some.injEq] at h
      exact hP i q h
  · exact (hD.sub is hnd (g_sub hw)).weaken (fun _ _ _ _ => trivial)
  · have h1 := C.2.2.2.2.2.2.2.2.2.1.kept hS.2.1
    have h2 := (h1.narrow hF).moved hW.alike
    rw [hU]
    refine h2.at (fun i hi => ?_)
    have : g_rn is i = i := by
      have : is[i]? = none := by simp; omega
      simp [g_rn, this]
    rw [this, hq i (Or.inr hi)]
theorem G.callS {M : g_M} {k n pc : Nat} {lv : List (Nat × Value)} {st : List Value} {ws : List va_E} {r : Option Value} {ws' : List va_E} {M1 : g_M} {y : MethodName} {as rest : List Value} {wc wc1 ws1 : List va_E} {r1 : Option Value} {st1 : List Value} {idx : Nat} (is : List Nat) (hd : decode M.1 pc = .ok (.invokestatic idx, 3)) (hc : g_cs M idx M1 y as.length) (hM : K M1 y as wc r1 wc1) (hst : (as.map (g_rv is)).reverse ++ rest = st) (hw : is.map (fun i => ws[i]?) = (wc.map (g_re is)).map some) (hnd : (va_nd is && Nat.ble is.length 1000 && Nat.beq wc1.length wc.length) = true) (hk9 : Nat.ble k M.2.2.2.2.1.cells = true) (hn9 : Nat.ble n M.2.2.2.2.1.slots = true) (hcat : Nat.ble (rest.map fun v => v.category).sum 8 = true) (hs1 : (r1.map (g_rv is)).toList ++ rest = st1) (hw1 : g_pt is (wc1.map (g_re is)) ws = ws1) (kk : G M k n (pc + 3) lv st1 ws1 r ws') : G M k n pc lv st ws r ws' := by
  intro p l e s m args below meth c D cid A n0 ad0 C ad ls H locs hq hl hP hD hS
  simp only [Bool.and_eq_true] at hnd
  obtain ⟨⟨hnd1, hnd2⟩, hnd3⟩ := hnd
  have hK := hM l D cid (fun j => ad (g_rn is j)) H.size
  obtain ⟨c1, c2, c3, c4, ⟨c5, c6, c7, c8⟩, c9, c10⟩ := hc
  rw [show g_n0 M1 wc = 1000 by simp [g_n0, c7], c7, c8] at hK
  have hcw := va_cwS (R := M.2.2.2.2.1) (s := s) (args := args) (own := M.2.2.1) (index := idx) (y := y) (bytes := M1.1) (maxL := M1.2.1) (ret := M1.2.2.2.1) (Ts := TT) (ws := Cond.code y M1.1 M1.2.1 M1.2.2.2.1 :: TT) (ws' := TT) (rm := M1.2.2.2.2.1) as.length C.2.2.2.2.2.1 (tg_in (fun w h => by
    simp only [va_wsS, List.mem_append, List.mem_cons, List.not_mem_nil, or_false] at h
    rcases h with (rfl | rfl | rfl) | rfl | h <;> first | assumption)) rfl c5 c6 c9 c10
  subst hst
  refine g_after (ad := ad) (is := is) (ws := ws) (va_runS (As := as.map (g_tv (fun j => ad (g_rn is j)))) (rest := rest.map (g_tv ad)) (nL := M.2.1) (Ts := TT) ⟨C.1, C.2.1, C.2.2.2.1, C.2.2.2.2.1, C.2.2.2.2.2.1⟩ hK hcw ⟨g_blind _ _ _ _ _ _, g_pre C hq hP hD hS hw hnd1 (Nat.le_of_ble_eq_true hnd2) rfl⟩ rfl (by simp) hl.1 (by simp [g_rv, g_tv_tv, Function.comp_def]) (lv_room (by rw [List.map_map]; simp only [Function.comp_def, g_catv]; exact Nat.le_of_ble_eq_true hcat)) hd ⟨?_, ?_⟩) hw (Nat.eq_of_beq_eq_true hnd3) C.2.2.2.2.2.2.2.2.1 hP hD hS ?_
  · exact Nat.le_of_ble_eq_true hk9
  · exact Nat.le_of_ble_eq_true hn9
  · intro H locs hP hD hS
    rw [hw1] at hP hD
    have h9 := kk p l e s m args below meth c D cid A n0 ad0 C ad ls H locs hq hl hP hD hS
    rw [← hs1, show ((r1.map (g_rv is)).toList ++ rest).map (g_tv ad) = (r1.map (g_tv (fun j => ad (g_rn is j)))).toList ++ rest.map (g_tv ad) by cases r1 <;> simp [g_rv, g_tv_tv]] at h9
    exact h9
theorem G.callV {M : g_M} {k n pc : Nat} {lv : List (Nat × Value)} {st : List Value} {ws : List va_E} {r : Option Value} {ws' : List va_E} {M1 : g_M} {y : MethodName} {as rest : List Value} {wc wc1 ws1 : List va_E} {r1 : Option Value} {st1 : List Value} {idx : Nat} {j0 ci : Nat} {fs : List Value} {T0 : u_T} {N0 : Nat} (is : List Nat) (hd : decode M.1 pc = .ok (.invokevirtual idx, 3)) (hc : g_cv M idx M1 y as.length) (hM : K M1 y (.ref j0 :: as) wc r1 wc1) (hj : wc[j0]? = some (.inr (ci, fs))) (hcl : vwCl[ci]? = some (y.cls, T0, N0)) (hst : (as.map (g_rv is)).reverse ++ .ref (g_rn is j0) :: rest = st) (hw : is.map (fun i => ws[i]?) = (wc.map (g_re is)).map some) (hnd : (va_nd is && Nat.ble is.length 1000 && Nat.beq wc1.length wc.length) = true) (hk9 : Nat.ble k M.2.2.2.2.1.cells = true) (hn9 : Nat.ble n M.2.2.2.2.1.slots = true) (hcat : Nat.ble (rest.map fun v => v.category).sum 8 = true) (hs1 : (r1.map (g_rv is)).toList ++ rest = st1) (hw1 : g_pt is (wc1.map (g_re is)) ws = ws1) (kk : G M k n (pc + 3) lv st1 ws1 r ws') : G M k n pc lv st ws r ws' := by
  intro p l e s m args below meth c D cid A n0 ad0 C ad ls H locs hq hl hP hD hS
  simp only [Bool.and_eq_true] at hnd
  obtain ⟨⟨hnd1, hnd2⟩, hnd3⟩ := hnd
  have hK := hM l D cid (fun j => ad (g_rn is j)) H.size
  obtain ⟨c1, c2, c2b, c3, c4, ⟨c5, c6, c7, c8⟩, c9, c10⟩ := hc
  rw [show g_n0 M1 wc = 1000 by simp [g_n0, c7], c7, c8] at hK
  have hcw := cwV (R := M.2.2.2.2.1) (s := s) (args := args) (own := M.2.2.1) (C := y.cls) (index := idx) (y := y) (bytes := M1.1) (maxL := M1.2.1) (ret := M1.2.2.2.1) (Ts := TT) (ws := Cond.code y M1.1 M1.2.1 M1.2.2.2.1 :: TT) (ws' := TT) (rm := M1.2.2.2.2.1) as.length C.2.2.2.2.2.1 (tg_in (fun w h => by
    simp only [wsV, List.mem_append, List.mem_cons, List.not_mem_nil, or_false] at h
    rcases h with (rfl | rfl | rfl | rfl) | rfl | h <;> first | assumption)) rfl c5 c6 ⟨rfl, c9⟩ c10
  subst hst
  have hpre := g_pre (as := .ref j0 :: as) C hq hP hD hS hw hnd1 (Nat.le_of_ble_eq_true hnd2) rfl
  have hrecv : ∃ cellB : Cell, H[ad (g_rn is j0)]? = some cellB ∧ cellB.vm.isStatics = false ∧ s.vm.findClass y.cls = some cellB.cls := by
    have h := congrArg (fun l => l[j0]?) (g_sub (ad := ad) (cid := cid) hw)
    simp only [List.getElem?_map, g_get (fun j => ad (g_rn is j)) cid hj, Option.map_some] at h
    cases hi : is[j0]? with
    | none => rw [hi] at h; simp at h
    | some i =>
      rw [hi] at h
      simp only [Option.map_some, Option.some.injEq] at h
      exact va_recv C.2.2.2.2.2.2.2.1 hP hcl h
  refine g_after (ad := ad) (is := is) (ws := ws) (va_runV (b := ad (g_rn is j0)) (C := y.cls) (As := as.map (g_tv (fun j => ad (g_rn is j)))) (rest := rest.map (g_tv ad)) (nL := M.2.1) (Ts := TT) ⟨C.1, C.2.1, C.2.2.2.1, C.2.2.2.2.1, C.2.2.2.2.2.1⟩ hK hcw ⟨g_blind _ _ _ _ _ _, hrecv, hpre⟩ rfl (by simp) hl.1 (by simp only [List.map_append, List.map_reverse, List.map_map, List.map_cons, g_rv, Function.comp_def, g_tv_tv]; rfl) (lv_room (by rw [List.map_map]; simp only [Function.comp_def, g_catv]; exact Nat.le_of_ble_eq_true hcat)) hd ⟨?_, ?_⟩) hw (Nat.eq_of_beq_eq_true hnd3) C.2.2.2.2.2.2.2.2.1 hP hD hS ?_
  · exact Nat.le_of_ble_eq_true hk9
  · exact Nat.le_of_ble_eq_true hn9
  · intro H locs hP hD hS
    rw [hw1] at hP hD
    have h9 := kk p l e s m args below meth c D cid A n0 ad0 C ad ls H locs hq hl hP hD hS
    rw [← hs1, show ((r1.map (g_rv is)).toList ++ rest).map (g_tv ad) = (r1.map (g_tv (fun j => ad (g_rn is j)))).toList ++ rest.map (g_tv ad) by cases r1 <;> simp [g_rv, g_tv_tv]] at h9
    exact h9
theorem G.callSN {M : g_M} {k n pc : Nat} {lv : List (Nat × Value)} {st : List Value} {ws : List va_E} {r : Option Value} {ws' : List va_E} {M1 : g_M} {y : MethodName} {as rest : List Value} {wc wc1 ws1 : List va_E} {r1 : Option Value} {st1 : List Value} {idx : Nat} (is : List Nat) (hd : decode M.1 pc = .ok (.invokestatic idx, 3)) (hc : g_csn M idx M1 y as.length) (hM : K M1 y as wc r1 wc1) (hst : (as.map (g_rv is)).reverse ++ rest = st) (hw : is.map (fun i => ws[i]?) = (wc.map (g_re is)).map some) (hnd : (va_nd is && Nat.ble is.length 1000 && Nat.beq wc1.length wc.length) = true) (hk9 : Nat.ble k M.2.2.2.2.1.cells = true) (hn9 : Nat.ble n M.2.2.2.2.1.slots = true) (hcat : Nat.ble (rest.map fun v => v.category).sum 8 = true) (hs1 : (r1.map (g_rv is)).toList ++ rest = st1) (hw1 : g_pt is (wc1.map (g_re is)) ws = ws1) (kk : G M k n (pc + 3) lv st1 ws1 r ws') : G M k n pc lv st ws r ws' := by
  intro p l e s m args below meth c D cid A n0 ad0 C ad ls H locs hq hl hP hD hS
  simp only [Bool.and_eq_true] at hnd
  obtain ⟨⟨hnd1, hnd2⟩, hnd3⟩ := hnd
  have hK := hM l D cid (fun j => ad (g_rn is j)) H.size
  obtain ⟨c1, c2, c3, c4, ⟨c5, c6, c7, c8⟩, c9, c10⟩ := hc
  rw [show g_n0 M1 wc = 1000 by simp [g_n0, c7], c7, c8] at hK
  have hcw := va_cnB (R := M.2.2.2.2.1) (s := s) (args := args) (own := M.2.2.1) (host := "TimedThreads") (index := idx) (y := y) (bytes := M1.1) (maxL := M1.2.1) (ret := M1.2.2.2.1) (Ts := TT) (ws := Cond.code y M1.1 M1.2.1 M1.2.2.2.1 :: TT) (ws' := TT) (rm := M1.2.2.2.2.1) as.length C.2.2.2.2.2.1 (tg_in (fun w h => by
    simp only [List.mem_cons] at h
    rcases h with rfl | h <;> assumption)) rfl c5 c6 (C.2.2.2.2.2.2.2.2.2.2 _ c1) (C.2.2.2.2.2.1 _ c3) c9 c10
  subst hst
  refine g_after (ad := ad) (is := is) (ws := ws) (va_runSN (As := as.map (g_tv (fun j => ad (g_rn is j)))) (rest := rest.map (g_tv ad)) (nL := M.2.1) (Ts := TT) ⟨C.1, C.2.1, C.2.2.2.1, C.2.2.2.2.1, C.2.2.2.2.2.1⟩ hK ⟨hcw, C.2.2.2.2.2.1 _ c2, trivial⟩ ⟨g_blind _ _ _ _ _ _, g_pre C hq hP hD hS hw hnd1 (Nat.le_of_ble_eq_true hnd2) rfl⟩ rfl (by simp) hl.1 (by simp [g_rv, g_tv_tv, Function.comp_def]) (lv_room (by rw [List.map_map]; simp only [Function.comp_def, g_catv]; exact Nat.le_of_ble_eq_true hcat)) hd ⟨?_, ?_⟩) hw (Nat.eq_of_beq_eq_true hnd3) C.2.2.2.2.2.2.2.2.1 hP hD hS ?_
  · exact Nat.le_of_ble_eq_true hk9
  · exact Nat.le_of_ble_eq_true hn9
  · intro H locs hP hD hS
    rw [hw1] at hP hD
    have h9 := kk p l e s m args below meth c D cid A n0 ad0 C ad ls H locs hq hl hP hD hS
    rw [← hs1, show ((r1.map (g_rv is)).toList ++ rest).map (g_tv ad) = (r1.map (g_tv (fun j => ad (g_rn is j)))).toList ++ rest.map (g_tv ad) by cases r1 <;> simp [g_rv, g_tv_tv]] at h9
    exact h9
section GCall0
variable {p : Program} {l : Launch} {e : Env} {R : Room} {s : State} {m : MethodId} {args : Array Value} {below : List Frame} {meth : Method} {c : Code} {H : Heap} {locs : List Loc} {Q : State → Prop}
theorem g_free0 {cid : Nat → ClassId} {A : Nat → Prop} {ad : Nat → Nat} {ws : List va_E} (hA : ∀ q, s.heap.size ≤ q → A q) (hD : va_D A (g_mk ad cid ws)) (hS : va_S A s.heap H locs) : ∀ q, va_A (g_mk ad cid ws) H.size q → A q := by
  intro q h
  rcases h with ⟨k, e, h⟩ | h
  · exact hD.2 k (q, e) h
  · exact hA q (Nat.le_trans hS.1 h)
theorem g_after0 {k n pc : Nat} {ls : Array Slot} {st0 rest0 : List Value} {a : Array Value} {D : va_G} {cid : Nat → ClassId} {A : Nat → Prop} {ad : Nat → Nat} {ws wc1 : List va_E} {r1 : Option Value}
    (hr : va_Run p l e R s m args below meth c H locs k n 0 0 (F0 m pc ls st0) rest0 (g_Q D cid (va_A (g_mk ad cid ws) H.size) 1000 ad r1 wc1 a) (va_A (g_mk ad cid ws) H.size))
    (hlen : wc1.length = ws.length) (hA : ∀ q, s.heap.size ≤ q → A q) (hD : va_D A (g_mk ad cid ws)) (hS : va_S A s.heap H locs)
    (kk : ∀ (H1 : Heap) (locs1 : List Loc), va_P D vwCl (g_mk ad cid wc1) H1 → va_D A (g_mk ad cid wc1) → va_S A s.heap H1 locs1 → W p l e R s m args below meth c H1 locs1 k n Q (F0 m (pc + 3) ls ((r1.map (g_tv ad)).toList ++ rest0))) :
    W p l e R s m args below meth c H locs k n Q (F0 m pc ls st0) := by
  intro T hT X
  obtain ⟨v, st₀, t, T', L, h0, X', hL, e1, e2, ⟨⟨ad', hq', hv, hP1, hK1, hD1⟩, hz, hk⟩, st⟩ := hr T hT X
  have hF := g_free0 (s := s) hA hD hS
  rw [g_eq_all hq'] at hv hP1 hD1
  cases hv
  rw [h0] at hz hk
  obtain ⟨t2, a1, b1⟩ := kk T'.heap (locs ++ L) (by rw [e1]; exact hP1) (g_D_len hlen hD)
    ⟨Nat.le_trans hS.1 (by rw [e1]; exact hz), fun q h1 h2 => by rw [e1, hk q (Nat.lt_of_lt_of_le h1 hS.1) (fun z => h2 (hF q z))]; exact hS.2.1 q h1 h2, fun q hq => by
      rcases List.mem_append.mp hq with h | h
      · exact hS.2.2 q h
      · exact hF _ (hL q h)⟩ T' rfl X'
  exact ⟨t2, st t2 a1, b1⟩
end GCall0
theorem g_pre0 {M : g_M} {p : Program} {s : State} {m : MethodId} {args : Array Value} {meth : Method} {c : Code} {D : va_G} {cid : Nat → ClassId} {A : Nat → Prop} {n0 : Nat} {ad0 ad : Nat → Nat} {H : Heap} {locs : List Loc} {ws : List va_E} {as : List Value}
    (C : g_Cx M p s m args meth c D cid A ad0) (hq : g_eq n0 ad ad0) (hP : va_P D vwCl (g_mk ad cid ws) H) (hD : va_D A (g_mk ad cid ws)) (hS : va_S A s.heap H locs) :
    ∀ U : State, U.heap = H → s.WarmedH U.vm → g_Pc D cid ad H.size as ws (as.map (g_tv ad)).toArray U := by
  intro U hU hW
  have hF := g_free0 (s := s) C.2.2.2.2.2.2.2.2.1 hD hS
  refine ⟨rfl, by rw [hU], by rw [hU]; exact hP, va_K.moved hW.alike C.2.2.2.2.2.2.2.1, hD.weaken (fun _ _ _ _ => trivial), ?_, g_N.warm hW C.2.2.2.2.2.2.2.2.2.2⟩
  have h1 := C.2.2.2.2.2.2.2.2.2.1.kept hS.2.1
  have h2 := (h1.narrow hF).moved hW.alike
  rw [hU]
  exact h2.at (fun i hi => hq i (Or.inr hi))
theorem G.callS0 {M : g_M} {k n pc : Nat} {lv : List (Nat × Value)} {st : List Value} {ws : List va_E} {r : Option Value} {ws' : List va_E} {M1 : g_M} {y : MethodName} {as rest : List Value} {wc1 : List va_E} {r1 : Option Value} {st1 : List Value} {idx : Nat} (hd : decode M.1 pc = .ok (.invokestatic idx, 3)) (hc : g_cs M idx M1 y as.length) (hM : K M1 y as ws r1 wc1) (hst : as.reverse ++ rest = st) (hnd : Nat.beq wc1.length ws.length = true) (hk9 : Nat.ble k M.2.2.2.2.1.cells = true) (hn9 : Nat.ble n M.2.2.2.2.1.slots = true) (hcat : Nat.ble (rest.map fun v => v.category).sum 8 = true) (hs1 : r1.toList ++ rest = st1) (kk : G M k n (pc + 3) lv st1 wc1 r ws') : G M k n pc lv st ws r ws' := by
  intro p l e s m args below meth c D cid A n0 ad0 C ad ls H locs hq hl hP hD hS
  have hK := hM l D cid ad H.size
  obtain ⟨c1, c2, c3, c4, ⟨c5, c6, c7, c8⟩, c9, c10⟩ := hc
  rw [show g_n0 M1 ws = 1000 by simp [g_n0, c7], c7, c8] at hK
  have hcw := va_cwS (R := M.2.2.2.2.1) (s := s) (args := args) (own := M.2.2.1) (index := idx) (y := y) (bytes := M1.1) (maxL := M1.2.1) (ret := M1.2.2.2.1) (Ts := TT) (ws := Cond.code y M1.1 M1.2.1 M1.2.2.2.1 :: TT) (ws' := TT) (rm := M1.2.2.2.2.1) as.length C.2.2.2.2.2.1 (tg_in (fun w h => by
    simp only [va_wsS, List.mem_append, List.mem_cons, List.not_mem_nil, or_false] at h
    rcases h with (rfl | rfl | rfl) | rfl | h <;> first | assumption)) rfl c5 c6 c9 c10
  subst hst
  refine g_after0 (ad := ad) (ws := ws) (va_runS (As := as.map (g_tv ad)) (rest := rest.map (g_tv ad)) (nL := M.2.1) (Ts := TT) ⟨C.1, C.2.1, C.2.2.2.1, C.2.2.2.2.1, C.2.2.2.2.2.1⟩ hK hcw ⟨g_blind _ _ _ _ _ _, g_pre0 C hq hP hD hS⟩ rfl (by simp) hl.1 (by simp) (lv_room (by rw [List.map_map]; simp only [Function.comp_def, g_catv]; exact Nat.le_of_ble_eq_true hcat)) hd ⟨?_, ?_⟩) (Nat.eq_of_beq_eq_true hnd) C.2.2.2.2.2.2.2.2.1 hD hS ?_
  · exact Nat.le_of_ble_eq_true hk9
  · exact Nat.le_of_ble_eq_true hn9
  · intro H locs hP hD hS
    have h9 := kk p l e s m args below meth c D cid A n0 ad0 C ad ls H locs hq hl hP hD hS
    rw [← hs1, show (r1.toList ++ rest).map (g_tv ad) = (r1.map (g_tv ad)).toList ++ rest.map (g_tv ad) by cases r1 <;> simp] at h9
    exact h9
theorem G.callV0 {M : g_M} {k n pc : Nat} {lv : List (Nat × Value)} {st : List Value} {ws : List va_E} {r : Option Value} {ws' : List va_E} {M1 : g_M} {y : MethodName} {as rest : List Value} {wc1 : List va_E} {r1 : Option Value} {st1 : List Value} {idx : Nat} {j0 ci : Nat} {fs : List Value} {T0 : u_T} {N0 : Nat} (hd : decode M.1 pc = .ok (.invokevirtual idx, 3)) (hc : g_cv M idx M1 y as.length) (hM : K M1 y (.ref j0 :: as) ws r1 wc1) (hj : ws[j0]? = some (.inr (ci, fs))) (hcl : vwCl[ci]? = some (y.cls, T0, N0)) (hst : as.reverse ++ .ref j0 :: rest = st) (hnd : Nat.beq wc1.length ws.length = true) (hk9 : Nat.ble k M.2.2.2.2.1.cells = true) (hn9 : Nat.ble n M.2.2.2.2.1.slots = true) (hcat : Nat.ble (rest.map fun v => v.category).sum 8 = true) (hs1 : r1.toList ++ rest = st1) (kk : G M k n (pc + 3) lv st1 wc1 r ws') : G M k n pc lv st ws r ws' := by
  intro p l e s m args below meth c D cid A n0 ad0 C ad ls H locs hq hl hP hD hS
  have hK := hM l D cid ad H.size
  obtain ⟨c1, c2, c2b, c3, c4, ⟨c5, c6, c7, c8⟩, c9, c10⟩ := hc
  rw [show g_n0 M1 ws = 1000 by simp [g_n0, c7], c7, c8] at hK
  have hcw := cwV (R := M.2.2.2.2.1) (s := s) (args := args) (own := M.2.2.1) (C := y.cls) (index := idx) (y := y) (bytes := M1.1) (maxL := M1.2.1) (ret := M1.2.2.2.1) (Ts := TT) (ws := Cond.code y M1.1 M1.2.1 M1.2.2.2.1 :: TT) (ws' := TT) (rm := M1.2.2.2.2.1) as.length C.2.2.2.2.2.1 (tg_in (fun w h => by
    simp only [wsV, List.mem_append, List.mem_cons, List.not_mem_nil, or_false] at h
    rcases h with (rfl | rfl | rfl | rfl) | rfl | h <;> first | assumption)) rfl c5 c6 ⟨rfl, c9⟩ c10
  subst hst
  refine g_after0 (ad := ad) (ws := ws) (va_runV (b := ad j0) (C := y.cls) (As := as.map (g_tv ad)) (rest := rest.map (g_tv ad)) (nL := M.2.1) (Ts := TT) ⟨C.1, C.2.1, C.2.2.2.1, C.2.2.2.2.1, C.2.2.2.2.2.1⟩ hK hcw ⟨g_blind _ _ _ _ _ _, va_recv C.2.2.2.2.2.2.2.1 hP hcl (g_get ad cid hj), g_pre0 (as := .ref j0 :: as) C hq hP hD hS⟩ rfl (by simp) hl.1 (by simp [g_tv]) (lv_room (by rw [List.map_map]; simp only [Function.comp_def, g_catv]; exact Nat.le_of_ble_eq_true hcat)) hd ⟨?_, ?_⟩) (Nat.eq_of_beq_eq_true hnd) C.2.2.2.2.2.2.2.2.1 hD hS ?_
  · exact Nat.le_of_ble_eq_true hk9
  · exact Nat.le_of_ble_eq_true hn9
  · intro H locs hP hD hS
    have h9 := kk p l e s m args below meth c D cid A n0 ad0 C ad ls H locs hq hl hP hD hS
    rw [← hs1, show (r1.toList ++ rest).map (g_tv ad) = (r1.map (g_tv ad)).toList ++ rest.map (g_tv ad) by cases r1 <;> simp] at h9
    exact h9
end
section
theorem qb_m2 : (Int8.ofInt (-2)).toInt32 = (-2) := by decide
theorem qb_6 : (Int8.ofInt 6).toInt32 = 6 := by decide
theorem qb_7 : (Int8.ofInt 7).toInt32 = 7 := by decide
theorem qb_8 : (Int8.ofInt 8).toInt32 = 8 := by decide
theorem qb_9 : (Int8.ofInt 9).toInt32 = 9 := by decide
theorem qb_10 : (Int8.ofInt 10).toInt32 = 10 := by decide
theorem qb_11 : (Int8.ofInt 11).toInt32 = 11 := by decide
theorem qb_12 : (Int8.ofInt 12).toInt32 = 12 := by decide
theorem qb_14 : (Int8.ofInt 14).toInt32 = 14 := by decide
theorem qb_15 : (Int8.ofInt 15).toInt32 = 15 := by decide
theorem qb_16 : (Int8.ofInt 16).toInt32 = 16 := by decide
theorem qb_20 : (Int8.ofInt 20).toInt32 = 20 := by decide
theorem qb_21 : (Int8.ofInt 21).toInt32 = 21 := by decide
theorem qb_24 : (Int8.ofInt 24).toInt32 = 24 := by decide
theorem qb_25 : (Int8.ofInt 25).toInt32 = 25 := by decide
theorem qb_30 : (Int8.ofInt 30).toInt32 = 30 := by decide
theorem qb_31 : (Int8.ofInt 31).toInt32 = 31 := by decide
theorem qb_32 : (Int8.ofInt 32).toInt32 = 32 := by decide
theorem qb_40 : (Int8.ofInt 40).toInt32 = 40 := by decide
theorem qb_41 : (Int8.ofInt 41).toInt32 = 41 := by decide
theorem qb_44 : (Int8.ofInt 44).toInt32 = 44 := by decide
theorem qb_45 : (Int8.ofInt 45).toInt32 = 45 := by decide
theorem qb_48 : (Int8.ofInt 48).toInt32 = 48 := by decide
theorem qb_51 : (Int8.ofInt 51).toInt32 = 51 := by decide
theorem qb_57 : (Int8.ofInt 57).toInt32 = 57 := by decide
theorem qb_58 : (Int8.ofInt 58).toInt32 = 58 := by decide
theorem qb_59 : (Int8.ofInt 59).toInt32 = 59 := by decide
theorem qb_63 : (Int8.ofInt 63).toInt32 = 63 := by decide
theorem qb_64 : (Int8.ofInt 64).toInt32 = 64 := by decide
theorem qb_97 : (Int8.ofInt 97).toInt32 = 97 := by decide
theorem qb_98 : (Int8.ofInt 98).toInt32 = 98 := by decide
theorem qb_106 : (Int8.ofInt 106).toInt32 = 106 := by decide
theorem qb_111 : (Int8.ofInt 111).toInt32 = 111 := by decide
theorem qb_115 : (Int8.ofInt 115).toInt32 = 115 := by decide
theorem qb_120 : (Int8.ofInt 120).toInt32 = 120 := by decide
theorem qb_122 : (Int8.ofInt 122).toInt32 = 122 := by decide
theorem qb_126 : (Int8.ofInt 126).toInt32 = 126 := by decide
theorem qb_127 : (Int8.ofInt 127).toInt32 = 127 := by decide
theorem qi_m1 : Int32.ofInt (-1) = (-1) := by decide
theorem qi_0 : Int32.ofInt 0 = 0 := by decide
theorem qi_1 : Int32.ofInt 1 = 1 := by decide
theorem qi_2 : Int32.ofInt 2 = 2 := by decide
theorem qi_3 : Int32.ofInt 3 = 3 := by decide
theorem qi_4 : Int32.ofInt 4 = 4 := by decide
theorem qi_5 : Int32.ofInt 5 = 5 := by decide
theorem qs_m4096 : (Int16.ofInt (-4096)).toInt32 = (-4096) := by decide
theorem qs_128 : (Int16.ofInt 128).toInt32 = 128 := by decide
theorem qs_185 : (Int16.ofInt 185).toInt32 = 185 := by decide
theorem qs_192 : (Int16.ofInt 192).toInt32 = 192 := by decide
theorem qs_255 : (Int16.ofInt 255).toInt32 = 255 := by decide
theorem qs_306 : (Int16.ofInt 306).toInt32 = 306 := by decide
theorem qs_400 : (Int16.ofInt 400).toInt32 = 400 := by decide
theorem qs_401 : (Int16.ofInt 401).toInt32 = 401 := by decide
theorem qs_512 : (Int16.ofInt 512).toInt32 = 512 := by decide
theorem qs_564 : (Int16.ofInt 564).toInt32 = 564 := by decide
theorem qs_817 : (Int16.ofInt 817).toInt32 = 817 := by decide
theorem qs_887 : (Int16.ofInt 887).toInt32 = 887 := by decide
theorem qs_1023 : (Int16.ofInt 1023).toInt32 = 1023 := by decide
theorem qs_1589 : (Int16.ofInt 1589).toInt32 = 1589 := by decide
theorem qs_1651 : (Int16.ofInt 1651).toInt32 = 1651 := by decide
theorem qs_1782 : (Int16.ofInt 1782).toInt32 = 1782 := by decide
theorem qs_1851 : (Int16.ofInt 1851).toInt32 = 1851 := by decide
theorem qs_2000 : (Int16.ofInt 2000).toInt32 = 2000 := by decide
theorem qs_2016 : (Int16.ofInt 2016).toInt32 = 2016 := by decide
theorem qs_2046 : (Int16.ofInt 2046).toInt32 = 2046 := by decide
theorem qs_2048 : (Int16.ofInt 2048).toInt32 = 2048 := by decide
theorem qs_2234 : (Int16.ofInt 2234).toInt32 = 2234 := by decide
theorem qs_2360 : (Int16.ofInt 2360).toInt32 = 2360 := by decide
theorem qs_2865 : (Int16.ofInt 2865).toInt32 = 2865 := by decide
theorem qs_3637 : (Int16.ofInt 3637).toInt32 = 3637 := by decide
theorem qs_4094 : (Int16.ofInt 4094).toInt32 = 4094 := by decide
theorem qs_4096 : (Int16.ofInt 4096).toInt32 = 4096 := by decide
theorem qs_4147 : (Int16.ofInt 4147).toInt32 = 4147 := by decide
theorem qs_4402 : (Int16.ofInt 4402).toInt32 = 4402 := by decide
theorem qs_4660 : (Int16.ofInt 4660).toInt32 = 4660 := by decide
theorem qs_4913 : (Int16.ofInt 4913).toInt32 = 4913 := by decide
theorem qs_6450 : (Int16.ofInt 6450).toInt32 = 6450 := by decide
theorem qs_6961 : (Int16.ofInt 6961).toInt32 = 6961 := by decide
theorem qs_8243 : (Int16.ofInt 8243).toInt32 = 8243 := by decide
theorem qs_8498 : (Int16.ofInt 8498).toInt32 = 8498 := by decide
theorem qs_9009 : (Int16.ofInt 9009).toInt32 = 9009 := by decide
theorem qs_9781 : (Int16.ofInt 9781).toInt32 = 9781 := by decide
theorem qs_10552 : (Int16.ofInt 10552).toInt32 = 10552 := by decide
theorem qs_11057 : (Int16.ofInt 11057).toInt32 = 11057 := by decide
theorem qs_11829 : (Int16.ofInt 11829).toInt32 = 11829 := by decide
theorem qs_12594 : (Int16.ofInt 12594).toInt32 = 12594 := by decide
theorem qs_13105 : (Int16.ofInt 13105).toInt32 = 13105 := by decide
theorem qs_13877 : (Int16.ofInt 13877).toInt32 = 13877 := by decide
theorem qs_14642 : (Int16.ofInt 14642).toInt32 = 14642 := by decide
theorem qs_15153 : (Int16.ofInt 15153).toInt32 = 15153 := by decide
theorem qs_15925 : (Int16.ofInt 15925).toInt32 = 15925 := by decide
theorem gf_X0_9 : g_F RX0 9 0 0 := ⟨_, _, _, rfl, by decide, tin_wsX00, tw75⟩
theorem gf_X0_15 : g_F RX0 15 0 4 := ⟨_, _, _, rfl, by decide, tin_wsX00, tw76⟩
theorem gf_X0_19 : g_F RX0 19 0 5 := ⟨_, _, _, rfl, by decide, tin_wsX00, tw77⟩
theorem gf_X0_25 : g_F RX0 25 0 6 := ⟨_, _, _, rfl, by decide, tin_wsX00, tw81⟩
theorem gf_X0_32 : g_F RX0 32 0 7 := ⟨_, _, _, rfl, by decide, tin_wsX00, tw85⟩
theorem gf_X0_40 : g_F RX0 40 0 8 := ⟨_, _, _, rfl, by decide, tin_wsX00, tw198⟩
theorem gw_X0_40 : g_Fw RX0 40 0 8 (tyX0 8) := ⟨_, _, _, tyX0, rfl, by decide, tin_wsX00, tw198, tyX0_ok, nmX0, rfl, tyX0_ok 8 (by decide)⟩
theorem gf_X0_44 : g_F RX0 44 0 1 := ⟨_, _, _, rfl, by decide, tin_wsX00, tw199⟩
theorem gw_X0_44 : g_Fw RX0 44 0 1 (tyX0 1) := ⟨_, _, _, tyX0, rfl, by decide, tin_wsX00, tw199, tyX0_ok, nmX0, rfl, tyX0_ok 1 (by decide)⟩
theorem gf_X0_47 : g_F RX0 47 2 0 := ⟨_, _, _, rfl, by decide, tin_wsX30, tw200⟩
theorem gw_X0_47 : g_Fw RX0 47 2 0 (tyX3 0) := ⟨_, _, _, tyX3, rfl, by decide, tin_wsX30, tw200, tyX3_ok, nmX3, rfl, tyX3_ok 0 (by decide)⟩
theorem gf_X0_48 : g_F RX0 48 0 2 := ⟨_, _, _, rfl, by decide, tin_wsX00, tw201⟩
theorem gw_X0_48 : g_Fw RX0 48 0 2 (tyX0 2) := ⟨_, _, _, tyX0, rfl, by decide, tin_wsX00, tw201, tyX0_ok, nmX0, rfl, tyX0_ok 2 (by decide)⟩
theorem gf_X0_51 : g_F RX0 51 0 3 := ⟨_, _, _, rfl, by decide, tin_wsX00, tw202⟩
theorem gw_X0_51 : g_Fw RX0 51 0 3 (tyX0 3) := ⟨_, _, _, tyX0, rfl, by decide, tin_wsX00, tw202, tyX0_ok, nmX0, rfl, tyX0_ok 3 (by decide)⟩
theorem gf_X0_76 : g_F RX0 76 0 9 := ⟨_, _, _, rfl, by decide, tin_wsX00, tw257⟩
theorem gw_X0_76 : g_Fw RX0 76 0 9 (tyX0 9) := ⟨_, _, _, tyX0, rfl, by decide, tin_wsX00, tw257, tyX0_ok, nmX0, rfl, tyX0_ok 9 (by decide)⟩
theorem gf_X0_80 : g_F RX0 80 0 10 := ⟨_, _, _, rfl, by decide, tin_wsX00, tw258⟩
theorem gw_X0_80 : g_Fw RX0 80 0 10 (tyX0 10) := ⟨_, _, _, tyX0, rfl, by decide, tin_wsX00, tw258, tyX0_ok, nmX0, rfl, tyX0_ok 10 (by decide)⟩
theorem gf_X0_84 : g_F RX0 84 0 11 := ⟨_, _, _, rfl, by decide, tin_wsX00, tw259⟩
theorem gw_X0_84 : g_Fw RX0 84 0 11 (tyX0 11) := ⟨_, _, _, tyX0, rfl, by decide, tin_wsX00, tw259, tyX0_ok, nmX0, rfl, tyX0_ok 11 (by decide)⟩
theorem gf_X0_87 : g_F RX0 87 0 12 := ⟨_, _, _, rfl, by decide, tin_wsX00, tw260⟩
theorem gw_X0_87 : g_Fw RX0 87 0 12 (tyX0 12) := ⟨_, _, _, tyX0, rfl, by decide, tin_wsX00, tw260, tyX0_ok, nmX0, rfl, tyX0_ok 12 (by decide)⟩
theorem gf_X0_90 : g_F RX0 90 0 13 := ⟨_, _, _, rfl, by decide, tin_wsX00, tw261⟩
theorem gw_X0_90 : g_Fw RX0 90 0 13 (tyX0 13) := ⟨_, _, _, tyX0, rfl, by decide, tin_wsX00, tw261, tyX0_ok, nmX0, rfl, tyX0_ok 13 (by decide)⟩
theorem gf_X0_93 : g_F RX0 93 0 14 := ⟨_, _, _, rfl, by decide, tin_wsX00, tw262⟩
theorem gw_X0_93 : g_Fw RX0 93 0 14 (tyX0 14) := ⟨_, _, _, tyX0, rfl, by decide, tin_wsX00, tw262, tyX0_ok, nmX0, rfl, tyX0_ok 14 (by decide)⟩
theorem gf_X10_23 : g_F RX10 23 7 0 := ⟨_, _, _, rfl, by decide, tin_wsX100, tw28⟩
theorem gf_X10_29 : g_F RX10 29 7 1 := ⟨_, _, _, rfl, by decide, tin_wsX100, tw30⟩
theorem gf_X10_37 : g_F RX10 37 7 2 := ⟨_, _, _, rfl, by decide, tin_wsX100, tw36⟩
theorem gf_X10_44 : g_F RX10 44 7 3 := ⟨_, _, _, rfl, by decide, tin_wsX100, tw40⟩
theorem gf_X10_55 : g_F RX10 55 4 1 := ⟨_, _, _, rfl, by decide, tin_wsX70, tw132⟩
theorem gw_X10_55 : g_Fw RX10 55 4 1 (tyX7 1) := ⟨_, _, _, tyX7, rfl, by decide, tin_wsX70, tw132, tyX7_ok, nmX7, rfl, tyX7_ok 1 (by decide)⟩
theorem gf_X10_77 : g_F RX10 77 0 2 := ⟨_, _, _, rfl, by decide, tin_wsX00, tw180⟩
theorem gw_X10_77 : g_Fw RX10 77 0 2 (tyX0 2) := ⟨_, _, _, tyX0, rfl, by decide, tin_wsX00, tw180, tyX0_ok, nmX0, rfl, tyX0_ok 2 (by decide)⟩
theorem gf_X10_80 : g_F RX10 80 0 0 := ⟨_, _, _, rfl, by decide, tin_wsX00, tw181⟩
theorem gf_X10_84 : g_F RX10 84 5 1 := ⟨_, _, _, rfl, by decide, tin_wsX80, tw182⟩
theorem gf_X10_87 : g_F RX10 87 0 1 := ⟨_, _, _, rfl, by decide, tin_wsX00, tw183⟩
theorem gw_X10_87 : g_Fw RX10 87 0 1 (tyX0 1) := ⟨_, _, _, tyX0, rfl, by decide, tin_wsX00, tw183, tyX0_ok, nmX0, rfl, tyX0_ok 1 (by decide)⟩
theorem gf_X10_96 : g_F RX10 96 0 3 := ⟨_, _, _, rfl, by decide, tin_wsX00, tw544⟩
theorem gw_X10_96 : g_Fw RX10 96 0 3 (tyX0 3) := ⟨_, _, _, tyX0, rfl, by decide, tin_wsX00, tw544, tyX0_ok, nmX0, rfl, tyX0_ok 3 (by decide)⟩
theorem gf_X10_99 : g_F RX10 99 3 0 := ⟨_, _, _, rfl, by decide, tin_wsX60, tw569⟩
theorem gf_X10_104 : g_F RX10 104 5 3 := ⟨_, _, _, rfl, by decide, tin_wsX80, tw578⟩
theorem gw_X10_104 : g_Fw RX10 104 5 3 (tyX8 3) := ⟨_, _, _, tyX8, rfl, by decide, tin_wsX80, tw578, tyX8_ok, nmX8, rfl, tyX8_ok 3 (by decide)⟩
theorem gf_X10_107 : g_F RX10 107 5 4 := ⟨_, _, _, rfl, by decide, tin_wsX80, tw579⟩
theorem gw_X10_107 : g_Fw RX10 107 5 4 (tyX8 4) := ⟨_, _, _, tyX8, rfl, by decide, tin_wsX80, tw579, tyX8_ok, nmX8, rfl, tyX8_ok 4 (by decide)⟩
theorem gf_X10_110 : g_F RX10 110 7 4 := ⟨_, _, _, rfl, by decide, tin_wsX100, tw588⟩
theorem gw_X10_110 : g_Fw RX10 110 7 4 (tyX10 4) := ⟨_, _, _, tyX10, rfl, by decide, tin_wsX100, tw588, tyX10_ok, nmX10, rfl, tyX10_ok 4 (by decide)⟩
theorem gf_X10_127 : g_F RX10 127 5 0 := ⟨_, _, _, rfl, by decide, tin_wsX80, tw844⟩
theorem gf_X10_134 : g_F RX10 134 5 2 := ⟨_, _, _, rfl, by decide, tin_wsX80, tw867⟩
theorem gf_X11_7 : g_F RX11 7 8 3 := ⟨_, _, _, rfl, by decide, tin_wsX110, tw100⟩
theorem gw_X11_7 : g_Fw RX11 7 8 3 (tyX11 3) := ⟨_, _, _, tyX11, rfl, by decide, tin_wsX110, tw100, tyX11_ok, nmX11, rfl, tyX11_ok 3 (by decide)⟩
theorem gf_X11_13 : g_F RX11 13 8 14 := ⟨_, _, _, rfl, by decide, tin_wsX110, tw101⟩
theorem gw_X11_13 : g_Fw RX11 13 8 14 (tyX11 14) := ⟨_, _, _, tyX11, rfl, by decide, tin_wsX110, tw101, tyX11_ok, nmX11, rfl, tyX11_ok 14 (by decide)⟩
theorem gf_X11_17 : g_F RX11 17 8 15 := ⟨_, _, _, rfl, by decide, tin_wsX110, tw102⟩
theorem gw_X11_17 : g_Fw RX11 17 8 15 (tyX11 15) := ⟨_, _, _, tyX11, rfl, by decide, tin_wsX110, tw102, tyX11_ok, nmX11, rfl, tyX11_ok 15 (by decide)⟩
theorem gf_X11_21 : g_F RX11 21 8 16 := ⟨_, _, _, rfl, by decide, tin_wsX110, tw103⟩
theorem gw_X11_21 : g_Fw RX11 21 8 16 (tyX11 16) := ⟨_, _, _, tyX11, rfl, by decide, tin_wsX110, tw103, tyX11_ok, nmX11, rfl, tyX11_ok 16 (by decide)⟩
theorem gf_X11_24 : g_F RX11 24 8 17 := ⟨_, _, _, rfl, by decide, tin_wsX110, tw104⟩
theorem gw_X11_24 : g_Fw RX11 24 8 17 (tyX11 17) := ⟨_, _, _, tyX11, rfl, by decide, tin_wsX110, tw104, tyX11_ok, nmX11, rfl, tyX11_ok 17 (by decide)⟩
theorem gf_X11_27 : g_F RX11 27 8 18 := ⟨_, _, _, rfl, by decide, tin_wsX110, tw105⟩
theorem gw_X11_27 : g_Fw RX11 27 8 18 (tyX11 18) := ⟨_, _, _, tyX11, rfl, by decide, tin_wsX110, tw105, tyX11_ok, nmX11, rfl, tyX11_ok 18 (by decide)⟩
theorem gf_X11_30 : g_F RX11 30 8 19 := ⟨_, _, _, rfl, by decide, tin_wsX110, tw106⟩
theorem gw_X11_30 : g_Fw RX11 30 8 19 (tyX11 19) := ⟨_, _, _, tyX11, rfl, by decide, tin_wsX110, tw106, tyX11_ok, nmX11, rfl, tyX11_ok 19 (by decide)⟩
theorem gf_X11_33 : g_F RX11 33 8 20 := ⟨_, _, _, rfl, by decide, tin_wsX110, tw107⟩
theorem gw_X11_33 : g_Fw RX11 33 8 20 (tyX11 20) := ⟨_, _, _, tyX11, rfl, by decide, tin_wsX110, tw107, tyX11_ok, nmX11, rfl, tyX11_ok 20 (by decide)⟩
theorem gf_X11_36 : g_F RX11 36 8 21 := ⟨_, _, _, rfl, by decide, tin_wsX110, tw108⟩
theorem gw_X11_36 : g_Fw RX11 36 8 21 (tyX11 21) := ⟨_, _, _, tyX11, rfl, by decide, tin_wsX110, tw108, tyX11_ok, nmX11, rfl, tyX11_ok 21 (by decide)⟩
theorem gf_X11_39 : g_F RX11 39 8 22 := ⟨_, _, _, rfl, by decide, tin_wsX110, tw109⟩
theorem gw_X11_39 : g_Fw RX11 39 8 22 (tyX11 22) := ⟨_, _, _, tyX11, rfl, by decide, tin_wsX110, tw109, tyX11_ok, nmX11, rfl, tyX11_ok 22 (by decide)⟩
theorem gf_X11_42 : g_F RX11 42 8 23 := ⟨_, _, _, rfl, by decide, tin_wsX110, tw110⟩
theorem gw_X11_42 : g_Fw RX11 42 8 23 (tyX11 23) := ⟨_, _, _, tyX11, rfl, by decide, tin_wsX110, tw110, tyX11_ok, nmX11, rfl, tyX11_ok 23 (by decide)⟩
theorem gf_X11_45 : g_F RX11 45 8 24 := ⟨_, _, _, rfl, by decide, tin_wsX110, tw111⟩
theorem gw_X11_45 : g_Fw RX11 45 8 24 (tyX11 24) := ⟨_, _, _, tyX11, rfl, by decide, tin_wsX110, tw111, tyX11_ok, nmX11, rfl, tyX11_ok 24 (by decide)⟩
theorem gf_X11_48 : g_F RX11 48 8 25 := ⟨_, _, _, rfl, by decide, tin_wsX110, tw112⟩
theorem gw_X11_48 : g_Fw RX11 48 8 25 (tyX11 25) := ⟨_, _, _, tyX11, rfl, by decide, tin_wsX110, tw112, tyX11_ok, nmX11, rfl, tyX11_ok 25 (by decide)⟩
theorem gf_X11_51 : g_F RX11 51 8 26 := ⟨_, _, _, rfl, by decide, tin_wsX110, tw113⟩
theorem gw_X11_51 : g_Fw RX11 51 8 26 (tyX11 26) := ⟨_, _, _, tyX11, rfl, by decide, tin_wsX110, tw113, tyX11_ok, nmX11, rfl, tyX11_ok 26 (by decide)⟩
theorem gf_X11_54 : g_F RX11 54 8 27 := ⟨_, _, _, rfl, by decide, tin_wsX110, tw114⟩
theorem gw_X11_54 : g_Fw RX11 54 8 27 (tyX11 27) := ⟨_, _, _, tyX11, rfl, by decide, tin_wsX110, tw114, tyX11_ok, nmX11, rfl, tyX11_ok 27 (by decide)⟩
theorem gf_X11_57 : g_F RX11 57 8 28 := ⟨_, _, _, rfl, by decide, tin_wsX110, tw115⟩
theorem gw_X11_57 : g_Fw RX11 57 8 28 (tyX11 28) := ⟨_, _, _, tyX11, rfl, by decide, tin_wsX110, tw115, tyX11_ok, nmX11, rfl, tyX11_ok 28 (by decide)⟩
theorem gf_X11_60 : g_F RX11 60 8 29 := ⟨_, _, _, rfl, by decide, tin_wsX110, tw116⟩
theorem gw_X11_60 : g_Fw RX11 60 8 29 (tyX11 29) := ⟨_, _, _, tyX11, rfl, by decide, tin_wsX110, tw116, tyX11_ok, nmX11, rfl, tyX11_ok 29 (by decide)⟩
theorem gf_X11_63 : g_F RX11 63 8 30 := ⟨_, _, _, rfl, by decide, tin_wsX110, tw117⟩
theorem gw_X11_63 : g_Fw RX11 63 8 30 (tyX11 30) := ⟨_, _, _, tyX11, rfl, by decide, tin_wsX110, tw117, tyX11_ok, nmX11, rfl, tyX11_ok 30 (by decide)⟩
theorem gf_X11_66 : g_F RX11 66 8 1 := ⟨_, _, _, rfl, by decide, tin_wsX110, tw118⟩
theorem gw_X11_66 : g_Fw RX11 66 8 1 (tyX11 1) := ⟨_, _, _, tyX11, rfl, by decide, tin_wsX110, tw118, tyX11_ok, nmX11, rfl, tyX11_ok 1 (by decide)⟩
theorem gf_X11_70 : g_F RX11 70 8 0 := ⟨_, _, _, rfl, by decide, tin_wsX110, tw151⟩
theorem gw_X11_70 : g_Fw RX11 70 8 0 (tyX11 0) := ⟨_, _, _, tyX11, rfl, by decide, tin_wsX110, tw151, tyX11_ok, nmX11, rfl, tyX11_ok 0 (by decide)⟩
theorem gf_X11_85 : g_F RX11 85 8 4 := ⟨_, _, _, rfl, by decide, tin_wsX110, tw150⟩
theorem gw_X11_85 : g_Fw RX11 85 8 4 (tyX11 4) := ⟨_, _, _, tyX11, rfl, by decide, tin_wsX110, tw150, tyX11_ok, nmX11, rfl, tyX11_ok 4 (by decide)⟩
theorem gf_X11_88 : g_F RX11 88 8 5 := ⟨_, _, _, rfl, by decide, tin_wsX110, tw403⟩
theorem gw_X11_88 : g_Fw RX11 88 8 5 (tyX11 5) := ⟨_, _, _, tyX11, rfl, by decide, tin_wsX110, tw403, tyX11_ok, nmX11, rfl, tyX11_ok 5 (by decide)⟩
theorem gf_X11_102 : g_F RX11 102 8 12 := ⟨_, _, _, rfl, by decide, tin_wsX110, tw418⟩
theorem gw_X11_102 : g_Fw RX11 102 8 12 (tyX11 12) := ⟨_, _, _, tyX11, rfl, by decide, tin_wsX110, tw418, tyX11_ok, nmX11, rfl, tyX11_ok 12 (by decide)⟩
theorem gf_X11_111 : g_F RX11 111 8 13 := ⟨_, _, _, rfl, by decide, tin_wsX110, tw419⟩
theorem gw_X11_111 : g_Fw RX11 111 8 13 (tyX11 13) := ⟨_, _, _, tyX11, rfl, by decide, tin_wsX110, tw419, tyX11_ok, nmX11, rfl, tyX11_ok 13 (by decide)⟩
theorem gf_X11_199 : g_F RX11 199 8 11 := ⟨_, _, _, rfl, by decide, tin_wsX110, tw407⟩
theorem gw_X11_199 : g_Fw RX11 199 8 11 (tyX11 11) := ⟨_, _, _, tyX11, rfl, by decide, tin_wsX110, tw407, tyX11_ok, nmX11, rfl, tyX11_ok 11 (by decide)⟩
theorem gf_X11_202 : g_F RX11 202 8 9 := ⟨_, _, _, rfl, by decide, tin_wsX110, tw405⟩
theorem gw_X11_202 : g_Fw RX11 202 8 9 (tyX11 9) := ⟨_, _, _, tyX11, rfl, by decide, tin_wsX110, tw405, tyX11_ok, nmX11, rfl, tyX11_ok 9 (by decide)⟩
theorem gf_X11_205 : g_F RX11 205 8 8 := ⟨_, _, _, rfl, by decide, tin_wsX110, tw404⟩
theorem gw_X11_205 : g_Fw RX11 205 8 8 (tyX11 8) := ⟨_, _, _, tyX11, rfl, by decide, tin_wsX110, tw404, tyX11_ok, nmX11, rfl, tyX11_ok 8 (by decide)⟩
theorem gf_X11_256 : g_F RX11 256 8 10 := ⟨_, _, _, rfl, by decide, tin_wsX110, tw406⟩
theorem gw_X11_256 : g_Fw RX11 256 8 10 (tyX11 10) := ⟨_, _, _, tyX11, rfl, by decide, tin_wsX110, tw406, tyX11_ok, nmX11, rfl, tyX11_ok 10 (by decide)⟩
theorem gf_X11_273 : g_F RX11 273 8 6 := ⟨_, _, _, rfl, by decide, tin_wsX110, tw408⟩
theorem gw_X11_273 : g_Fw RX11 273 8 6 (tyX11 6) := ⟨_, _, _, tyX11, rfl, by decide, tin_wsX110, tw408, tyX11_ok, nmX11, rfl, tyX11_ok 6 (by decide)⟩
theorem gf_X11_276 : g_F RX11 276 8 7 := ⟨_, _, _, rfl, by decide, tin_wsX110, tw409⟩
theorem gw_X11_276 : g_Fw RX11 276 8 7 (tyX11 7) := ⟨_, _, _, tyX11, rfl, by decide, tin_wsX110, tw409, tyX11_ok, nmX11, rfl, tyX11_ok 7 (by decide)⟩
theorem gf_X11_291 : g_F RX11 291 8 2 := ⟨_, _, _, rfl, by decide, tin_wsX110, tw599⟩
theorem gw_X11_291 : g_Fw RX11 291 8 2 (tyX11 2) := ⟨_, _, _, tyX11, rfl, by decide, tin_wsX110, tw599, tyX11_ok, nmX11, rfl, tyX11_ok 2 (by decide)⟩
theorem gf_X2_9 : g_F RX2 9 1 1 := ⟨_, _, _, rfl, by decide, tin_wsX20, tw64⟩
theorem gf_X2_15 : g_F RX2 15 1 2 := ⟨_, _, _, rfl, by decide, tin_wsX20, tw65⟩
theorem gf_X2_18 : g_F RX2 18 1 3 := ⟨_, _, _, rfl, by decide, tin_wsX20, tw66⟩
theorem gf_X2_21 : g_F RX2 21 1 0 := ⟨_, _, _, rfl, by decide, tin_wsX20, tw756⟩
theorem gw_X2_21 : g_Fw RX2 21 1 0 (tyX2 0) := ⟨_, _, _, tyX2, rfl, by decide, tin_wsX20, tw756, tyX2_ok, nmX2, rfl, tyX2_ok 0 (by decide)⟩
theorem gf_X3_9 : g_F RX3 9 2 1 := ⟨_, _, _, rfl, by decide, tin_wsX30, tw89⟩
theorem gf_X3_15 : g_F RX3 15 2 2 := ⟨_, _, _, rfl, by decide, tin_wsX30, tw90⟩
theorem gf_X3_19 : g_F RX3 19 2 0 := ⟨_, _, _, rfl, by decide, tin_wsX30, tw379⟩
theorem gw_X3_19 : g_Fw RX3 19 2 0 (tyX3 0) := ⟨_, _, _, tyX3, rfl, by decide, tin_wsX30, tw379, tyX3_ok, nmX3, rfl, tyX3_ok 0 (by decide)⟩
theorem gf_X6_9 : g_F RX6 9 3 0 := ⟨_, _, _, rfl, by decide, tin_wsX60, tw46⟩
theorem gf_X6_15 : g_F RX6 15 3 1 := ⟨_, _, _, rfl, by decide, tin_wsX60, tw47⟩
theorem gf_X7_9 : g_F RX7 9 4 0 := ⟨_, _, _, rfl, by decide, tin_wsX70, tw71⟩
theorem gf_X7_19 : g_F RX7 19 4 1 := ⟨_, _, _, rfl, by decide, tin_wsX70, tw144⟩
theorem gw_X7_19 : g_Fw RX7 19 4 1 (tyX7 1) := ⟨_, _, _, tyX7, rfl, by decide, tin_wsX70, tw144, tyX7_ok, nmX7, rfl, tyX7_ok 1 (by decide)⟩
theorem gf_X8_9 : g_F RX8 9 5 0 := ⟨_, _, _, rfl, by decide, tin_wsX80, tw52⟩
theorem gf_X8_15 : g_F RX8 15 5 1 := ⟨_, _, _, rfl, by decide, tin_wsX80, tw53⟩
theorem gf_X8_21 : g_F RX8 21 5 2 := ⟨_, _, _, rfl, by decide, tin_wsX80, tw57⟩
theorem gf_X8_25 : g_F RX8 25 5 6 := ⟨_, _, _, rfl, by decide, tin_wsX80, tw58⟩
theorem gf_X8_28 : g_F RX8 28 5 7 := ⟨_, _, _, rfl, by decide, tin_wsX80, tw59⟩
theorem gw_X8_28 : g_Fw RX8 28 5 7 (tyX8 7) := ⟨_, _, _, tyX8, rfl, by decide, tin_wsX80, tw59, tyX8_ok, nmX8, rfl, tyX8_ok 7 (by decide)⟩
theorem gf_X8_32 : g_F RX8 32 5 5 := ⟨_, _, _, rfl, by decide, tin_wsX80, tw60⟩
theorem gf_X8_35 : g_F RX8 35 5 8 := ⟨_, _, _, rfl, by decide, tin_wsX80, tw593⟩
theorem gw_X8_35 : g_Fw RX8 35 5 8 (tyX8 8) := ⟨_, _, _, tyX8, rfl, by decide, tin_wsX80, tw593, tyX8_ok, nmX8, rfl, tyX8_ok 8 (by decide)⟩
theorem gf_X8_38 : g_F RX8 38 5 9 := ⟨_, _, _, rfl, by decide, tin_wsX80, tw594⟩
theorem gw_X8_38 : g_Fw RX8 38 5 9 (tyX8 9) := ⟨_, _, _, tyX8, rfl, by decide, tin_wsX80, tw594, tyX8_ok, nmX8, rfl, tyX8_ok 9 (by decide)⟩
theorem gf_X8_41 : g_F RX8 41 1 0 := ⟨_, _, _, rfl, by decide, tin_wsX20, tw858⟩
theorem gw_X8_41 : g_Fw RX8 41 1 0 (tyX2 0) := ⟨_, _, _, tyX2, rfl, by decide, tin_wsX20, tw858, tyX2_ok, nmX2, rfl, tyX2_ok 0 (by decide)⟩
theorem gf_X8_57 : g_F RX8 57 5 11 := ⟨_, _, _, rfl, by decide, tin_wsX80, tw614⟩
theorem gw_X8_57 : g_Fw RX8 57 5 11 (tyX8 11) := ⟨_, _, _, tyX8, rfl, by decide, tin_wsX80, tw614, tyX8_ok, nmX8, rfl, tyX8_ok 11 (by decide)⟩
theorem gf_X8_64 : g_F RX8 64 5 10 := ⟨_, _, _, rfl, by decide, tin_wsX80, tw615⟩
theorem gw_X8_64 : g_Fw RX8 64 5 10 (tyX8 10) := ⟨_, _, _, tyX8, rfl, by decide, tin_wsX80, tw615, tyX8_ok, nmX8, rfl, tyX8_ok 10 (by decide)⟩
theorem gf_X8_174 : g_F RX8 174 5 3 := ⟨_, _, _, rfl, by decide, tin_wsX80, tw688⟩
theorem gw_X8_174 : g_Fw RX8 174 5 3 (tyX8 3) := ⟨_, _, _, tyX8, rfl, by decide, tin_wsX80, tw688, tyX8_ok, nmX8, rfl, tyX8_ok 3 (by decide)⟩
theorem gf_X8_177 : g_F RX8 177 5 4 := ⟨_, _, _, rfl, by decide, tin_wsX80, tw689⟩
theorem gw_X8_177 : g_Fw RX8 177 5 4 (tyX8 4) := ⟨_, _, _, tyX8, rfl, by decide, tin_wsX80, tw689, tyX8_ok, nmX8, rfl, tyX8_ok 4 (by decide)⟩
theorem gf_X8_180 : g_F RX8 180 3 0 := ⟨_, _, _, rfl, by decide, tin_wsX60, tw694⟩
theorem gf_X9_9 : g_F RX9 9 6 0 := ⟨_, _, _, rfl, by decide, tin_wsX90, tw94⟩
theorem gf_X9_15 : g_F RX9 15 6 1 := ⟨_, _, _, rfl, by decide, tin_wsX90, tw95⟩
theorem gf_X9_19 : g_F RX9 19 4 0 := ⟨_, _, _, rfl, by decide, tin_wsX70, tw207⟩
theorem gf_X9_24 : g_F RX9 24 6 3 := ⟨_, _, _, rfl, by decide, tin_wsX90, tw208⟩
theorem gw_X9_24 : g_Fw RX9 24 6 3 (tyX9 3) := ⟨_, _, _, tyX9, rfl, by decide, tin_wsX90, tw208, tyX9_ok, nmX9, rfl, tyX9_ok 3 (by decide)⟩
theorem gf_X9_25 : g_F RX9 25 4 1 := ⟨_, _, _, rfl, by decide, tin_wsX70, tw209⟩
theorem gw_X9_25 : g_Fw RX9 25 4 1 (tyX7 1) := ⟨_, _, _, tyX7, rfl, by decide, tin_wsX70, tw209, tyX7_ok, nmX7, rfl, tyX7_ok 1 (by decide)⟩
theorem gf_X9_29 : g_F RX9 29 6 4 := ⟨_, _, _, rfl, by decide, tin_wsX90, tw210⟩
theorem gw_X9_29 : g_Fw RX9 29 6 4 (tyX9 4) := ⟨_, _, _, tyX9, rfl, by decide, tin_wsX90, tw210, tyX9_ok, nmX9, rfl, tyX9_ok 4 (by decide)⟩
theorem gf_X9_30 : g_F RX9 30 6 2 := ⟨_, _, _, rfl, by decide, tin_wsX90, tw211⟩
theorem gw_X9_30 : g_Fw RX9 30 6 2 (tyX9 2) := ⟨_, _, _, tyX9, rfl, by decide, tin_wsX90, tw211, tyX9_ok, nmX9, rfl, tyX9_ok 2 (by decide)⟩
theorem gf_X9_33 : g_F RX9 33 6 5 := ⟨_, _, _, rfl, by decide, tin_wsX90, tw212⟩
theorem gw_X9_33 : g_Fw RX9 33 6 5 (tyX9 5) := ⟨_, _, _, tyX9, rfl, by decide, tin_wsX90, tw212, tyX9_ok, nmX9, rfl, tyX9_ok 5 (by decide)⟩
end
section
theorem G.mmax {M : g_M} {k n pc : Nat} {lv : List (Nat × Value)} {st : List Value} {ws : List va_E} {r : Option Value} {ws' : List va_E} {idx : Nat} {x y : Int32} (hd : decode M.1 pc = .ok (.invokestatic idx, 3)) (h1 : Cond.methodLink M.2.2.1 idx Lib.Math.max.name ∈ TT) (h2 : Cond.static Lib.Math.max.name ∈ TT) (h3 : Cond.initialized "java/lang/Math" ∈ TT) (h4 : Cond.code Lib.Math.max.name Lib.Math.max.code 2 (some .int) ∈ TT) (hR : (Nat.ble 1 M.2.2.2.2.1.frames && Nat.ble ((st.map fun v => v.category).sum + 13) M.2.2.2.2.1.locals && Nat.ble k M.2.2.2.2.1.cells && Nat.ble n M.2.2.2.2.1.slots) = true) (kk : G M k n (pc + 3) lv (.int (if x < y then y else x) :: st) ws r ws') : G M k n pc lv (.int y :: .int x :: st) ws r ws' := by
  intro p l e s m args below meth c D cid A n0 ad0 C ad ls H locs hq hl hP hD hS
  simp only [Bool.and_eq_true] at hR
  obtain ⟨⟨⟨hR1, hR2⟩, hR3⟩, hR4⟩ := hR
  exact va_mmax C.1 C.2.1 (C.2.2.2.1.trans hl.1.symm) C.2.2.2.2.1 (C.2.2.2.2.2.1 _ h1) (C.2.2.2.2.2.1 _ h2) (C.2.2.2.2.2.1 _ h3) (C.2.2.2.2.2.1 _ h4) (Nat.le_of_ble_eq_true hR1) (by rw [List.map_map]; simp only [Function.comp_def, g_catv]; exact Nat.le_of_ble_eq_true hR2) (Nat.le_of_ble_eq_true hR3) (Nat.le_of_ble_eq_true hR4) hd (kk p l e s m args below meth c D cid A n0 ad0 C ad ls H locs hq hl hP hD hS)
theorem G.mmin {M : g_M} {k n pc : Nat} {lv : List (Nat × Value)} {st : List Value} {ws : List va_E} {r : Option Value} {ws' : List va_E} {idx : Nat} {x y : Int32} (hd : decode M.1 pc = .ok (.invokestatic idx, 3)) (h1 : Cond.methodLink M.2.2.1 idx Lib.Math.min.name ∈ TT) (h2 : Cond.static Lib.Math.min.name ∈ TT) (h3 : Cond.initialized "java/lang/Math" ∈ TT) (h4 : Cond.code Lib.Math.min.name Lib.Math.min.code 2 (some .int) ∈ TT) (hR : (Nat.ble 1 M.2.2.2.2.1.frames && Nat.ble ((st.map fun v => v.category).sum + 13) M.2.2.2.2.1.locals && Nat.ble k M.2.2.2.2.1.cells && Nat.ble n M.2.2.2.2.1.slots) = true) (kk : G M k n (pc + 3) lv (.int (if y < x then y else x) :: st) ws r ws') : G M k n pc lv (.int y :: .int x :: st) ws r ws' := by
  intro p l e s m args below meth c D cid A n0 ad0 C ad ls H locs hq hl hP hD hS
  simp only [Bool.and_eq_true] at hR
  obtain ⟨⟨⟨hR1, hR2⟩, hR3⟩, hR4⟩ := hR
  exact va_mmin C.1 C.2.1 (C.2.2.2.1.trans hl.1.symm) C.2.2.2.2.1 (C.2.2.2.2.2.1 _ h1) (C.2.2.2.2.2.1 _ h2) (C.2.2.2.2.2.1 _ h3) (C.2.2.2.2.2.1 _ h4) (Nat.le_of_ble_eq_true hR1) (by rw [List.map_map]; simp only [Function.comp_def, g_catv]; exact Nat.le_of_ble_eq_true hR2) (Nat.le_of_ble_eq_true hR3) (Nat.le_of_ble_eq_true hR4) hd (kk p l e s m args below meth c D cid A n0 ad0 C ad ls H locs hq hl hP hD hS)
theorem G.lmax {M : g_M} {k n pc : Nat} {lv : List (Nat × Value)} {st : List Value} {ws : List va_E} {r : Option Value} {ws' : List va_E} {idx : Nat} {x y : Int64} (hd : decode M.1 pc = .ok (.invokestatic idx, 3)) (h1 : Cond.methodLink M.2.2.1 idx Lib.MathLoose.max_long.x ∈ TT) (h2 : Cond.static Lib.MathLoose.max_long.x ∈ TT) (h3 : Cond.initialized "java/lang/Math" ∈ TT) (h4 : Cond.code Lib.MathLoose.max_long.x Lib.MathLoose.max_long.code 4 (some .long) ∈ TT) (hR : (Nat.ble 1 M.2.2.2.2.1.frames && Nat.ble ((st.map fun v => v.category).sum + 15) M.2.2.2.2.1.locals && Nat.ble k M.2.2.2.2.1.cells && Nat.ble n M.2.2.2.2.1.slots) = true) (kk : G M k n (pc + 3) lv (.long (if y < x then x else y) :: st) ws r ws') : G M k n pc lv (.long y :: .long x :: st) ws r ws' := by
  intro p l e s m args below meth c D cid A n0 ad0 C ad ls H locs hq hl hP hD hS
  simp only [Bool.and_eq_true] at hR
  obtain ⟨⟨⟨hR1, hR2⟩, hR3⟩, hR4⟩ := hR
  exact va_mmax_long C.1 C.2.1 (C.2.2.2.1.trans hl.1.symm) C.2.2.2.2.1 (C.2.2.2.2.2.1 _ h1) (C.2.2.2.2.2.1 _ h2) (C.2.2.2.2.2.1 _ h3) (C.2.2.2.2.2.1 _ h4) (Nat.le_of_ble_eq_true hR1) (by rw [List.map_map]; simp only [Function.comp_def, g_catv]; exact Nat.le_of_ble_eq_true hR2) (Nat.le_of_ble_eq_true hR3) (Nat.le_of_ble_eq_true hR4) hd (kk p l e s m args below meth c D cid A n0 ad0 C ad ls H locs hq hl hP hD hS)
theorem G.lmin {M : g_M} {k n pc : Nat} {lv : List (Nat × Value)} {st : List Value} {ws : List va_E} {r : Option Value} {ws' : List va_E} {idx : Nat} {x y : Int64} (hd : decode M.1 pc = .ok (.invokestatic idx, 3)) (h1 : Cond.methodLink M.2.2.1 idx Lib.MathLoose.min_long.x ∈ TT) (h2 : Cond.static Lib.MathLoose.min_long.x ∈ TT) (h3 : Cond.initialized "java/lang/Math" ∈ TT) (h4 : Cond.code Lib.MathLoose.min_long.x Lib.MathLoose.min_long.code 4 (some .long) ∈ TT) (hR : (Nat.ble 1 M.2.2.2.2.1.frames && Nat.ble ((st.map fun v => v.category).sum + 15) M.2.2.2.2.1.locals && Nat.ble k M.2.2.2.2.1.cells && Nat.ble n M.2.2.2.2.1.slots) = true) (kk : G M k n (pc + 3) lv (.long (if y < x then y else x) :: st) ws r ws') : G M k n pc lv (.long y :: .long x :: st) ws r ws' := by
  intro p l e s m args below meth c D cid A n0 ad0 C ad ls H locs hq hl hP hD hS
  simp only [Bool.and_eq_true] at hR
  obtain ⟨⟨⟨hR1, hR2⟩, hR3⟩, hR4⟩ := hR
  exact va_mmin_long C.1 C.2.1 (C.2.2.2.1.trans hl.1.symm) C.2.2.2.2.1 (C.2.2.2.2.2.1 _ h1) (C.2.2.2.2.2.1 _ h2) (C.2.2.2.2.2.1 _ h3) (C.2.2.2.2.2.1 _ h4) (Nat.le_of_ble_eq_true hR1) (by rw [List.map_map]; simp only [Function.comp_def, g_catv]; exact Nat.le_of_ble_eq_true hR2) (Nat.le_of_ble_eq_true hR3) (Nat.le_of_ble_eq_true hR4) hd (kk p l e s m args below meth c D cid A n0 ad0 C ad ls H locs hq hl hP hD hS)
theorem g_B.now {M : g_M} {p : Program} {s : State} {m : MethodId} {args : Array Value} {meth : Method} {c : Code} {D : va_G} {cid : Nat → ClassId} {A : Nat → Prop} {ad0 ad : Nat → Nat} {n0 : Nat} (C : g_Cx M p s m args meth c D cid A ad0) (hq : g_eq n0 ad ad0) : g_B ad A s s.heap := C.2.2.2.2.2.2.2.2.2.1.at (fun i hi => hq i (Or.inr hi))
theorem G.getstatic {M : g_M} {k n pc : Nat} {lv : List (Nat × Value)} {st : List Value} {ws : List va_E} {r : Option Value} {ws' : List va_E} {idx : Nat} {cn fn fd : String} {v : Value} (hd : decode M.1 pc = .ok (.getstatic idx, 3)) (hz : g_Z (cn, fn, fd, v)) (hw : Cond.fieldLink M.2.2.1 idx cn fn fd ∈ TT) (kk : G M k n (pc + 3) lv (v :: st) ws r ws') : G M k n pc lv st ws r ws' := by
  intro p l e s m args below meth c D cid A n0 ad0 C ad ls H locs hq hl hP hD hS
  exact va_gets C.1 C.2.1 ((g_B.now C hq).1 _ hz) hS C.2.2.2.2.1 (C.2.2.2.2.2.1 _ hw) (fun _ h => h) hd (kk p l e s m args below meth c D cid A n0 ad0 C ad ls H locs hq hl hP hD hS)
theorem G.getfieldC {M : g_M} {k n pc : Nat} {lv : List (Nat × Value)} {st : List Value} {ws : List va_E} {r : Option Value} {ws' : List va_E} {idx a : Nat} {cn fn fd : String} {v : Value} (hd : decode M.1 pc = .ok (.getfield idx, 3)) (hz : g_OF (cn, fn, fd, v, a)) (hw : Cond.fieldLink M.2.2.1 idx cn fn fd ∈ TT) (kk : G M k n (pc + 3) lv (v :: st) ws r ws') : G M k n pc lv (.ref a :: st) ws r ws' := by
  intro p l e s m args below meth c D cid A n0 ad0 C ad ls H locs hq hl hP hD hS
  exact vk_getf C.1 C.2.1 ((g_B.now C hq).2.2.1 _ hz) hS C.2.2.2.2.1 (C.2.2.2.2.2.1 _ hw) (fun _ h => h) hd (kk p l e s m args below meth c D cid A n0 ad0 C ad ls H locs hq hl hP hD hS)
theorem G.aaloadC {M : g_M} {k n pc : Nat} {lv : List (Nat × Value)} {st : List Value} {ws : List va_E} {r : Option Value} {ws' : List va_E} {cn : String} {a N : Nat} {f : Nat → Value} {i : Int32} {v : Value} (hd : decode M.1 pc = .ok (.aaload, 1)) (hz : g_T (.object cn, a, N, f)) (hin : vp_in i N) (hv : f i.toNatClampNeg = v) (kk : G M k n (pc + 1) lv (v :: st) ws r ws') : G M k n pc lv (.int i :: .ref a :: st) ws r ws' := by
  intro p l e s m args below meth c D cid A n0 ad0 C ad ls H locs hq hl hP hD hS
  exact vb_tq C.1 C.2.1 ((g_B.now C hq).2.2.2.1 _ hz) hS hin (congrArg (g_tv ad) hv) hd (kk p l e s m args below meth c D cid A n0 ad0 C ad ls H locs hq hl hP hD hS)
theorem G.baloadC {M : g_M} {k n pc : Nat} {lv : List (Nat × Value)} {st : List Value} {ws : List va_E} {r : Option Value} {ws' : List va_E} {a N : Nat} {f : Nat → Value} {i : Int32} {v : Value} (hd : decode M.1 pc = .ok (.baload, 1)) (hz : g_T (.byte, a, N, f)) (hin : vp_in i N) (hv : f i.toNatClampNeg = v) (kk : G M k n (pc + 1) lv (v :: st) ws r ws') : G M k n pc lv (.int i :: .ref a :: st) ws r ws' := by
  intro p l e s m args below meth c D cid A n0 ad0 C ad ls H locs hq hl hP hD hS
  exact va_tb C.1 C.2.1 ((g_B.now C hq).2.2.2.1 _ hz) hS hin (congrArg (g_tv ad) hv) hd (kk p l e s m args below meth c D cid A n0 ad0 C ad ls H locs hq hl hP hD hS)
theorem G.alenC {M : g_M} {k n pc : Nat} {lv : List (Nat × Value)} {st : List Value} {ws : List va_E} {r : Option Value} {ws' : List va_E} {ty : FieldType} {a N : Nat} {f : Nat → Value} {v : Int32} (hd : decode M.1 pc = .ok (.arraylength, 1)) (hz : g_T (ty, a, N, f)) (hv : Int32.ofNat N = v) (kk : G M k n (pc + 1) lv (.int v :: st) ws r ws') : G M k n pc lv (.ref a :: st) ws r ws' := by
  intro p l e s m args below meth c D cid A n0 ad0 C ad ls H locs hq hl hP hD hS
  exact va_tlen C.1 C.2.1 ((g_B.now C hq).2.2.2.1 _ hz) hS hv hd (kk p l e s m args below meth c D cid A n0 ad0 C ad ls H locs hq hl hP hD hS)
theorem G.acmp_ne {M : g_M} {k n pc : Nat} {lv : List (Nat × Value)} {st : List Value} {ws : List va_E} {r : Option Value} {ws' : List va_E} {i j : Nat} {off : Int} {tgt : Nat} (hd : decode M.1 pc = .ok (.if_acmp .ne off, 3)) (hi : 1000 ≤ i ∧ i < 1003) (hj : 1000 ≤ j ∧ j < 1003) (ht : (pc : Int) + off = (tgt : Int)) (kt : ¬ i = j → G M k n tgt lv st ws r ws') (kf : i = j → G M k n (pc + 3) lv st ws r ws') : G M k n pc lv (.ref j :: .ref i :: st) ws r ws' := by
  intro p l e s m args below meth c D cid A n0 ad0 C ad ls H locs hq hl hP hD hS
  have hB := (g_B.now C hq).2.2.2.2.1 (i - 1000) (j - 1000) (by omega) (by omega)
  rw [show 1000 + (i - 1000) = i by omega, show 1000 + (j - 1000) = j by omega] at hB
  exact lv_acmp_ne (rx := some (ad i)) (ry := some (ad j)) C.1 C.2.1 hd ht (fun h => (kt (fun e9 => h (by rw [e9])) p l e s m args below meth c D cid A n0 ad0 C ad ls H locs hq hl hP hD hS)) (fun h => (kf (by have := hB (Option.some.inj h); omega) p l e s m args below meth c D cid A n0 ad0 C ad ls H locs hq hl hP hD hS))
theorem G.acmp_eq {M : g_M} {k n pc : Nat} {lv : List (Nat × Value)} {st : List Value} {ws : List va_E} {r : Option Value} {ws' : List va_E} {i j : Nat} {off : Int} {tgt : Nat} (hd : decode M.1 pc = .ok (.if_acmp .eq off, 3)) (hi : 1000 ≤ i ∧ i < 1003) (hj : 1000 ≤ j ∧ j < 1003) (ht : (pc : Int) + off = (tgt : Int)) (kt : i = j → G M k n tgt lv st ws r ws') (kf : ¬ i = j → G M k n (pc + 3) lv st ws r ws') : G M k n pc lv (.ref j :: .ref i :: st) ws r ws' := by
  intro p l e s m args below meth c D cid A n0 ad0 C ad ls H locs hq hl hP hD hS
  have hB := (g_B.now C hq).2.2.2.2.1 (i - 1000) (j - 1000) (by omega) (by omega)
  rw [show 1000 + (i - 1000) = i by omega, show 1000 + (j - 1000) = j by omega] at hB
  exact lv_acmp_eq (rx := some (ad i)) (ry := some (ad j)) C.1 C.2.1 hd ht (fun h => (kt (by have := hB (Option.some.inj h); omega) p l e s m args below meth c D cid A n0 ad0 C ad ls H locs hq hl hP hD hS)) (fun h => (kf (fun e9 => h (by rw [e9])) p l e s m args below meth c D cid A n0 ad0 C ad ls H locs hq hl hP hD hS))
theorem G.copyi {M : g_M} {k n pc : Nat} {lv : List (Nat × Value)} {st : List Value} {ws : List va_E} {r : Option Value} {ws' : List va_E} {idx a0 a1 n0' n1' : Nat} {f g : Nat → Int32} {sp dp m9 : Int32} {ws1 : List va_E} (hd : decode M.1 pc = .ok (.invokestatic idx, 3)) (h1 : Cond.methodLink M.2.2.1 idx arraycopyName ∈ TT) (h2 : Cond.native arraycopyName ∈ TT) (h3 : Cond.static arraycopyName ∈ TT) (h4 : Cond.initialized "java/lang/System" ∈ TT) (he0 : ws[a0]? = some (.inl (1, n0', .inl f))) (he1 : ws[a1]? = some (.inl (1, n1', .inl g)))
    (hs : ¬ sp < 0) (hdp : ¬ dp < 0) (hm : ¬ m9 < 0) (hb1 : sp.toNatClampNeg + m9.toNatClampNeg ≤ n0') (hb2 : dp.toNatClampNeg + m9.toNatClampNeg ≤ n1') (hR : (Nat.ble 1 M.2.2.2.2.1.frames && Nat.ble ((st.map fun v => v.category).sum + (nativeFrameWords "java/lang/System" "arraycopy" 5 + 11)) M.2.2.2.2.1.locals) = true) (hw : ws.set a1 (.inl (1, n1', .inl (va_cpy f g sp.toNatClampNeg dp.toNatClampNeg m9.toNatClampNeg))) = ws1)
    (kk : G M k n (pc + 3) lv st ws1 r ws') : G M k n pc lv (.int m9 :: .int dp :: .ref a1 :: .int sp :: .ref a0 :: st) ws r ws' := by
  intro p l e s m args below meth c D cid A n0 ad0 C ad ls H locs hq hl hP hD hS
  simp only [Bool.and_eq_true] at hR
  refine va_copyi C.1 C.2.1 (C.2.2.2.1.trans hl.1.symm) C.2.2.2.2.1 (C.2.2.2.2.2.1 _ h1) (C.2.2.2.2.2.1 _ h2) (C.2.2.2.2.2.1 _ h3) (C.2.2.2.2.2.1 _ h4) C.2.2.2.2.2.2.2.1 hP hD hS a0 a1 1 1 (g_get ad cid he0) (g_get ad cid he1) rfl rfl rfl hs hdp hm hb1 hb2 (fun _ _ => rfl) (Nat.le_of_ble_eq_true hR.1) (by rw [List.map_map]; simp only [Function.comp_def, g_catv]; exact Nat.le_of_ble_eq_true hR.2) hd (fun H locs hP hD hS => ?_)
  have hz := g_set ad cid ws a1 (.inl (1, n1', .inl (va_cpy f g sp.toNatClampNeg dp.toNatClampNeg m9.toNatClampNeg)))
  rw [hw] at hz
  have hP : va_P D vwCl (g_mk ad cid ws1) H := hz ▸ hP
  have hD : va_D A (g_mk ad cid ws1) := hz ▸ hD
  exact (kk p l e s m args below meth c D cid A n0 ad0 C ad ls H locs hq hl hP hD hS)
end
section
theorem q_le {a b : Int32} (h : a ≤ b) : a.toInt ≤ b.toInt := Int32.le_iff_toInt_le.mp h
theorem q_lt {a b : Int32} (h : a < b) : a.toInt < b.toInt := Int32.lt_iff_toInt_lt.mp h
theorem q_nle {a b : Int32} (h : ¬ a ≤ b) : b.toInt < a.toInt := Int.not_le.mp fun q => h (Int32.le_iff_toInt_le.mpr q)
theorem q_nlt {a b : Int32} (h : ¬ a < b) : b.toInt ≤ a.toInt := Int.not_lt.mp fun q => h (Int32.lt_iff_toInt_lt.mpr q)
theorem q_in {x : Int32} {n : Nat} (h0 : 0 ≤ x.toInt) (h1 : x.toInt < n) : vp_in x n := vp_in_iff.mpr ⟨h0, h1⟩
theorem q_rng (x : Int32) : -2147483648 ≤ x.toInt ∧ x.toInt < 2147483648 := ⟨Int32.le_toInt x, Int32.toInt_lt x⟩
theorem q_bm {z : Int} (h1 : -2147483648 ≤ z) (h2 : z < 2147483648) : z.bmod 4294967296 = z := by
  rw [Int.bmod_def]
  have h3 : z % ((4294967296 : Nat) : Int) = z ∨ z % ((4294967296 : Nat) : Int) = z + 4294967296 := by omega
  rcases h3 with h3 | h3 <;> rw [h3] <;> simp <;> omega
theorem q_add {x y : Int32} (h1 : -2147483648 ≤ x.toInt + y.toInt) (h2 : x.toInt + y.toInt < 2147483648) : (x + y).toInt = x.toInt + y.toInt := by
  rw [Int32.toInt_add]; exact q_bm h1 h2
theorem q_sub {x y : Int32} (h1 : -2147483648 ≤ x.toInt - y.toInt) (h2 : x.toInt - y.toInt < 2147483648) : (x - y).toInt = x.toInt - y.toInt := by
  rw [Int32.toInt_sub]; exact q_bm h1 h2
theorem q_mul {x y : Int32} (h1 : -2147483648 ≤ x.toInt * y.toInt) (h2 : x.toInt * y.toInt < 2147483648) : (x * y).toInt = x.toInt * y.toInt := by
  rw [Int32.toInt_mul]; exact q_bm h1 h2
theorem q_inc {x : Int32} (h : x.toInt < 2147483647) : (x + 1).toInt = x.toInt + 1 := by
  have := q_rng x
  have h1 : (1 : Int32).toInt = 1 := by decide
  rw [q_add] <;> rw [h1] <;> omega
theorem q_and (x : Int32) {m : Int32} (k : Nat) (hk : k ≤ 31) (hm : m.toBitVec.toNat = 2 ^ k - 1) : 0 ≤ (x &&& m).toInt ∧ (x &&& m).toInt < 2 ^ k := by
  obtain ⟨j, hj, e⟩ := pk_andE x k hm
  have hp : 2 ^ k ≤ 2 ^ 31 := Nat.pow_le_pow_right (by omega) hk
  rw [e, nI_toInt (by omega)]
  exact ⟨by omega, by exact_mod_cast hj⟩
theorem q_31 (x : Int32) : 0 ≤ (x &&& 31).toInt ∧ (x &&& 31).toInt < 32 := q_and x 5 (by omega) (by decide)
theorem q_7 (x : Int32) : 0 ≤ (x &&& 7).toInt ∧ (x &&& 7).toInt < 8 := q_and x 3 (by omega) (by decide)
theorem q_3 (x : Int32) : 0 ≤ (x &&& 3).toInt ∧ (x &&& 3).toInt < 4 := q_and x 2 (by omega) (by decide)
theorem q_t {t : Int32} (h : 0 ≤ t.toInt ∧ t.toInt < 4) : vp_in t 4 := q_in h.1 (by omega)
theorem q_c {c : Int32} {z : Int} (h : c.toInt = z) : c.toInt = z := h
theorem q_mad {c t r : Int32} {C : Int} (hc : c.toInt = C) (hC : 0 ≤ C ∧ C ≤ 1000) (ht : 0 ≤ t.toInt ∧ t.toInt < 4) (hr : 0 ≤ r.toInt ∧ r.toInt < 2000) : (c * t + r).toInt = C * t.toInt + r.toInt := by
  have h1 : 0 ≤ C * t.toInt := Int.mul_nonneg hC.1 ht.1
  have h2 : C * t.toInt ≤ 1000 * 3 := Int.mul_le_mul hC.2 (by omega) ht.1 (by omega)
  have h3 : (c * t).toInt = C * t.toInt := by rw [q_mul (by rw [hc]; omega) (by rw [hc]; omega), hc]
  rw [q_add (by rw [h3]; omega) (by rw [h3]; omega), h3]
theorem q_i16 {t r : Int32} (ht : 0 ≤ t.toInt ∧ t.toInt < 4) (hr : 0 ≤ r.toInt ∧ r.toInt < 16) : vp_in (16 * t + r) 64 := by
  have h := q_mad (c := 16) (C := 16) (by decide) (by omega) ht (r := r) (by omega)
  exact q_in (by rw [h]; omega) (by rw [h]; omega)
theorem q_i4 {t r : Int32} (ht : 0 ≤ t.toInt ∧ t.toInt < 4) (hr : 0 ≤ r.toInt ∧ r.toInt < 4) : vp_in (4 * t + r) 16 := by
  have h := q_mad (c := 4) (C := 4) (by decide) (by omega) ht (r := r) (by omega)
  exact q_in (by rw [h]; omega) (by rw [h]; omega)
theorem q_i128 {t r : Int32} (ht : 0 ≤ t.toInt ∧ t.toInt < 4) (hr : 0 ≤ r.toInt ∧ r.toInt < 128) : vp_in (128 * t + r) 512 := by
  have h := q_mad (c := 128) (C := 128) (by decide) (by omega) ht (r := r) (by omega)
  exact q_in (by rw [h]; omega) (by rw [h]; omega)
theorem q_nI {x : Int32} (h : 0 ≤ x.toInt) : x = nI x.toInt.toNat := by
  apply Int32.toInt_inj.mp
  have := q_rng x
  rw [nI_toInt (by omega)]
  omega
theorem q_rem {x c : Int32} (h0 : 0 ≤ x.toInt) (hc : 0 < c.toInt) : (x - x / c * c).toInt = x.toInt % c.toInt := by
  have h1 := q_rng x
  have h2 := q_rng c
  have e := pk_rem (a := x.toInt.toNat) (d := c.toInt.toNat) (by omega) (by omega) (by omega)
  rw [← q_nI h0, ← q_nI (by omega)] at e
  have h3 : x.toInt.toNat % c.toInt.toNat < c.toInt.toNat := Nat.mod_lt _ (by omega)
  rw [e, nI_toInt (by omega)]
  rw [Int.natCast_emod, Int.toNat_of_nonneg h0, Int.toNat_of_nonneg (by omega)]
theorem q_div {x c : Int32} (h0 : 0 ≤ x.toInt) (hc : 0 < c.toInt) : (x / c).toInt = x.toInt / c.toInt := by
  have h1 := q_rng x
  have h2 := q_rng c
  have e := pk_div (a := x.toInt.toNat) (d := c.toInt.toNat) (by omega) (by omega) (by omega)
  rw [← q_nI h0, ← q_nI (by omega)] at e
  have h3 : x.toInt.toNat / c.toInt.toNat ≤ x.toInt.toNat := Nat.div_le_self _ _
  rw [e, nI_toInt (by omega)]
  rw [Int.natCast_ediv, Int.toNat_of_nonneg h0, Int.toNat_of_nonneg (by omega)]
theorem q_16 {x : Int32} (h : 0 ≤ x.toInt ∧ x.toInt < 32) (c : ¬ 15 < x) : 0 ≤ x.toInt ∧ x.toInt < 16 := by
  have h1 : x.toInt ≤ (15 : Int32).toInt := q_nlt c
  have h2 : (15 : Int32).toInt = 15 := by decide
  omega
theorem q_16' {x : Int32} (h : 0 ≤ x.toInt ∧ x.toInt < 32) (c : x ≤ 15) : 0 ≤ x.toInt ∧ x.toInt < 16 := by
  have h1 : x.toInt ≤ (15 : Int32).toInt := q_le c
  have h2 : (15 : Int32).toInt = 15 := by decide
  omega
theorem q_w4 {t a : Int32} (ht : 0 ≤ t.toInt ∧ t.toInt < 4) (ha : 0 ≤ a.toInt ∧ a.toInt < 512) : vp_in (128 * t + a / 4) 512 := by
  have h2 : (4 : Int32).toInt = 4 := by decide
  have h := q_div (x := a) (c := 4) ha.1 (by rw [h2]; omega)
  rw [h2] at h
  exact q_i128 ht (by rw [h]; omega)
theorem q_sh {a : Int32} (ha : 4096 ≤ a.toInt ∧ a.toInt < 4352) : vp_in ((a - 4096) / 4) 64 := by
  have h2 : (4 : Int32).toInt = 4 := by decide
  have h3 : (4096 : Int32).toInt = 4096 := by decide
  have h4 : (a - 4096).toInt = a.toInt - 4096 := by rw [q_sub (by rw [h3]; omega) (by rw [h3]; omega), h3]
  have h := q_div (x := a - 4096) (c := 4) (by rw [h4]; omega) (by rw [h2]; omega)
  rw [h2, h4] at h
  exact q_in (by rw [h]; omega) (by rw [h]; omega)
theorem q_tr {t d e : Int32} (ht : 0 ≤ t.toInt ∧ t.toInt < 4) (hd : 0 ≤ d.toInt) (he : 0 ≤ e.toInt ∧ e.toInt < 3) : vp_in (48 * t + 3 * (d - d / 16 * 16)) 192 ∧ vp_in (48 * t + 3 * (d - d / 16 * 16) + e) 192 := by
  have h16 : (16 : Int32).toInt = 16 := by decide
  have h3 : (3 : Int32).toInt = 3 := by decide
  have h1 := q_rem (x := d) (c := 16) hd (by rw [h16]; omega)
  rw [h16] at h1
  have h2 : (3 * (d - d / 16 * 16)).toInt = 3 * (d.toInt % 16) := by rw [q_mul (by rw [h3, h1]; omega) (by rw [h3, h1]; omega), h3, h1]
  have h4 := q_mad (c := 48) (C := 48) (by decide) (by omega) ht (r := 3 * (d - d / 16 * 16)) (by rw [h2]; omega)
  rw [h2] at h4
  have h5 : (48 * t + 3 * (d - d / 16 * 16) + e).toInt = 48 * t.toInt + 3 * (d.toInt % 16) + e.toInt := by rw [q_add (by rw [h4]; omega) (by rw [h4]; omega), h4]
  exact ⟨q_in (by rw [h4]; omega) (by rw [h4]; omega), q_in (by rw [h5]; omega) (by rw [h5]; omega)⟩
theorem q_g1 {x b : Int32} {n : Int} (c0 : ¬ x < 0) (c1 : ¬ b < x) (hb : b.toInt + 1 = n) : 0 ≤ x.toInt ∧ x.toInt < n := by
  have h2 : (0 : Int32).toInt = 0 := by decide
  have := q_nlt c0
  have := q_nlt c1
  omega
theorem q_g2 {x b : Int32} {n : Int} (c0 : ¬ x < 0) (c1 : x ≤ b) (hb : b.toInt + 1 = n) : 0 ≤ x.toInt ∧ x.toInt < n := by
  have h2 : (0 : Int32).toInt = 0 := by decide
  have := q_nlt c0
  have := q_le c1
  omega
theorem q_g3 {x b : Int32} {n : Int} (c0 : ¬ x < 0) (c1 : x < b) (hb : b.toInt = n) : 0 ≤ x.toInt ∧ x.toInt < n := by
  have h2 : (0 : Int32).toInt = 0 := by decide
  have := q_nlt c0
  have := q_lt c1
  omega
theorem q_i4m {t r : Int32} (ht : 0 ≤ t.toInt ∧ t.toInt < 4) (hr : ¬ r < 4) (hr2 : ¬ 7 < r) : vp_in (4 * t + r - 4) 16 := by
  have h4 : (4 : Int32).toInt = 4 := by decide
  have h7 : (7 : Int32).toInt = 7 := by decide
  have h1 := q_nlt hr
  have h2 := q_nlt hr2
  have h := q_mad (c := 4) (C := 4) (by decide) (by omega) ht (r := r) (by omega)
  have h3 : (4 * t + r - 4).toInt = 4 * t.toInt + r.toInt - 4 := by rw [q_sub (by rw [h, h4]; omega) (by rw [h, h4]; omega), h, h4]
  exact q_in (by rw [h3]; omega) (by rw [h3]; omega)
theorem q_trk {t d k w : Int32} (ht : 0 ≤ t.toInt ∧ t.toInt < 4) (hd : ¬ d ≤ k) (hk : 0 ≤ k.toInt) (hw : 0 ≤ w.toInt ∧ w.toInt < 3) : vp_in (48 * t + 3 * ((d - 1 - k) - (d - 1 - k) / 16 * 16) + w) 192 := by
  have h1 : (1 : Int32).toInt = 1 := by decide
  have h2 := q_nle hd
  have h3 := q_rng d
  have h4 : (d - 1).toInt = d.toInt - 1 := by rw [q_sub (by rw [h1]; omega) (by rw [h1]; omega), h1]
  have h5 : (d - 1 - k).toInt = d.toInt - 1 - k.toInt := by rw [q_sub (by rw [h4]; omega) (by rw [h4]; omega), h4]
  exact (q_tr ht (by rw [h5]; omega) hw).2
theorem q_fst (w t b : Int) (hw : 1 ≤ w ∧ w ≤ 8) (ht : 0 ≤ t ∧ t < 4) (hb : 0 ≤ b) (c : ¬ b % (4 * w) = w * t) : (w * t - (b + 1)) % (4 * w) = (w * t - b) % (4 * w) - 1 ∧ 0 < (w * t - b) % (4 * w) := by
  rcases (show w = 1 ∨ w = 2 ∨ w = 3 ∨ w = 4 ∨ w = 5 ∨ w = 6 ∨ w = 7 ∨ w = 8 by omega) with rfl | rfl | rfl | rfl | rfl | rfl | rfl | rfl <;> rcases (show t = 0 ∨ t = 1 ∨ t = 2 ∨ t = 3 by omega) with rfl | rfl | rfl | rfl <;> omega
theorem q_4w {w : Int32} (hw : 1 ≤ w.toInt ∧ w.toInt ≤ 8) : (4 * w).toInt = 4 * w.toInt := by
  have h4 : (4 : Int32).toInt = 4 := by decide
  rw [q_mul (by rw [h4]; omega) (by rw [h4]; omega), h4]
theorem q_wt {w t : Int32} (hw : 1 ≤ w.toInt ∧ w.toInt ≤ 8) (ht : 0 ≤ t.toInt ∧ t.toInt < 4) : (w * t).toInt = w.toInt * t.toInt := by
  have h1 : 0 ≤ w.toInt * t.toInt := Int.mul_nonneg (by omega) ht.1
  have h2 : w.toInt * t.toInt ≤ 8 * 3 := Int.mul_le_mul hw.2 (by omega) ht.1 (by omega)
  rw [q_mul (by omega) (by omega)]
theorem q_w40 {w : Int32} (hw : 1 ≤ w.toInt ∧ w.toInt ≤ 8) : ¬ 4 * w = 0 := fun h => by
  have h1 := q_4w hw
  have h2 : (0 : Int32).toInt = 0 := by decide
  rw [h, h2] at h1
  omega
theorem q_fst2 {w t b : Int32} (hw : 1 ≤ w.toInt ∧ w.toInt ≤ 8) (ht : 0 ≤ t.toInt ∧ t.toInt < 4) (hb : 0 ≤ b.toInt) (hb2 : b.toInt + (w.toInt * t.toInt - b.toInt) % (4 * w.toInt) ≤ 1100040) (c : ¬ b - b / (4 * w) * (4 * w) = w * t) : (b + 1).toInt = b.toInt + 1 ∧ (w.toInt * t.toInt - (b.toInt + 1)) % (4 * w.toInt) = (w.toInt * t.toInt - b.toInt) % (4 * w.toInt) - 1 ∧ 0 < (w.toInt * t.toInt - b.toInt) % (4 * w.toInt) := by
  have h1 := q_4w hw
  have h2 := q_rem (x := b) (c := 4 * w) hb (by omega)
  have h3 : ¬ b.toInt % (4 * w.toInt) = w.toInt * t.toInt := fun h => c (Int32.toInt_inj.mp (by rw [h2, h1, h, q_wt hw ht]))
  have h4 := q_fst _ _ _ hw ht hb h3
  exact ⟨q_inc (by omega), h4⟩
theorem q_fst3 {w t b : Int} (hw : 1 ≤ w ∧ w ≤ 8) : ((w * t - b) % (4 * w)).toNat < 33 := by
  have h1 := Int.emod_nonneg (w * t - b) (show 4 * w ≠ 0 by omega)
  have h2 := Int.emod_lt_of_pos (w * t - b) (show 0 < 4 * w by omega)
  omega
theorem q_fst4 {w t b : Int} (hw : 1 ≤ w ∧ w ≤ 8) (hb : 0 ≤ b ∧ b ≤ 1100000) : 0 ≤ b ∧ b + (w * t - b) % (4 * w) ≤ 1100040 := by
  have h2 := Int.emod_lt_of_pos (w * t - b) (show 0 < 4 * w by omega)
  omega
theorem q_4096 {x : Int32} (h : 0 ≤ x.toInt ∧ x.toInt ≤ 64) : (4096 + 4 * x).toInt = 4096 + 4 * x.toInt := by
  have h4 : (4 : Int32).toInt = 4 := by decide
  have h5 : (4096 : Int32).toInt = 4096 := by decide
  have h1 : (4 * x).toInt = 4 * x.toInt := by rw [q_mul (by rw [h4]; omega) (by rw [h4]; omega), h4]
  rw [q_add (by rw [h5, h1]; omega) (by rw [h5, h1]; omega), h5, h1]
theorem q_m4 {x : Int32} (h : 0 ≤ x.toInt) : 0 ≤ (x - x / 4 * 4).toInt ∧ (x - x / 4 * 4).toInt < 4 := by
  have h4 : (4 : Int32).toInt = 4 := by decide
  have h1 := q_rem (x := x) (c := 4) h (by rw [h4]; omega)
  rw [h4] at h1
  rw [h1]
  omega
end
section
def w_H (hcount : Int32) (haddr : Nat → Int32) (hcyc : Nat → Int32) (hret : Nat → Int32) : List va_E := [.inr (1, [.int hcount, .ref 1, .ref 2, .ref 3]), .inl (1, 16, .inl haddr), .inl (1, 16, .inl hcyc), .inl (1, 16, .inl hret)]
def w_L (lcount : Int32) (lkeys : Nat → Int64) (lplaces : Nat → Int32) : List va_E := [.inr (2, [.int lcount, .ref 1, .ref 2]), .inl (2, 16, .inr (.inl lkeys)), .inl (1, 16, .inl lplaces)]
theorem gd_J9_floorMod_7cf53 : yJ9_floorMod_7cf53.cls ≠ "java/lang/invoke/MethodHandle" ∧ yJ9_floorMod_7cf53.cls ≠ "java/lang/invoke/VarHandle" ∧ (parseMethodDescriptor yJ9_floorMod_7cf53.desc).map (fun d => d.parameters.length) = some 2 := ⟨by decide, by decide, by decide +kernel⟩
theorem gd_X1_op : yX1_op.cls ≠ "java/lang/invoke/MethodHandle" ∧ yX1_op.cls ≠ "java/lang/invoke/VarHandle" ∧ (parseMethodDescriptor yX1_op.desc).map (fun d => d.parameters.length) = some 1 := ⟨by decide, by decide, by decide +kernel⟩
theorem gd_X1_rd : yX1_rd.cls ≠ "java/lang/invoke/MethodHandle" ∧ yX1_rd.cls ≠ "java/lang/invoke/VarHandle" ∧ (parseMethodDescriptor yX1_rd.desc).map (fun d => d.parameters.length) = some 1 := ⟨by decide, by decide, by decide +kernel⟩
theorem gd_X1_f : yX1_f.cls ≠ "java/lang/invoke/MethodHandle" ∧ yX1_f.cls ≠ "java/lang/invoke/VarHandle" ∧ (parseMethodDescriptor yX1_f.desc).map (fun d => d.parameters.length) = some 1 := ⟨by decide, by decide, by decide +kernel⟩
theorem gd_X1_rs : yX1_rs.cls ≠ "java/lang/invoke/MethodHandle" ∧ yX1_rs.cls ≠ "java/lang/invoke/VarHandle" ∧ (parseMethodDescriptor yX1_rs.desc).map (fun d => d.parameters.length) = some 1 := ⟨by decide, by decide, by decide +kernel⟩
theorem gd_X1_rt : yX1_rt.cls ≠ "java/lang/invoke/MethodHandle" ∧ yX1_rt.cls ≠ "java/lang/invoke/VarHandle" ∧ (parseMethodDescriptor yX1_rt.desc).map (fun d => d.parameters.length) = some 1 := ⟨by decide, by decide, by decide +kernel⟩
theorem gd_X1_g : yX1_g.cls ≠ "java/lang/invoke/MethodHandle" ∧ yX1_g.cls ≠ "java/lang/invoke/VarHandle" ∧ (parseMethodDescriptor yX1_g.desc).map (fun d => d.parameters.length) = some 1 := ⟨by decide, by decide, by decide +kernel⟩
theorem gd_X1_numberI : yX1_numberI.cls ≠ "java/lang/invoke/MethodHandle" ∧ yX1_numberI.cls ≠ "java/lang/invoke/VarHandle" ∧ (parseMethodDescriptor yX1_numberI.desc).map (fun d => d.parameters.length) = some 1 := ⟨by decide, by decide, by decide +kernel⟩
theorem gd_X1_numberS : yX1_numberS.cls ≠ "java/lang/invoke/MethodHandle" ∧ yX1_numberS.cls ≠ "java/lang/invoke/VarHandle" ∧ (parseMethodDescriptor yX1_numberS.desc).map (fun d => d.parameters.length) = some 1 := ⟨by decide, by decide, by decide +kernel⟩
theorem gd_X1_numberB : yX1_numberB.cls ≠ "java/lang/invoke/MethodHandle" ∧ yX1_numberB.cls ≠ "java/lang/invoke/VarHandle" ∧ (parseMethodDescriptor yX1_numberB.desc).map (fun d => d.parameters.length) = some 1 := ⟨by decide, by decide, by decide +kernel⟩
theorem gd_X1_numberJ : yX1_numberJ.cls ≠ "java/lang/invoke/MethodHandle" ∧ yX1_numberJ.cls ≠ "java/lang/invoke/VarHandle" ∧ (parseMethodDescriptor yX1_numberJ.desc).map (fun d => d.parameters.length) = some 1 := ⟨by decide, by decide, by decide +kernel⟩
theorem gd_X1_numberU : yX1_numberU.cls ≠ "java/lang/invoke/MethodHandle" ∧ yX1_numberU.cls ≠ "java/lang/invoke/VarHandle" ∧ (parseMethodDescriptor yX1_numberU.desc).map (fun d => d.parameters.length) = some 1 := ⟨by decide, by decide, by decide +kernel⟩
theorem gd_X1_bitsOfS : yX1_bitsOfS.cls ≠ "java/lang/invoke/MethodHandle" ∧ yX1_bitsOfS.cls ≠ "java/lang/invoke/VarHandle" ∧ (parseMethodDescriptor yX1_bitsOfS.desc).map (fun d => d.parameters.length) = some 1 := ⟨by decide, by decide, by decide +kernel⟩
theorem gd_X1_bitsOfB : yX1_bitsOfB.cls ≠ "java/lang/invoke/MethodHandle" ∧ yX1_bitsOfB.cls ≠ "java/lang/invoke/VarHandle" ∧ (parseMethodDescriptor yX1_bitsOfB.desc).map (fun d => d.parameters.length) = some 1 := ⟨by decide, by decide, by decide +kernel⟩
theorem gd_X1_bitsOfJ : yX1_bitsOfJ.cls ≠ "java/lang/invoke/MethodHandle" ∧ yX1_bitsOfJ.cls ≠ "java/lang/invoke/VarHandle" ∧ (parseMethodDescriptor yX1_bitsOfJ.desc).map (fun d => d.parameters.length) = some 1 := ⟨by decide, by decide, by decide +kernel⟩
theorem gd_X2_placeOf : yX2_placeOf.cls ≠ "java/lang/invoke/MethodHandle" ∧ yX2_placeOf.cls ≠ "java/lang/invoke/VarHandle" ∧ (parseMethodDescriptor yX2_placeOf.desc).map (fun d => d.parameters.length) = some 1 := ⟨by decide, by decide, by decide +kernel⟩
theorem gd_X3_find : yX3_find.cls ≠ "java/lang/invoke/MethodHandle" ∧ yX3_find.cls ≠ "java/lang/invoke/VarHandle" ∧ (parseMethodDescriptor yX3_find.desc).map (fun d => d.parameters.length) = some 1 := ⟨by decide, by decide, by decide +kernel⟩
abbrev M_J9_floorMod_7cf53 : g_M := (cJ9_floorMod_7cf53, 3, RJ9, (some .int), { frames := 0, cells := 0, slots := 0, locals := 0 }, 0, 0)
theorem dm_J9_floorMod_7cf53_0 : decode M_J9_floorMod_7cf53.1 0 = .ok (.iload_n 0, 1) := by decide +kernel
theorem dm_J9_floorMod_7cf53_1 : decode M_J9_floorMod_7cf53.1 1 = .ok (.iload_n 1, 1) := by decide +kernel
theorem dm_J9_floorMod_7cf53_2 : decode M_J9_floorMod_7cf53.1 2 = .ok (.irem, 1) := by decide +kernel
theorem dm_J9_floorMod_7cf53_3 : decode M_J9_floorMod_7cf53.1 3 = .ok (.istore_n 2, 1) := by decide +kernel
theorem dm_J9_floorMod_7cf53_4 : decode M_J9_floorMod_7cf53.1 4 = .ok (.iload_n 0, 1) := by decide +kernel
theorem dm_J9_floorMod_7cf53_5 : decode M_J9_floorMod_7cf53.1 5 = .ok (.iload_n 1, 1) := by decide +kernel
theorem dm_J9_floorMod_7cf53_6 : decode M_J9_floorMod_7cf53.1 6 = .ok (.ixor, 1) := by decide +kernel
theorem dm_J9_floorMod_7cf53_7 : decode M_J9_floorMod_7cf53.1 7 = .ok (.ifCond .ge 11, 3) := by decide +kernel
theorem dm_J9_floorMod_7cf53_10 : decode M_J9_floorMod_7cf53.1 10 = .ok (.iload_n 2, 1) := by decide +kernel
theorem dm_J9_floorMod_7cf53_11 : decode M_J9_floorMod_7cf53.1 11 = .ok (.ifCond .eq 7, 3) := by decide +kernel
theorem dm_J9_floorMod_7cf53_14 : decode M_J9_floorMod_7cf53.1 14 = .ok (.iload_n 2, 1) := by decide +kernel
theorem dm_J9_floorMod_7cf53_15 : decode M_J9_floorMod_7cf53.1 15 = .ok (.iload_n 1, 1) := by decide +kernel
theorem dm_J9_floorMod_7cf53_16 : decode M_J9_floorMod_7cf53.1 16 = .ok (.iadd, 1) := by decide +kernel
theorem dm_J9_floorMod_7cf53_17 : decode M_J9_floorMod_7cf53.1 17 = .ok (.ireturn, 1) := by decide +kernel
theorem dm_J9_floorMod_7cf53_18 : decode M_J9_floorMod_7cf53.1 18 = .ok (.iload_n 2, 1) := by decide +kernel
theorem dm_J9_floorMod_7cf53_19 : decode M_J9_floorMod_7cf53.1 19 = .ok (.ireturn, 1) := by decide +kernel
def f_J9_floorMod_7cf53 (x : Int32) (y : Int32) : Int32 := (if 0 ≤ (x ^^^ y) then (x - x / y * y) else (if (x - x / y * y) = 0 then (x - x / y * y) else ((x - x / y * y) + y)))
set_option maxRecDepth 20000 in
theorem k_J9_floorMod_7cf53 {x : Int32} {y : Int32} (hne : ¬ y = 0) {r_0 : Int32} (hres : r_0 = f_J9_floorMod_7cf53 x y) : K M_J9_floorMod_7cf53 yJ9_floorMod_7cf53 [.int x, .int y] [] (some (.int r_0)) [] := by
  refine K.of (lv := [(0, .int x), (1, .int y)]) (by decide +kernel) rfl rfl rfl ?_
  rw [f_J9_floorMod_7cf53] at hres
  refine G.iload_n (pc := 0) dm_J9_floorMod_7cf53_0 rfl ?_
  refine G.iload_n (pc := 1) dm_J9_floorMod_7cf53_1 rfl ?_
  refine G.irem (pc := 2) dm_J9_floorMod_7cf53_2 hne ?_
  refine G.istore_n (pc := 3) (lv1 := [(2, .int (x - x / y * y)), (0, .int x), (1, .int y)]) dm_J9_floorMod_7cf53_3 rfl rfl ?_
  refine G.iload_n (pc := 4) dm_J9_floorMod_7cf53_4 rfl ?_
  refine G.iload_n (pc := 5) dm_J9_floorMod_7cf53_5 rfl ?_
  refine G.ixor (pc := 6) dm_J9_floorMod_7cf53_6 ?_
  refine G.if_ge (pc := 7) (tgt := 18) dm_J9_floorMod_7cf53_7 (by decide) (fun c7 => ?_) (fun c7 => ?_)
  · rw [if_pos c7] at hres
    refine G.iload_n (pc := 18) dm_J9_floorMod_7cf53_18 rfl ?_
    subst hres
    exact G.ireturn (pc := 19) dm_J9_floorMod_7cf53_19 rfl rfl rfl
  · rw [if_neg c7] at hres
    refine G.iload_n (pc := 10) dm_J9_floorMod_7cf53_10 rfl ?_
    refine G.if_eq (pc := 11) (tgt := 18) dm_J9_floorMod_7cf53_11 (by decide) (fun c11 => ?_) (fun c11 => ?_)
    · rw [if_pos c11] at hres
      refine G.iload_n (pc := 18) dm_J9_floorMod_7cf53_18 rfl ?_
      subst hres
      exact G.ireturn (pc := 19) dm_J9_floorMod_7cf53_19 rfl rfl rfl
    · rw [if_neg c11] at hres
      refine G.iload_n (pc := 14) dm_J9_floorMod_7cf53_14 rfl ?_
      refine G.iload_n (pc := 15) dm_J9_floorMod_7cf53_15 rfl ?_
      refine G.iadd (pc := 16) dm_J9_floorMod_7cf53_16 ?_
      subst hres
      exact G.ireturn (pc := 17) dm_J9_floorMod_7cf53_17 rfl rfl rfl
abbrev M_X1_op : g_M := (cX1_op, 1, RX1, (some .int), { frames := 0, cells := 0, slots := 0, locals := 0 }, 0, 0)
theorem dm_X1_op_0 : decode M_X1_op.1 0 = .ok (.iload_n 0, 1) := by decide +kernel
theorem dm_X1_op_1 : decode M_X1_op.1 1 = .ok (.bipush 127, 2) := by decide +kernel
theorem dm_X1_op_3 : decode M_X1_op.1 3 = .ok (.iand, 1) := by decide +kernel
theorem dm_X1_op_4 : decode M_X1_op.1 4 = .ok (.ireturn, 1) := by decide +kernel
def f_X1_op (x : Int32) : Int32 := (x &&& (127 : Int32))
set_option maxRecDepth 20000 in
theorem k_X1_op {x : Int32} {r_0 : Int32} (hres : r_0 = f_X1_op x) : K M_X1_op yX1_op [.int x] [] (some (.int r_0)) [] := by
  refine K.of (lv := [(0, .int x)]) (by decide +kernel) rfl rfl rfl ?_
  rw [f_X1_op] at hres
  refine G.iload_n (pc := 0) dm_X1_op_0 rfl ?_
  refine G.bipush (pc := 1) (v := (127 : Int32)) dm_X1_op_1 qb_127 ?_
  refine G.iand (pc := 3) dm_X1_op_3 ?_
  subst hres
  exact G.ireturn (pc := 4) dm_X1_op_4 rfl rfl rfl
abbrev M_X1_rd : g_M := (cX1_rd, 1, RX1, (some .int), { frames := 0, cells := 0, slots := 0, locals := 0 }, 0, 0)
theorem dm_X1_rd_0 : decode M_X1_rd.1 0 = .ok (.iload_n 0, 1) := by decide +kernel
theorem dm_X1_rd_1 : decode M_X1_rd.1 1 = .ok (.bipush 7, 2) := by decide +kernel
theorem dm_X1_rd_3 : decode M_X1_rd.1 3 = .ok (.iushr, 1) := by decide +kernel
theorem dm_X1_rd_4 : decode M_X1_rd.1 4 = .ok (.bipush 31, 2) := by decide +kernel
theorem dm_X1_rd_6 : decode M_X1_rd.1 6 = .ok (.iand, 1) := by decide +kernel
theorem dm_X1_rd_7 : decode M_X1_rd.1 7 = .ok (.ireturn, 1) := by decide +kernel
def f_X1_rd (x : Int32) : Int32 := ((g_ushr x (7 : Int32)) &&& (31 : Int32))
set_option maxRecDepth 20000 in
theorem k_X1_rd {x : Int32} {r_0 : Int32} (hres : r_0 = f_X1_rd x) : K M_X1_rd yX1_rd [.int x] [] (some (.int r_0)) [] := by
  refine K.of (lv := [(0, .int x)]) (by decide +kernel) rfl rfl rfl ?_
  rw [f_X1_rd] at hres
  refine G.iload_n (pc := 0) dm_X1_rd_0 rfl ?_
  refine G.bipush (pc := 1) (v := (7 : Int32)) dm_X1_rd_1 qb_7 ?_
  refine G.iushr (pc := 3) dm_X1_rd_3 ?_
  refine G.bipush (pc := 4) (v := (31 : Int32)) dm_X1_rd_4 qb_31 ?_
  refine G.iand (pc := 6) dm_X1_rd_6 ?_
  subst hres
  exact G.ireturn (pc := 7) dm_X1_rd_7 rfl rfl rfl
abbrev M_X1_f : g_M := (cX1_f, 1, RX1, (some .int), { frames := 0, cells := 0, slots := 0, locals := 0 }, 0, 0)
theorem dm_X1_f_0 : decode M_X1_f.1 0 = .ok (.iload_n 0, 1) := by decide +kernel
theorem dm_X1_f_1 : decode M_X1_f.1 1 = .ok (.bipush 12, 2) := by decide +kernel
theorem dm_X1_f_3 : decode M_X1_f.1 3 = .ok (.iushr, 1) := by decide +kernel
theorem dm_X1_f_4 : decode M_X1_f.1 4 = .ok (.bipush 7, 2) := by decide +kernel
theorem dm_X1_f_6 : decode M_X1_f.1 6 = .ok (.iand, 1) := by decide +kernel
theorem dm_X1_f_7 : decode M_X1_f.1 7 = .ok (.ireturn, 1) := by decide +kernel
def f_X1_f (x : Int32) : Int32 := ((g_ushr x (12 : Int32)) &&& (7 : Int32))
set_option maxRecDepth 20000 in
theorem k_X1_f {x : Int32} {r_0 : Int32} (hres : r_0 = f_X1_f x) : K M_X1_f yX1_f [.int x] [] (some (.int r_0)) [] := by
  refine K.of (lv := [(0, .int x)]) (by decide +kernel) rfl rfl rfl ?_
  rw [f_X1_f] at hres
  refine G.iload_n (pc := 0) dm_X1_f_0 rfl ?_
  refine G.bipush (pc := 1) (v := (12 : Int32)) dm_X1_f_1 qb_12 ?_
  refine G.iushr (pc := 3) dm_X1_f_3 ?_
  refine G.bipush (pc := 4) (v := (7 : Int32)) dm_X1_f_4 qb_7 ?_
  refine G.iand (pc := 6) dm_X1_f_6 ?_
  subst hres
  exact G.ireturn (pc := 7) dm_X1_f_7 rfl rfl rfl
abbrev M_X1_rs : g_M := (cX1_rs, 1, RX1, (some .int), { frames := 0, cells := 0, slots := 0, locals := 0 }, 0, 0)
theorem dm_X1_rs_0 : decode M_X1_rs.1 0 = .ok (.iload_n 0, 1) := by decide +kernel
theorem dm_X1_rs_1 : decode M_X1_rs.1 1 = .ok (.bipush 15, 2) := by decide +kernel
theorem dm_X1_rs_3 : decode M_X1_rs.1 3 = .ok (.iushr, 1) := by decide +kernel
theorem dm_X1_rs_4 : decode M_X1_rs.1 4 = .ok (.bipush 31, 2) := by decide +kernel
theorem dm_X1_rs_6 : decode M_X1_rs.1 6 = .ok (.iand, 1) := by decide +kernel
theorem dm_X1_rs_7 : decode M_X1_rs.1 7 = .ok (.ireturn, 1) := by decide +kernel
def f_X1_rs (x : Int32) : Int32 := ((g_ushr x (15 : Int32)) &&& (31 : Int32))
set_option maxRecDepth 20000 in
theorem k_X1_rs {x : Int32} {r_0 : Int32} (hres : r_0 = f_X1_rs x) : K M_X1_rs yX1_rs [.int x] [] (some (.int r_0)) [] := by
  refine K.of (lv := [(0, .int x)]) (by decide +kernel) rfl rfl rfl ?_
  rw [f_X1_rs] at hres
  refine G.iload_n (pc := 0) dm_X1_rs_0 rfl ?_
  refine G.bipush (pc := 1) (v := (15 : Int32)) dm_X1_rs_1 qb_15 ?_
  refine G.iushr (pc := 3) dm_X1_rs_3 ?_
  refine G.bipush (pc := 4) (v := (31 : Int32)) dm_X1_rs_4 qb_31 ?_
  refine G.iand (pc := 6) dm_X1_rs_6 ?_
  subst hres
  exact G.ireturn (pc := 7) dm_X1_rs_7 rfl rfl rfl
abbrev M_X1_rt : g_M := (cX1_rt, 1, RX1, (some .int), { frames := 0, cells := 0, slots := 0, locals := 0 }, 0, 0)
theorem dm_X1_rt_0 : decode M_X1_rt.1 0 = .ok (.iload_n 0, 1) := by decide +kernel
theorem dm_X1_rt_1 : decode M_X1_rt.1 1 = .ok (.bipush 20, 2) := by decide +kernel
theorem dm_X1_rt_3 : decode M_X1_rt.1 3 = .ok (.iushr, 1) := by decide +kernel
theorem dm_X1_rt_4 : decode M_X1_rt.1 4 = .ok (.bipush 31, 2) := by decide +kernel
theorem dm_X1_rt_6 : decode M_X1_rt.1 6 = .ok (.iand, 1) := by decide +kernel
theorem dm_X1_rt_7 : decode M_X1_rt.1 7 = .ok (.ireturn, 1) := by decide +kernel
def f_X1_rt (x : Int32) : Int32 := ((g_ushr x (20 : Int32)) &&& (31 : Int32))
set_option maxRecDepth 20000 in
theorem k_X1_rt {x : Int32} {r_0 : Int32} (hres : r_0 = f_X1_rt x) : K M_X1_rt yX1_rt [.int x] [] (some (.int r_0)) [] := by
  refine K.of (lv := [(0, .int x)]) (by decide +kernel) rfl rfl rfl ?_
  rw [f_X1_rt] at hres
  refine G.iload_n (pc := 0) dm_X1_rt_0 rfl ?_
  refine G.bipush (pc := 1) (v := (20 : Int32)) dm_X1_rt_1 qb_20 ?_
  refine G.iushr (pc := 3) dm_X1_rt_3 ?_
  refine G.bipush (pc := 4) (v := (31 : Int32)) dm_X1_rt_4 qb_31 ?_
  refine G.iand (pc := 6) dm_X1_rt_6 ?_
  subst hres
  exact G.ireturn (pc := 7) dm_X1_rt_7 rfl rfl rfl
abbrev M_X1_g : g_M := (cX1_g, 1, RX1, (some .int), { frames := 0, cells := 0, slots := 0, locals := 0 }, 0, 0)
theorem dm_X1_g_0 : decode M_X1_g.1 0 = .ok (.iload_n 0, 1) := by decide +kernel
theorem dm_X1_g_1 : decode M_X1_g.1 1 = .ok (.bipush 25, 2) := by decide +kernel
theorem dm_X1_g_3 : decode M_X1_g.1 3 = .ok (.iushr, 1) := by decide +kernel
theorem dm_X1_g_4 : decode M_X1_g.1 4 = .ok (.ireturn, 1) := by decide +kernel
def f_X1_g (x : Int32) : Int32 := (g_ushr x (25 : Int32))
set_option maxRecDepth 20000 in
theorem k_X1_g {x : Int32} {r_0 : Int32} (hres : r_0 = f_X1_g x) : K M_X1_g yX1_g [.int x] [] (some (.int r_0)) [] := by
  refine K.of (lv := [(0, .int x)]) (by decide +kernel) rfl rfl rfl ?_
  rw [f_X1_g] at hres
  refine G.iload_n (pc := 0) dm_X1_g_0 rfl ?_
  refine G.bipush (pc := 1) (v := (25 : Int32)) dm_X1_g_1 qb_25 ?_
  refine G.iushr (pc := 3) dm_X1_g_3 ?_
  subst hres
  exact G.ireturn (pc := 4) dm_X1_g_4 rfl rfl rfl
abbrev M_X1_numberI : g_M := (cX1_numberI, 1, RX1, (some .int), { frames := 0, cells := 0, slots := 0, locals := 0 }, 0, 0)
theorem dm_X1_numberI_0 : decode M_X1_numberI.1 0 = .ok (.iload_n 0, 1) := by decide +kernel
theorem dm_X1_numberI_1 : decode M_X1_numberI.1 1 = .ok (.bipush 20, 2) := by decide +kernel
theorem dm_X1_numberI_3 : decode M_X1_numberI.1 3 = .ok (.ishr, 1) := by decide +kernel
theorem dm_X1_numberI_4 : decode M_X1_numberI.1 4 = .ok (.ireturn, 1) := by decide +kernel
def f_X1_numberI (x : Int32) : Int32 := (x >>> ((20 : Int32) &&& 31))
set_option maxRecDepth 20000 in
theorem k_X1_numberI {x : Int32} {r_0 : Int32} (hres : r_0 = f_X1_numberI x) : K M_X1_numberI yX1_numberI [.int x] [] (some (.int r_0)) [] := by
  refine K.of (lv := [(0, .int x)]) (by decide +kernel) rfl rfl rfl ?_
  rw [f_X1_numberI] at hres
  refine G.iload_n (pc := 0) dm_X1_numberI_0 rfl ?_
  refine G.bipush (pc := 1) (v := (20 : Int32)) dm_X1_numberI_1 qb_20 ?_
  refine G.ishr (pc := 3) dm_X1_numberI_3 ?_
  subst hres
  exact G.ireturn (pc := 4) dm_X1_numberI_4 rfl rfl rfl
abbrev M_X1_numberS : g_M := (cX1_numberS, 1, RX1, (some .int), { frames := 1, cells := 0, slots := 0, locals := 20 }, 0, 0)
theorem dm_X1_numberS_0 : decode M_X1_numberS.1 0 = .ok (.iload_n 0, 1) := by decide +kernel
theorem dm_X1_numberS_1 : decode M_X1_numberS.1 1 = .ok (.bipush 25, 2) := by decide +kernel
theorem dm_X1_numberS_3 : decode M_X1_numberS.1 3 = .ok (.ishr, 1) := by decide +kernel
theorem dm_X1_numberS_4 : decode M_X1_numberS.1 4 = .ok (.iconst 5, 1) := by decide +kernel
theorem dm_X1_numberS_5 : decode M_X1_numberS.1 5 = .ok (.ishl, 1) := by decide +kernel
theorem dm_X1_numberS_6 : decode M_X1_numberS.1 6 = .ok (.iload_n 0, 1) := by decide +kernel
theorem dm_X1_numberS_7 : decode M_X1_numberS.1 7 = .ok (.invokestatic 9, 3) := by decide +kernel
theorem dm_X1_numberS_10 : decode M_X1_numberS.1 10 = .ok (.ior, 1) := by decide +kernel
theorem dm_X1_numberS_11 : decode M_X1_numberS.1 11 = .ok (.ireturn, 1) := by decide +kernel
theorem gc_X1_numberS_9 : g_cs M_X1_numberS 9 M_X1_rd yX1_rd 1 := ⟨tw717, tw632, tw358, tw633, ⟨rfl, rfl, rfl, rfl⟩, gd_X1_rd, ⟨by decide, by decide⟩⟩
def f_X1_numberS_c7 (x : Int32) (z1_0 : Int32) : Int32 := (((x >>> ((25 : Int32) &&& 31)) <<< ((5 : Int32) &&& 31)) ||| z1_0)
def f_X1_numberS (x : Int32) : Int32 := (f_X1_numberS_c7 x (f_X1_rd x))
set_option maxRecDepth 20000 in
theorem k_X1_numberS {x : Int32} {r_0 : Int32} (hres : r_0 = f_X1_numberS x) : K M_X1_numberS yX1_numberS [.int x] [] (some (.int r_0)) [] := by
  refine K.of (lv := [(0, .int x)]) (by decide +kernel) rfl rfl rfl ?_
  rw [f_X1_numberS] at hres
  refine G.iload_n (pc := 0) dm_X1_numberS_0 rfl ?_
  refine G.bipush (pc := 1) (v := (25 : Int32)) dm_X1_numberS_1 qb_25 ?_
  refine G.ishr (pc := 3) dm_X1_numberS_3 ?_
  refine G.iconst (pc := 4) (v := (5 : Int32)) dm_X1_numberS_4 qi_5 ?_
  refine G.ishl (pc := 5) dm_X1_numberS_5 ?_
  refine G.iload_n (pc := 6) dm_X1_numberS_6 rfl ?_
  obtain ⟨z1_0, hz1⟩ : ∃ (z1_0 : Int32), z1_0 = f_X1_rd x := ⟨_, rfl⟩
  refine G.callS (pc := 7) (rest := [.int ((x >>> ((25 : Int32) &&& 31)) <<< ((5 : Int32) &&& 31))]) (st1 := [.int z1_0, .int ((x >>> ((25 : Int32) &&& 31)) <<< ((5 : Int32) &&& 31))]) (ws1 := []) [] dm_X1_numberS_7 gc_X1_numberS_9 (k_X1_rd (x := x) hz1) rfl rfl rfl rfl rfl rfl rfl rfl ?_
  replace hres : r_0 = f_X1_numberS_c7 x z1_0 := hres.trans (by rw [← hz1])
  rw [f_X1_numberS_c7] at hres
  refine G.ior (pc := 10) dm_X1_numberS_10 ?_
  subst hres
  exact G.ireturn (pc := 11) dm_X1_numberS_11 rfl rfl rfl
abbrev M_X1_numberB : g_M := (cX1_numberB, 1, RX1, (some .int), { frames := 0, cells := 0, slots := 0, locals := 0 }, 0, 0)
theorem dm_X1_numberB_0 : decode M_X1_numberB.1 0 = .ok (.iload_n 0, 1) := by decide +kernel
theorem dm_X1_numberB_1 : decode M_X1_numberB.1 1 = .ok (.bipush 31, 2) := by decide +kernel
theorem dm_X1_numberB_3 : decode M_X1_numberB.1 3 = .ok (.ishr, 1) := by decide +kernel
theorem dm_X1_numberB_4 : decode M_X1_numberB.1 4 = .ok (.bipush 12, 2) := by decide +kernel
theorem dm_X1_numberB_6 : decode M_X1_numberB.1 6 = .ok (.ishl, 1) := by decide +kernel
theorem dm_X1_numberB_7 : decode M_X1_numberB.1 7 = .ok (.iload_n 0, 1) := by decide +kernel
theorem dm_X1_numberB_8 : decode M_X1_numberB.1 8 = .ok (.iconst 4, 1) := by decide +kernel
theorem dm_X1_numberB_9 : decode M_X1_numberB.1 9 = .ok (.ishl, 1) := by decide +kernel
theorem dm_X1_numberB_10 : decode M_X1_numberB.1 10 = .ok (.sipush 2048, 3) := by decide +kernel
theorem dm_X1_numberB_13 : decode M_X1_numberB.1 13 = .ok (.iand, 1) := by decide +kernel
theorem dm_X1_numberB_14 : decode M_X1_numberB.1 14 = .ok (.ior, 1) := by decide +kernel
theorem dm_X1_numberB_15 : decode M_X1_numberB.1 15 = .ok (.iload_n 0, 1) := by decide +kernel
theorem dm_X1_numberB_16 : decode M_X1_numberB.1 16 = .ok (.bipush 20, 2) := by decide +kernel
theorem dm_X1_numberB_18 : decode M_X1_numberB.1 18 = .ok (.iushr, 1) := by decide +kernel
theorem dm_X1_numberB_19 : decode M_X1_numberB.1 19 = .ok (.sipush 2016, 3) := by decide +kernel
theorem dm_X1_numberB_22 : decode M_X1_numberB.1 22 = .ok (.iand, 1) := by decide +kernel
theorem dm_X1_numberB_23 : decode M_X1_numberB.1 23 = .ok (.ior, 1) := by decide +kernel
theorem dm_X1_numberB_24 : decode M_X1_numberB.1 24 = .ok (.iload_n 0, 1) := by decide +kernel
theorem dm_X1_numberB_25 : decode M_X1_numberB.1 25 = .ok (.bipush 7, 2) := by decide +kernel
theorem dm_X1_numberB_27 : decode M_X1_numberB.1 27 = .ok (.iushr, 1) := by decide +kernel
theorem dm_X1_numberB_28 : decode M_X1_numberB.1 28 = .ok (.bipush 30, 2) := by decide +kernel
theorem dm_X1_numberB_30 : decode M_X1_numberB.1 30 = .ok (.iand, 1) := by decide +kernel
theorem dm_X1_numberB_31 : decode M_X1_numberB.1 31 = .ok (.ior, 1) := by decide +kernel
theorem dm_X1_numberB_32 : decode M_X1_numberB.1 32 = .ok (.ireturn, 1) := by decide +kernel
def f_X1_numberB (x : Int32) : Int32 := (((((x >>> ((31 : Int32) &&& 31)) <<< ((12 : Int32) &&& 31)) ||| ((x <<< ((4 : Int32) &&& 31)) &&& (2048 : Int32))) ||| ((g_ushr x (20 : Int32)) &&& (2016 : Int32))) ||| ((g_ushr x (7 : Int32)) &&& (30 : Int32)))
set_option maxRecDepth 20000 in
theorem k_X1_numberB {x : Int32} {r_0 : Int32} (hres : r_0 = f_X1_numberB x) : K M_X1_numberB yX1_numberB [.int x] [] (some (.int r_0)) [] := by
  refine K.of (lv := [(0, .int x)]) (by decide +kernel) rfl rfl rfl ?_
  rw [f_X1_numberB] at hres
  refine G.iload_n (pc := 0) dm_X1_numberB_0 rfl ?_
  refine G.bipush (pc := 1) (v := (31 : Int32)) dm_X1_numberB_1 qb_31 ?_
  refine G.ishr (pc := 3) dm_X1_numberB_3 ?_
  refine G.bipush (pc := 4) (v := (12 : Int32)) dm_X1_numberB_4 qb_12 ?_
  refine G.ishl (pc := 6) dm_X1_numberB_6 ?_
  refine G.iload_n (pc := 7) dm_X1_numberB_7 rfl ?_
  refine G.iconst (pc := 8) (v := (4 : Int32)) dm_X1_numberB_8 qi_4 ?_
  refine G.ishl (pc := 9) dm_X1_numberB_9 ?_
  refine G.sipush (pc := 10) (v := (2048 : Int32)) dm_X1_numberB_10 qs_2048 ?_
  refine G.iand (pc := 13) dm_X1_numberB_13 ?_
  refine G.ior (pc := 14) dm_X1_numberB_14 ?_
  refine G.iload_n (pc := 15) dm_X1_numberB_15 rfl ?_
  refine G.bipush (pc := 16) (v := (20 : Int32)) dm_X1_numberB_16 qb_20 ?_
  refine G.iushr (pc := 18) dm_X1_numberB_18 ?_
  refine G.sipush (pc := 19) (v := (2016 : Int32)) dm_X1_numberB_19 qs_2016 ?_
  refine G.iand (pc := 22) dm_X1_numberB_22 ?_
  refine G.ior (pc := 23) dm_X1_numberB_23 ?_
  refine G.iload_n (pc := 24) dm_X1_numberB_24 rfl ?_
  refine G.bipush (pc := 25) (v := (7 : Int32)) dm_X1_numberB_25 qb_7 ?_
  refine G.iushr (pc := 27) dm_X1_numberB_27 ?_
  refine G.bipush (pc := 28) (v := (30 : Int32)) dm_X1_numberB_28 qb_30 ?_
  refine G.iand (pc := 30) dm_X1_numberB_30 ?_
  refine G.ior (pc := 31) dm_X1_numberB_31 ?_
  subst hres
  exact G.ireturn (pc := 32) dm_X1_numberB_32 rfl rfl rfl
abbrev M_X1_numberJ : g_M := (cX1_numberJ, 1, RX1, (some .int), { frames := 0, cells := 0, slots := 0, locals := 0 }, 0, 0)
theorem dm_X1_numberJ_0 : decode M_X1_numberJ.1 0 = .ok (.iload_n 0, 1) := by decide +kernel
theorem dm_X1_numberJ_1 : decode M_X1_numberJ.1 1 = .ok (.bipush 31, 2) := by decide +kernel
theorem dm_X1_numberJ_3 : decode M_X1_numberJ.1 3 = .ok (.ishr, 1) := by decide +kernel
theorem dm_X1_numberJ_4 : decode M_X1_numberJ.1 4 = .ok (.bipush 20, 2) := by decide +kernel
theorem dm_X1_numberJ_6 : decode M_X1_numberJ.1 6 = .ok (.ishl, 1) := by decide +kernel
theorem dm_X1_numberJ_7 : decode M_X1_numberJ.1 7 = .ok (.iload_n 0, 1) := by decide +kernel
theorem dm_X1_numberJ_8 : decode M_X1_numberJ.1 8 = .ok (.ldc 15, 2) := by decide +kernel
theorem dm_X1_numberJ_10 : decode M_X1_numberJ.1 10 = .ok (.iand, 1) := by decide +kernel
theorem dm_X1_numberJ_11 : decode M_X1_numberJ.1 11 = .ok (.ior, 1) := by decide +kernel
theorem dm_X1_numberJ_12 : decode M_X1_numberJ.1 12 = .ok (.iload_n 0, 1) := by decide +kernel
theorem dm_X1_numberJ_13 : decode M_X1_numberJ.1 13 = .ok (.bipush 9, 2) := by decide +kernel
theorem dm_X1_numberJ_15 : decode M_X1_numberJ.1 15 = .ok (.iushr, 1) := by decide +kernel
theorem dm_X1_numberJ_16 : decode M_X1_numberJ.1 16 = .ok (.sipush 2048, 3) := by decide +kernel
theorem dm_X1_numberJ_19 : decode M_X1_numberJ.1 19 = .ok (.iand, 1) := by decide +kernel
theorem dm_X1_numberJ_20 : decode M_X1_numberJ.1 20 = .ok (.ior, 1) := by decide +kernel
theorem dm_X1_numberJ_21 : decode M_X1_numberJ.1 21 = .ok (.iload_n 0, 1) := by decide +kernel
theorem dm_X1_numberJ_22 : decode M_X1_numberJ.1 22 = .ok (.bipush 20, 2) := by decide +kernel
theorem dm_X1_numberJ_24 : decode M_X1_numberJ.1 24 = .ok (.iushr, 1) := by decide +kernel
theorem dm_X1_numberJ_25 : decode M_X1_numberJ.1 25 = .ok (.sipush 2046, 3) := by decide +kernel
theorem dm_X1_numberJ_28 : decode M_X1_numberJ.1 28 = .ok (.iand, 1) := by decide +kernel
theorem dm_X1_numberJ_29 : decode M_X1_numberJ.1 29 = .ok (.ior, 1) := by decide +kernel
theorem dm_X1_numberJ_30 : decode M_X1_numberJ.1 30 = .ok (.ireturn, 1) := by decide +kernel
def f_X1_numberJ (x : Int32) : Int32 := (((((x >>> ((31 : Int32) &&& 31)) <<< ((20 : Int32) &&& 31)) ||| (x &&& (1044480 : Int32))) ||| ((g_ushr x (9 : Int32)) &&& (2048 : Int32))) ||| ((g_ushr x (20 : Int32)) &&& (2046 : Int32)))
set_option maxRecDepth 20000 in
theorem k_X1_numberJ {x : Int32} {r_0 : Int32} (hres : r_0 = f_X1_numberJ x) : K M_X1_numberJ yX1_numberJ [.int x] [] (some (.int r_0)) [] := by
  refine K.of (lv := [(0, .int x)]) (by decide +kernel) rfl rfl rfl ?_
  rw [f_X1_numberJ] at hres
  refine G.iload_n (pc := 0) dm_X1_numberJ_0 rfl ?_
  refine G.bipush (pc := 1) (v := (31 : Int32)) dm_X1_numberJ_1 qb_31 ?_
  refine G.ishr (pc := 3) dm_X1_numberJ_3 ?_
  refine G.bipush (pc := 4) (v := (20 : Int32)) dm_X1_numberJ_4 qb_20 ?_
  refine G.ishl (pc := 6) dm_X1_numberJ_6 ?_
  refine G.iload_n (pc := 7) dm_X1_numberJ_7 rfl ?_
  refine G.ldc (pc := 8) dm_X1_numberJ_8 tw370 ?_
  refine G.iand (pc := 10) dm_X1_numberJ_10 ?_
  refine G.ior (pc := 11) dm_X1_numberJ_11 ?_
  refine G.iload_n (pc := 12) dm_X1_numberJ_12 rfl ?_
  refine G.bipush (pc := 13) (v := (9 : Int32)) dm_X1_numberJ_13 qb_9 ?_
  refine G.iushr (pc := 15) dm_X1_numberJ_15 ?_
  refine G.sipush (pc := 16) (v := (2048 : Int32)) dm_X1_numberJ_16 qs_2048 ?_
  refine G.iand (pc := 19) dm_X1_numberJ_19 ?_
  refine G.ior (pc := 20) dm_X1_numberJ_20 ?_
  refine G.iload_n (pc := 21) dm_X1_numberJ_21 rfl ?_
  refine G.bipush (pc := 22) (v := (20 : Int32)) dm_X1_numberJ_22 qb_20 ?_
  refine G.iushr (pc := 24) dm_X1_numberJ_24 ?_
  refine G.sipush (pc := 25) (v := (2046 : Int32)) dm_X1_numberJ_25 qs_2046 ?_
  refine G.iand (pc := 28) dm_X1_numberJ_28 ?_
  refine G.ior (pc := 29) dm_X1_numberJ_29 ?_
  subst hres
  exact G.ireturn (pc := 30) dm_X1_numberJ_30 rfl rfl rfl
abbrev M_X1_numberU : g_M := (cX1_numberU, 1, RX1, (some .int), { frames := 0, cells := 0, slots := 0, locals := 0 }, 0, 0)
theorem dm_X1_numberU_0 : decode M_X1_numberU.1 0 = .ok (.iload_n 0, 1) := by decide +kernel
theorem dm_X1_numberU_1 : decode M_X1_numberU.1 1 = .ok (.sipush (-4096), 3) := by decide +kernel
theorem dm_X1_numberU_4 : decode M_X1_numberU.1 4 = .ok (.iand, 1) := by decide +kernel
theorem dm_X1_numberU_5 : decode M_X1_numberU.1 5 = .ok (.ireturn, 1) := by decide +kernel
def f_X1_numberU (x : Int32) : Int32 := (x &&& (-4096 : Int32))
set_option maxRecDepth 20000 in
theorem k_X1_numberU {x : Int32} {r_0 : Int32} (hres : r_0 = f_X1_numberU x) : K M_X1_numberU yX1_numberU [.int x] [] (some (.int r_0)) [] := by
  refine K.of (lv := [(0, .int x)]) (by decide +kernel) rfl rfl rfl ?_
  rw [f_X1_numberU] at hres
  refine G.iload_n (pc := 0) dm_X1_numberU_0 rfl ?_
  refine G.sipush (pc := 1) (v := (-4096 : Int32)) dm_X1_numberU_1 qs_m4096 ?_
  refine G.iand (pc := 4) dm_X1_numberU_4 ?_
  subst hres
  exact G.ireturn (pc := 5) dm_X1_numberU_5 rfl rfl rfl
abbrev M_X1_bitsOfS : g_M := (cX1_bitsOfS, 1, RX1, (some .int), { frames := 0, cells := 0, slots := 0, locals := 0 }, 0, 0)
theorem dm_X1_bitsOfS_0 : decode M_X1_bitsOfS.1 0 = .ok (.iload_n 0, 1) := by decide +kernel
theorem dm_X1_bitsOfS_1 : decode M_X1_bitsOfS.1 1 = .ok (.iconst 5, 1) := by decide +kernel
theorem dm_X1_bitsOfS_2 : decode M_X1_bitsOfS.1 2 = .ok (.ishr, 1) := by decide +kernel
theorem dm_X1_bitsOfS_3 : decode M_X1_bitsOfS.1 3 = .ok (.bipush 25, 2) := by decide +kernel
theorem dm_X1_bitsOfS_5 : decode M_X1_bitsOfS.1 5 = .ok (.ishl, 1) := by decide +kernel
theorem dm_X1_bitsOfS_6 : decode M_X1_bitsOfS.1 6 = .ok (.iload_n 0, 1) := by decide +kernel
theorem dm_X1_bitsOfS_7 : decode M_X1_bitsOfS.1 7 = .ok (.bipush 31, 2) := by decide +kernel
theorem dm_X1_bitsOfS_9 : decode M_X1_bitsOfS.1 9 = .ok (.iand, 1) := by decide +kernel
theorem dm_X1_bitsOfS_10 : decode M_X1_bitsOfS.1 10 = .ok (.bipush 7, 2) := by decide +kernel
theorem dm_X1_bitsOfS_12 : decode M_X1_bitsOfS.1 12 = .ok (.ishl, 1) := by decide +kernel
theorem dm_X1_bitsOfS_13 : decode M_X1_bitsOfS.1 13 = .ok (.ior, 1) := by decide +kernel
theorem dm_X1_bitsOfS_14 : decode M_X1_bitsOfS.1 14 = .ok (.ireturn, 1) := by decide +kernel
def f_X1_bitsOfS (x : Int32) : Int32 := (((x >>> ((5 : Int32) &&& 31)) <<< ((25 : Int32) &&& 31)) ||| ((x &&& (31 : Int32)) <<< ((7 : Int32) &&& 31)))
set_option maxRecDepth 20000 in
theorem k_X1_bitsOfS {x : Int32} {r_0 : Int32} (hres : r_0 = f_X1_bitsOfS x) : K M_X1_bitsOfS yX1_bitsOfS [.int x] [] (some (.int r_0)) [] := by
  refine K.of (lv := [(0, .int x)]) (by decide +kernel) rfl rfl rfl ?_
  rw [f_X1_bitsOfS] at hres
  refine G.iload_n (pc := 0) dm_X1_bitsOfS_0 rfl ?_
  refine G.iconst (pc := 1) (v := (5 : Int32)) dm_X1_bitsOfS_1 qi_5 ?_
  refine G.ishr (pc := 2) dm_X1_bitsOfS_2 ?_
  refine G.bipush (pc := 3) (v := (25 : Int32)) dm_X1_bitsOfS_3 qb_25 ?_
  refine G.ishl (pc := 5) dm_X1_bitsOfS_5 ?_
  refine G.iload_n (pc := 6) dm_X1_bitsOfS_6 rfl ?_
  refine G.bipush (pc := 7) (v := (31 : Int32)) dm_X1_bitsOfS_7 qb_31 ?_
  refine G.iand (pc := 9) dm_X1_bitsOfS_9 ?_
  refine G.bipush (pc := 10) (v := (7 : Int32)) dm_X1_bitsOfS_10 qb_7 ?_
  refine G.ishl (pc := 12) dm_X1_bitsOfS_12 ?_
  refine G.ior (pc := 13) dm_X1_bitsOfS_13 ?_
  subst hres
  exact G.ireturn (pc := 14) dm_X1_bitsOfS_14 rfl rfl rfl
abbrev M_X1_bitsOfB : g_M := (cX1_bitsOfB, 1, RX1, (some .int), { frames := 0, cells := 0, slots := 0, locals := 0 }, 0, 0)
theorem dm_X1_bitsOfB_0 : decode M_X1_bitsOfB.1 0 = .ok (.iload_n 0, 1) := by decide +kernel
theorem dm_X1_bitsOfB_1 : decode M_X1_bitsOfB.1 1 = .ok (.bipush 12, 2) := by decide +kernel
theorem dm_X1_bitsOfB_3 : decode M_X1_bitsOfB.1 3 = .ok (.ishr, 1) := by decide +kernel
theorem dm_X1_bitsOfB_4 : decode M_X1_bitsOfB.1 4 = .ok (.bipush 31, 2) := by decide +kernel
theorem dm_X1_bitsOfB_6 : decode M_X1_bitsOfB.1 6 = .ok (.ishl, 1) := by decide +kernel
theorem dm_X1_bitsOfB_7 : decode M_X1_bitsOfB.1 7 = .ok (.iload_n 0, 1) := by decide +kernel
theorem dm_X1_bitsOfB_8 : decode M_X1_bitsOfB.1 8 = .ok (.sipush 2016, 3) := by decide +kernel
theorem dm_X1_bitsOfB_11 : decode M_X1_bitsOfB.1 11 = .ok (.iand, 1) := by decide +kernel
theorem dm_X1_bitsOfB_12 : decode M_X1_bitsOfB.1 12 = .ok (.bipush 20, 2) := by decide +kernel
theorem dm_X1_bitsOfB_14 : decode M_X1_bitsOfB.1 14 = .ok (.ishl, 1) := by decide +kernel
theorem dm_X1_bitsOfB_15 : decode M_X1_bitsOfB.1 15 = .ok (.ior, 1) := by decide +kernel
theorem dm_X1_bitsOfB_16 : decode M_X1_bitsOfB.1 16 = .ok (.iload_n 0, 1) := by decide +kernel
theorem dm_X1_bitsOfB_17 : decode M_X1_bitsOfB.1 17 = .ok (.bipush 30, 2) := by decide +kernel
theorem dm_X1_bitsOfB_19 : decode M_X1_bitsOfB.1 19 = .ok (.iand, 1) := by decide +kernel
theorem dm_X1_bitsOfB_20 : decode M_X1_bitsOfB.1 20 = .ok (.bipush 7, 2) := by decide +kernel
theorem dm_X1_bitsOfB_22 : decode M_X1_bitsOfB.1 22 = .ok (.ishl, 1) := by decide +kernel
theorem dm_X1_bitsOfB_23 : decode M_X1_bitsOfB.1 23 = .ok (.ior, 1) := by decide +kernel
theorem dm_X1_bitsOfB_24 : decode M_X1_bitsOfB.1 24 = .ok (.iload_n 0, 1) := by decide +kernel
theorem dm_X1_bitsOfB_25 : decode M_X1_bitsOfB.1 25 = .ok (.sipush 2048, 3) := by decide +kernel
theorem dm_X1_bitsOfB_28 : decode M_X1_bitsOfB.1 28 = .ok (.iand, 1) := by decide +kernel
theorem dm_X1_bitsOfB_29 : decode M_X1_bitsOfB.1 29 = .ok (.iconst 4, 1) := by decide +kernel
theorem dm_X1_bitsOfB_30 : decode M_X1_bitsOfB.1 30 = .ok (.ishr, 1) := by decide +kernel
theorem dm_X1_bitsOfB_31 : decode M_X1_bitsOfB.1 31 = .ok (.ior, 1) := by decide +kernel
theorem dm_X1_bitsOfB_32 : decode M_X1_bitsOfB.1 32 = .ok (.ireturn, 1) := by decide +kernel
def f_X1_bitsOfB (x : Int32) : Int32 := (((((x >>> ((12 : Int32) &&& 31)) <<< ((31 : Int32) &&& 31)) ||| ((x &&& (2016 : Int32)) <<< ((20 : Int32) &&& 31))) ||| ((x &&& (30 : Int32)) <<< ((7 : Int32) &&& 31))) ||| ((x &&& (2048 : Int32)) >>> ((4 : Int32) &&& 31)))
set_option maxRecDepth 20000 in
theorem k_X1_bitsOfB {x : Int32} {r_0 : Int32} (hres : r_0 = f_X1_bitsOfB x) : K M_X1_bitsOfB yX1_bitsOfB [.int x] [] (some (.int r_0)) [] := by
  refine K.of (lv := [(0, .int x)]) (by decide +kernel) rfl rfl rfl ?_
  rw [f_X1_bitsOfB] at hres
  refine G.iload_n (pc := 0) dm_X1_bitsOfB_0 rfl ?_
  refine G.bipush (pc := 1) (v := (12 : Int32)) dm_X1_bitsOfB_1 qb_12 ?_
  refine G.ishr (pc := 3) dm_X1_bitsOfB_3 ?_
  refine G.bipush (pc := 4) (v := (31 : Int32)) dm_X1_bitsOfB_4 qb_31 ?_
  refine G.ishl (pc := 6) dm_X1_bitsOfB_6 ?_
  refine G.iload_n (pc := 7) dm_X1_bitsOfB_7 rfl ?_
  refine G.sipush (pc := 8) (v := (2016 : Int32)) dm_X1_bitsOfB_8 qs_2016 ?_
  refine G.iand (pc := 11) dm_X1_bitsOfB_11 ?_
  refine G.bipush (pc := 12) (v := (20 : Int32)) dm_X1_bitsOfB_12 qb_20 ?_
  refine G.ishl (pc := 14) dm_X1_bitsOfB_14 ?_
  refine G.ior (pc := 15) dm_X1_bitsOfB_15 ?_
  refine G.iload_n (pc := 16) dm_X1_bitsOfB_16 rfl ?_
  refine G.bipush (pc := 17) (v := (30 : Int32)) dm_X1_bitsOfB_17 qb_30 ?_
  refine G.iand (pc := 19) dm_X1_bitsOfB_19 ?_
  refine G.bipush (pc := 20) (v := (7 : Int32)) dm_X1_bitsOfB_20 qb_7 ?_
  refine G.ishl (pc := 22) dm_X1_bitsOfB_22 ?_
  refine G.ior (pc := 23) dm_X1_bitsOfB_23 ?_
  refine G.iload_n (pc := 24) dm_X1_bitsOfB_24 rfl ?_
  refine G.sipush (pc := 25) (v := (2048 : Int32)) dm_X1_bitsOfB_25 qs_2048 ?_
  refine G.iand (pc := 28) dm_X1_bitsOfB_28 ?_
  refine G.iconst (pc := 29) (v := (4 : Int32)) dm_X1_bitsOfB_29 qi_4 ?_
  refine G.ishr (pc := 30) dm_X1_bitsOfB_30 ?_
  refine G.ior (pc := 31) dm_X1_bitsOfB_31 ?_
  subst hres
  exact G.ireturn (pc := 32) dm_X1_bitsOfB_32 rfl rfl rfl
abbrev M_X1_bitsOfJ : g_M := (cX1_bitsOfJ, 1, RX1, (some .int), { frames := 0, cells := 0, slots := 0, locals := 0 }, 0, 0)
theorem dm_X1_bitsOfJ_0 : decode M_X1_bitsOfJ.1 0 = .ok (.iload_n 0, 1) := by decide +kernel
theorem dm_X1_bitsOfJ_1 : decode M_X1_bitsOfJ.1 1 = .ok (.bipush 20, 2) := by decide +kernel
theorem dm_X1_bitsOfJ_3 : decode M_X1_bitsOfJ.1 3 = .ok (.ishr, 1) := by decide +kernel
theorem dm_X1_bitsOfJ_4 : decode M_X1_bitsOfJ.1 4 = .ok (.bipush 31, 2) := by decide +kernel
theorem dm_X1_bitsOfJ_6 : decode M_X1_bitsOfJ.1 6 = .ok (.ishl, 1) := by decide +kernel
theorem dm_X1_bitsOfJ_7 : decode M_X1_bitsOfJ.1 7 = .ok (.iload_n 0, 1) := by decide +kernel
theorem dm_X1_bitsOfJ_8 : decode M_X1_bitsOfJ.1 8 = .ok (.sipush 2046, 3) := by decide +kernel
theorem dm_X1_bitsOfJ_11 : decode M_X1_bitsOfJ.1 11 = .ok (.iand, 1) := by decide +kernel
theorem dm_X1_bitsOfJ_12 : decode M_X1_bitsOfJ.1 12 = .ok (.bipush 20, 2) := by decide +kernel
theorem dm_X1_bitsOfJ_14 : decode M_X1_bitsOfJ.1 14 = .ok (.ishl, 1) := by decide +kernel
theorem dm_X1_bitsOfJ_15 : decode M_X1_bitsOfJ.1 15 = .ok (.ior, 1) := by decide +kernel
theorem dm_X1_bitsOfJ_16 : decode M_X1_bitsOfJ.1 16 = .ok (.iload_n 0, 1) := by decide +kernel
theorem dm_X1_bitsOfJ_17 : decode M_X1_bitsOfJ.1 17 = .ok (.sipush 2048, 3) := by decide +kernel
theorem dm_X1_bitsOfJ_20 : decode M_X1_bitsOfJ.1 20 = .ok (.iand, 1) := by decide +kernel
theorem dm_X1_bitsOfJ_21 : decode M_X1_bitsOfJ.1 21 = .ok (.bipush 9, 2) := by decide +kernel
theorem dm_X1_bitsOfJ_23 : decode M_X1_bitsOfJ.1 23 = .ok (.ishl, 1) := by decide +kernel
theorem dm_X1_bitsOfJ_24 : decode M_X1_bitsOfJ.1 24 = .ok (.ior, 1) := by decide +kernel
theorem dm_X1_bitsOfJ_25 : decode M_X1_bitsOfJ.1 25 = .ok (.iload_n 0, 1) := by decide +kernel
theorem dm_X1_bitsOfJ_26 : decode M_X1_bitsOfJ.1 26 = .ok (.ldc 15, 2) := by decide +kernel
theorem dm_X1_bitsOfJ_28 : decode M_X1_bitsOfJ.1 28 = .ok (.iand, 1) := by decide +kernel
theorem dm_X1_bitsOfJ_29 : decode M_X1_bitsOfJ.1 29 = .ok (.ior, 1) := by decide +kernel
theorem dm_X1_bitsOfJ_30 : decode M_X1_bitsOfJ.1 30 = .ok (.ireturn, 1) := by decide +kernel
def f_X1_bitsOfJ (x : Int32) : Int32 := (((((x >>> ((20 : Int32) &&& 31)) <<< ((31 : Int32) &&& 31)) ||| ((x &&& (2046 : Int32)) <<< ((20 : Int32) &&& 31))) ||| ((x &&& (2048 : Int32)) <<< ((9 : Int32) &&& 31))) ||| (x &&& (1044480 : Int32)))
set_option maxRecDepth 20000 in
theorem k_X1_bitsOfJ {x : Int32} {r_0 : Int32} (hres : r_0 = f_X1_bitsOfJ x) : K M_X1_bitsOfJ yX1_bitsOfJ [.int x] [] (some (.int r_0)) [] := by
  refine K.of (lv := [(0, .int x)]) (by decide +kernel) rfl rfl rfl ?_
  rw [f_X1_bitsOfJ] at hres
  refine G.iload_n (pc := 0) dm_X1_bitsOfJ_0 rfl ?_
  refine G.bipush (pc := 1) (v := (20 : Int32)) dm_X1_bitsOfJ_1 qb_20 ?_
  refine G.ishr (pc := 3) dm_X1_bitsOfJ_3 ?_
  refine G.bipush (pc := 4) (v := (31 : Int32)) dm_X1_bitsOfJ_4 qb_31 ?_
  refine G.ishl (pc := 6) dm_X1_bitsOfJ_6 ?_
  refine G.iload_n (pc := 7) dm_X1_bitsOfJ_7 rfl ?_
  refine G.sipush (pc := 8) (v := (2046 : Int32)) dm_X1_bitsOfJ_8 qs_2046 ?_
  refine G.iand (pc := 11) dm_X1_bitsOfJ_11 ?_
  refine G.bipush (pc := 12) (v := (20 : Int32)) dm_X1_bitsOfJ_12 qb_20 ?_
  refine G.ishl (pc := 14) dm_X1_bitsOfJ_14 ?_
  refine G.ior (pc := 15) dm_X1_bitsOfJ_15 ?_
  refine G.iload_n (pc := 16) dm_X1_bitsOfJ_16 rfl ?_
  refine G.sipush (pc := 17) (v := (2048 : Int32)) dm_X1_bitsOfJ_17 qs_2048 ?_
  refine G.iand (pc := 20) dm_X1_bitsOfJ_20 ?_
  refine G.bipush (pc := 21) (v := (9 : Int32)) dm_X1_bitsOfJ_21 qb_9 ?_
  refine G.ishl (pc := 23) dm_X1_bitsOfJ_23 ?_
  refine G.ior (pc := 24) dm_X1_bitsOfJ_24 ?_
  refine G.iload_n (pc := 25) dm_X1_bitsOfJ_25 rfl ?_
  refine G.ldc (pc := 26) dm_X1_bitsOfJ_26 tw370 ?_
  refine G.iand (pc := 28) dm_X1_bitsOfJ_28 ?_
  refine G.ior (pc := 29) dm_X1_bitsOfJ_29 ?_
  subst hres
  exact G.ireturn (pc := 30) dm_X1_bitsOfJ_30 rfl rfl rfl
abbrev M_X2_placeOf : g_M := (cX2_placeOf, 1, RX2, (some .int), { frames := 1, cells := 0, slots := 0, locals := 22 }, 0, 0)
theorem dm_X2_placeOf_0 : decode M_X2_placeOf.1 0 = .ok (.iload_n 0, 1) := by decide +kernel
theorem dm_X2_placeOf_1 : decode M_X2_placeOf.1 1 = .ok (.bipush 16, 2) := by decide +kernel
theorem dm_X2_placeOf_3 : decode M_X2_placeOf.1 3 = .ok (.invokestatic 29, 3) := by decide +kernel
theorem dm_X2_placeOf_6 : decode M_X2_placeOf.1 6 = .ok (.ireturn, 1) := by decide +kernel
theorem gc_X2_placeOf_29 : g_cs M_X2_placeOf 29 M_J9_floorMod_7cf53 yJ9_floorMod_7cf53 2 := ⟨tw760, tw605, tw606, tw607, ⟨rfl, rfl, rfl, rfl⟩, gd_J9_floorMod_7cf53, ⟨by decide, by decide⟩⟩
def f_X2_placeOf_c3 (z1_0 : Int32) : Int32 := z1_0
def f_X2_placeOf (x : Int32) : Int32 := (f_X2_placeOf_c3 (f_J9_floorMod_7cf53 x (16 : Int32)))
set_option maxRecDepth 20000 in
theorem k_X2_placeOf {x : Int32} {r_0 : Int32} (hres : r_0 = f_X2_placeOf x) : K M_X2_placeOf yX2_placeOf [.int x] [] (some (.int r_0)) [] := by
  refine K.of (lv := [(0, .int x)]) (by decide +kernel) rfl rfl rfl ?_
  rw [f_X2_placeOf] at hres
  refine G.iload_n (pc := 0) dm_X2_placeOf_0 rfl ?_
  refine G.bipush (pc := 1) (v := (16 : Int32)) dm_X2_placeOf_1 qb_16 ?_
  obtain ⟨z1_0, hz1⟩ : ∃ (z1_0 : Int32), z1_0 = f_J9_floorMod_7cf53 x (16 : Int32) := ⟨_, rfl⟩
  refine G.callS (pc := 3) (rest := []) (st1 := [.int z1_0]) (ws1 := []) [] dm_X2_placeOf_3 gc_X2_placeOf_29 (k_J9_floorMod_7cf53 (x := x) (y := (16 : Int32)) (by decide) hz1) rfl rfl rfl rfl rfl rfl rfl rfl ?_
  replace hres : r_0 = f_X2_placeOf_c3 z1_0 := hres.trans (by rw [← hz1])
  rw [f_X2_placeOf_c3] at hres
  subst hres
  exact G.ireturn (pc := 6) dm_X2_placeOf_6 rfl rfl rfl
abbrev M_X3_find : g_M := (cX3_find, 4, RX3, (some .int), { frames := 0, cells := 0, slots := 0, locals := 0 }, 0, 0)
theorem dm_X3_find_0 : decode M_X3_find.1 0 = .ok (.iconst 0, 1) := by decide +kernel
theorem dm_X3_find_1 : decode M_X3_find.1 1 = .ok (.istore_n 3, 1) := by decide +kernel
theorem dm_X3_find_2 : decode M_X3_find.1 2 = .ok (.iload_n 3, 1) := by decide +kernel
theorem dm_X3_find_3 : decode M_X3_find.1 3 = .ok (.aload_n 0, 1) := by decide +kernel
theorem dm_X3_find_4 : decode M_X3_find.1 4 = .ok (.getfield 19, 3) := by decide +kernel
theorem dm_X3_find_7 : decode M_X3_find.1 7 = .ok (.if_icmp .ge 27, 3) := by decide +kernel
theorem dm_X3_find_10 : decode M_X3_find.1 10 = .ok (.aload_n 0, 1) := by decide +kernel
theorem dm_X3_find_11 : decode M_X3_find.1 11 = .ok (.getfield 9, 3) := by decide +kernel
theorem dm_X3_find_14 : decode M_X3_find.1 14 = .ok (.iload_n 3, 1) := by decide +kernel
theorem dm_X3_find_15 : decode M_X3_find.1 15 = .ok (.laload, 1) := by decide +kernel
theorem dm_X3_find_16 : decode M_X3_find.1 16 = .ok (.lload_n 1, 1) := by decide +kernel
theorem dm_X3_find_17 : decode M_X3_find.1 17 = .ok (.lcmp, 1) := by decide +kernel
theorem dm_X3_find_18 : decode M_X3_find.1 18 = .ok (.ifCond .ne 10, 3) := by decide +kernel
theorem dm_X3_find_21 : decode M_X3_find.1 21 = .ok (.aload_n 0, 1) := by decide +kernel
theorem dm_X3_find_22 : decode M_X3_find.1 22 = .ok (.getfield 15, 3) := by decide +kernel
theorem dm_X3_find_25 : decode M_X3_find.1 25 = .ok (.iload_n 3, 1) := by decide +kernel
theorem dm_X3_find_26 : decode M_X3_find.1 26 = .ok (.iaload, 1) := by decide +kernel
theorem dm_X3_find_27 : decode M_X3_find.1 27 = .ok (.ireturn, 1) := by decide +kernel
theorem dm_X3_find_28 : decode M_X3_find.1 28 = .ok (.iinc 3 1, 3) := by decide +kernel
theorem dm_X3_find_31 : decode M_X3_find.1 31 = .ok (.goto (-29), 3) := by decide +kernel
theorem dm_X3_find_34 : decode M_X3_find.1 34 = .ok (.iconst (-1), 1) := by decide +kernel
theorem dm_X3_find_35 : decode M_X3_find.1 35 = .ok (.ireturn, 1) := by decide +kernel
def f_X3_find_2 (lcount : Int32) (lkeys : Nat → Int64) (lplaces : Nat → Int32) : Nat → Int64 → Int32 → Int32
  | 0, l1, l3 => 0
  | n + 1, l1, l3 => (if lcount ≤ l3 then (-1 : Int32) else (if (lg_cmp (lkeys (Int32.toNatClampNeg l3)) l1) = 0 then (lplaces (Int32.toNatClampNeg l3)) else ((f_X3_find_2 lcount lkeys lplaces n) l1 (l3 + (1 : Int32)))))
set_option maxRecDepth 20000 in
theorem j_X3_find_2 : ∀ (n : Nat) {l1 : Int64} {l3 : Int32} {lcount : Int32} {lkeys : Nat → Int64} {lplaces : Nat → Int32} {r_0 : Int32}, (hlc : lcount.toInt ≤ 16) → (h0 : 0 ≤ l3.toInt) → (16 - l3.toInt.toNat) < n → r_0 = f_X3_find_2 lcount lkeys lplaces n l1 l3 → G M_X3_find 0 0 2 [(0, .ref 0), (1, .long l1), (3, .int l3)] [] (w_L lcount lkeys lplaces) (some (.int r_0)) (w_L lcount lkeys lplaces) := by
  intro n
  induction n with
  | zero =>
    intro l1 l3 lcount lkeys lplaces r_0 hlc h0 hm hres
    exact absurd hm (Nat.not_lt_zero _)
  | succ n ih =>
    intro l1 l3 lcount lkeys lplaces r_0 hlc h0 hm hres
    obtain ⟨mu, hmu⟩ : ∃ z, (16 - l3.toInt.toNat) = z := ⟨_, rfl⟩
    rw [hmu] at hm
    have hk2 : ∀ {l1 : Int64} {l3 : Int32} {lcount : Int32} {lkeys : Nat → Int64} {lplaces : Nat → Int32}, (lcount.toInt ≤ 16) → (0 ≤ l3.toInt) → (16 - l3.toInt.toNat) < mu → r_0 = (f_X3_find_2 lcount lkeys lplaces n) l1 l3 → G M_X3_find 0 0 2 [(0, .ref 0), (1, .long l1), (3, .int l3)] [] (w_L lcount lkeys lplaces) (some (.int r_0)) (w_L lcount lkeys lplaces) := fun hlc h0 hlt he => ih hlc h0 (Nat.lt_of_lt_of_le hlt (Nat.le_of_lt_succ hm)) he
    rw [f_X3_find_2] at hres
    refine G.iload_n (pc := 2) dm_X3_find_2 rfl ?_
    refine G.aload_n (pc := 3) dm_X3_find_3 rfl ?_
    refine G.getfield (pc := 4) dm_X3_find_4 gf_X3_19 rfl rfl ?_
    refine G.icmp_ge (pc := 7) (tgt := 34) dm_X3_find_7 (by decide) (fun c7 => ?_) (fun c7 => ?_)
    · rw [if_pos c7] at hres
      refine G.iconst (pc := 34) (v := (-1 : Int32)) dm_X3_find_34 qi_m1 ?_
      subst hres
      exact G.ireturn (pc := 35) dm_X3_find_35 rfl rfl rfl
    · rw [if_neg c7] at hres
      refine G.aload_n (pc := 10) dm_X3_find_10 rfl ?_
      refine G.getfield (pc := 11) dm_X3_find_11 gf_X3_9 rfl rfl ?_
      refine G.iload_n (pc := 14) dm_X3_find_14 rfl ?_
      refine G.laload (pc := 15) dm_X3_find_15 rfl (q_in h0 (by have := q_nle c7; omega)) ?_
      refine G.lload_n (pc := 16) dm_X3_find_16 rfl ?_
      refine G.lcmp (pc := 17) dm_X3_find_17 ?_
      refine G.if_ne (pc := 18) (tgt := 28) dm_X3_find_18 (by decide) (fun c18 => ?_) (fun c18 => ?_)
      · rw [if_neg c18] at hres
        refine G.iinc (pc := 28) (v := (l3 + (1 : Int32))) (lv1 := [(3, .int (l3 + (1 : Int32))), (0, .ref 0), (1, .long l1)]) dm_X3_find_28 rfl rfl rfl rfl ?_
        refine G.goto (pc := 31) (tgt := 2) dm_X3_find_31 (by decide) ?_
        refine G.lvp [1, 2, 0] rfl ?_
        exact hk2 hlc (by have := q_nle c7; rw [q_inc (by omega)]; omega) (by have := q_nle c7; rw [q_inc (by omega)]; omega) hres
      · rw [if_pos c18] at hres
        refine G.aload_n (pc := 21) dm_X3_find_21 rfl ?_
        refine G.getfield (pc := 22) dm_X3_find_22 gf_X3_15 rfl rfl ?_
        refine G.iload_n (pc := 25) dm_X3_find_25 rfl ?_
        refine G.iaload (pc := 26) dm_X3_find_26 rfl (q_in h0 (by have := q_nle c7; omega)) ?_
        subst hres
        exact G.ireturn (pc := 27) dm_X3_find_27 rfl rfl rfl
def f_X3_find (key : Int64) (lcount : Int32) (lkeys : Nat → Int64) (lplaces : Nat → Int32) : Int32 := (f_X3_find_2 lcount lkeys lplaces (17) key (0 : Int32))
set_option maxRecDepth 20000 in
theorem k_X3_find {key : Int64} {lcount : Int32} {lkeys : Nat → Int64} {lplaces : Nat → Int32} (hlc : lcount.toInt ≤ 16) {r_0 : Int32} (hres : r_0 = f_X3_find key lcount lkeys lplaces) : K M_X3_find yX3_find [.ref 0, .long key] (w_L lcount lkeys lplaces) (some (.int r_0)) (w_L lcount lkeys lplaces) := by
  refine K.of (lv := [(0, .ref 0), (1, .long key)]) (by decide +kernel) rfl rfl rfl ?_
  rw [f_X3_find] at hres
  refine G.iconst (pc := 0) (v := (0 : Int32)) dm_X3_find_0 qi_0 ?_
  refine G.istore_n (pc := 1) (lv1 := [(3, .int (0 : Int32)), (0, .ref 0), (1, .long key)]) dm_X3_find_1 rfl rfl ?_
  refine G.lvp [1, 2, 0] rfl ?_
  exact j_X3_find_2 _ hlc (by decide) (by decide) hres
end
section
set_option maxRecDepth 100000 in
def w_M (refusal : Int32) (wheel : Int32) (now : Int32) (length : Int32) (at_ : Int32) (fault : Int32) (faultLine : Int32) (line : Int32) (words : Int32) (labels : Int32) (targets : Int32) (wrong : Int32) (unfit : Int32) (text : Nat → Int32) (code_ : Nat → Int32) (label : Nat → Int64) (labelWord : Nat → Int32) (target : Nat → Int64) (targetWord : Nat → Int32) (targetLine : Nat → Int32) (store : Nat → Int32) (common : Nat → Int32) (low : Nat → Int32) (high : Nat → Int32) (register : Nat → Int32) (address : Nat → Int32) (status : Nat → Int32) (did : Nat → Int32) (ready : Nat → Int32) (timer : Nat → Int32) (trace : Nat → Int32) : List va_E := [.inr (8, [.int refusal, .int wheel, .int now, .ref 1, .int length, .int at_, .int fault, .int faultLine, .int line, .int words, .int labels, .int targets, .int wrong, .int unfit, .ref 2, .ref 3, .ref 4, .ref 5, .ref 6, .ref 7, .ref 8, .ref 9, .ref 10, .ref 11, .ref 12, .ref 13, .ref 14, .ref 15, .ref 16, .ref 17, .ref 18]), .inl (0, 400, .inl text), .inl (1, 128, .inl code_), .inl (2, 16, .inr (.inl label)), .inl (1, 16, .inl labelWord), .inl (2, 128, .inr (.inl target)), .inl (1, 128, .inl targetWord), .inl (1, 128, .inl targetLine), .inl (1, 512, .inl store), .inl (1, 64, .inl common), .inl (1, 4, .inl low), .inl (1, 4, .inl high), .inl (1, 64, .inl register), .inl (1, 4, .inl address), .inl (1, 4, .inl status), .inl (1, 4, .inl did), .inl (1, 4, .inl ready), .inl (1, 16, .inl timer), .inl (1, 192, .inl trace)]
theorem q_cl {t : Int32} (ht : 0 ≤ t.toInt ∧ t.toInt < 4) : t.toNatClampNeg < 4 := by
  rw [pk_cl t.toInt.toNat (q_nI ht.1)]; omega
theorem q_one {x : Int32} (h : 0 ≤ x.toInt ∧ x.toInt ≤ 1) (c : ¬ x = 1) : x = 0 := by
  have h1 : (1 : Int32).toInt = 1 := by decide
  have h0 : (0 : Int32).toInt = 0 := by decide
  rcases (show x.toInt = 0 ∨ x.toInt = 1 by omega) with e | e
  · exact Int32.toInt_inj.mp (by rw [e, h0])
  · exact absurd (Int32.toInt_inj.mp (by rw [e, h1])) c
theorem gd_X11_thrown : yX11_thrown.cls ≠ "java/lang/invoke/MethodHandle" ∧ yX11_thrown.cls ≠ "java/lang/invoke/VarHandle" ∧ (parseMethodDescriptor yX11_thrown.desc).map (fun d => d.parameters.length) = some 0 := ⟨by decide, by decide, by decide +kernel⟩
theorem gd_X11_refuse : yX11_refuse.cls ≠ "java/lang/invoke/MethodHandle" ∧ yX11_refuse.cls ≠ "java/lang/invoke/VarHandle" ∧ (parseMethodDescriptor yX11_refuse.desc).map (fun d => d.parameters.length) = some 1 := ⟨by decide, by decide, by decide +kernel⟩
theorem gd_X11_isOwn : yX11_isOwn.cls ≠ "java/lang/invoke/MethodHandle" ∧ yX11_isOwn.cls ≠ "java/lang/invoke/VarHandle" ∧ (parseMethodDescriptor yX11_isOwn.desc).map (fun d => d.parameters.length) = some 1 := ⟨by decide, by decide, by decide +kernel⟩
theorem gd_X11_isLess : yX11_isLess.cls ≠ "java/lang/invoke/MethodHandle" ∧ yX11_isLess.cls ≠ "java/lang/invoke/VarHandle" ∧ (parseMethodDescriptor yX11_isLess.desc).map (fun d => d.parameters.length) = some 2 := ⟨by decide, by decide, by decide +kernel⟩
theorem gd_X11_worked : yX11_worked.cls ≠ "java/lang/invoke/MethodHandle" ∧ yX11_worked.cls ≠ "java/lang/invoke/VarHandle" ∧ (parseMethodDescriptor yX11_worked.desc).map (fun d => d.parameters.length) = some 4 := ⟨by decide, by decide, by decide +kernel⟩
theorem gd_X11_goes : yX11_goes.cls ≠ "java/lang/invoke/MethodHandle" ∧ yX11_goes.cls ≠ "java/lang/invoke/VarHandle" ∧ (parseMethodDescriptor yX11_goes.desc).map (fun d => d.parameters.length) = some 3 := ⟨by decide, by decide, by decide +kernel⟩
theorem gd_X11_stop : yX11_stop.cls ≠ "java/lang/invoke/MethodHandle" ∧ yX11_stop.cls ≠ "java/lang/invoke/VarHandle" ∧ (parseMethodDescriptor yX11_stop.desc).map (fun d => d.parameters.length) = some 1 := ⟨by decide, by decide, by decide +kernel⟩
theorem gd_X11_set : yX11_set.cls ≠ "java/lang/invoke/MethodHandle" ∧ yX11_set.cls ≠ "java/lang/invoke/VarHandle" ∧ (parseMethodDescriptor yX11_set.desc).map (fun d => d.parameters.length) = some 3 := ⟨by decide, by decide, by decide +kernel⟩
theorem gd_X11_done : yX11_done.cls ≠ "java/lang/invoke/MethodHandle" ∧ yX11_done.cls ≠ "java/lang/invoke/VarHandle" ∧ (parseMethodDescriptor yX11_done.desc).map (fun d => d.parameters.length) = some 3 := ⟨by decide, by decide, by decide +kernel⟩
theorem gd_X11_isThere : yX11_isThere.cls ≠ "java/lang/invoke/MethodHandle" ∧ yX11_isThere.cls ≠ "java/lang/invoke/VarHandle" ∧ (parseMethodDescriptor yX11_isThere.desc).map (fun d => d.parameters.length) = some 3 := ⟨by decide, by decide, by decide +kernel⟩
theorem gd_X11_wordAt : yX11_wordAt.cls ≠ "java/lang/invoke/MethodHandle" ∧ yX11_wordAt.cls ≠ "java/lang/invoke/VarHandle" ∧ (parseMethodDescriptor yX11_wordAt.desc).map (fun d => d.parameters.length) = some 2 := ⟨by decide, by decide, by decide +kernel⟩
theorem gd_X11_put : yX11_put.cls ≠ "java/lang/invoke/MethodHandle" ∧ yX11_put.cls ≠ "java/lang/invoke/VarHandle" ∧ (parseMethodDescriptor yX11_put.desc).map (fun d => d.parameters.length) = some 3 := ⟨by decide, by decide, by decide +kernel⟩
theorem gd_X11_first : yX11_first.cls ≠ "java/lang/invoke/MethodHandle" ∧ yX11_first.cls ≠ "java/lang/invoke/VarHandle" ∧ (parseMethodDescriptor yX11_first.desc).map (fun d => d.parameters.length) = some 1 := ⟨by decide, by decide, by decide +kernel⟩
theorem gd_X11_moveWord : yX11_moveWord.cls ≠ "java/lang/invoke/MethodHandle" ∧ yX11_moveWord.cls ≠ "java/lang/invoke/VarHandle" ∧ (parseMethodDescriptor yX11_moveWord.desc).map (fun d => d.parameters.length) = some 3 := ⟨by decide, by decide, by decide +kernel⟩
theorem gd_X11_calculate : yX11_calculate.cls ≠ "java/lang/invoke/MethodHandle" ∧ yX11_calculate.cls ≠ "java/lang/invoke/VarHandle" ∧ (parseMethodDescriptor yX11_calculate.desc).map (fun d => d.parameters.length) = some 3 := ⟨by decide, by decide, by decide +kernel⟩
theorem gd_X11_jump : yX11_jump.cls ≠ "java/lang/invoke/MethodHandle" ∧ yX11_jump.cls ≠ "java/lang/invoke/VarHandle" ∧ (parseMethodDescriptor yX11_jump.desc).map (fun d => d.parameters.length) = some 3 := ⟨by decide, by decide, by decide +kernel⟩
theorem gd_X11_branch : yX11_branch.cls ≠ "java/lang/invoke/MethodHandle" ∧ yX11_branch.cls ≠ "java/lang/invoke/VarHandle" ∧ (parseMethodDescriptor yX11_branch.desc).map (fun d => d.parameters.length) = some 2 := ⟨by decide, by decide, by decide +kernel⟩
theorem gd_X11_clock : yX11_clock.cls ≠ "java/lang/invoke/MethodHandle" ∧ yX11_clock.cls ≠ "java/lang/invoke/VarHandle" ∧ (parseMethodDescriptor yX11_clock.desc).map (fun d => d.parameters.length) = some 2 := ⟨by decide, by decide, by decide +kernel⟩
theorem gd_X11_turn : yX11_turn.cls ≠ "java/lang/invoke/MethodHandle" ∧ yX11_turn.cls ≠ "java/lang/invoke/VarHandle" ∧ (parseMethodDescriptor yX11_turn.desc).map (fun d => d.parameters.length) = some 1 := ⟨by decide, by decide, by decide +kernel⟩
theorem gd_X11_clear : yX11_clear.cls ≠ "java/lang/invoke/MethodHandle" ∧ yX11_clear.cls ≠ "java/lang/invoke/VarHandle" ∧ (parseMethodDescriptor yX11_clear.desc).map (fun d => d.parameters.length) = some 0 := ⟨by decide, by decide, by decide +kernel⟩
theorem gd_X11_fault : yX11_fault.cls ≠ "java/lang/invoke/MethodHandle" ∧ yX11_fault.cls ≠ "java/lang/invoke/VarHandle" ∧ (parseMethodDescriptor yX11_fault.desc).map (fun d => d.parameters.length) = some 1 := ⟨by decide, by decide, by decide +kernel⟩
theorem gd_X11_now : yX11_now.cls ≠ "java/lang/invoke/MethodHandle" ∧ yX11_now.cls ≠ "java/lang/invoke/VarHandle" ∧ (parseMethodDescriptor yX11_now.desc).map (fun d => d.parameters.length) = some 0 := ⟨by decide, by decide, by decide +kernel⟩
theorem gd_X11_peek : yX11_peek.cls ≠ "java/lang/invoke/MethodHandle" ∧ yX11_peek.cls ≠ "java/lang/invoke/VarHandle" ∧ (parseMethodDescriptor yX11_peek.desc).map (fun d => d.parameters.length) = some 2 := ⟨by decide, by decide, by decide +kernel⟩
theorem gd_X11_poke : yX11_poke.cls ≠ "java/lang/invoke/MethodHandle" ∧ yX11_poke.cls ≠ "java/lang/invoke/VarHandle" ∧ (parseMethodDescriptor yX11_poke.desc).map (fun d => d.parameters.length) = some 3 := ⟨by decide, by decide, by decide +kernel⟩
theorem gd_X11_shared : yX11_shared.cls ≠ "java/lang/invoke/MethodHandle" ∧ yX11_shared.cls ≠ "java/lang/invoke/VarHandle" ∧ (parseMethodDescriptor yX11_shared.desc).map (fun d => d.parameters.length) = some 1 := ⟨by decide, by decide, by decide +kernel⟩
theorem gd_X11_part : yX11_part.cls ≠ "java/lang/invoke/MethodHandle" ∧ yX11_part.cls ≠ "java/lang/invoke/VarHandle" ∧ (parseMethodDescriptor yX11_part.desc).map (fun d => d.parameters.length) = some 3 := ⟨by decide, by decide, by decide +kernel⟩
theorem gd_X11_start : yX11_start.cls ≠ "java/lang/invoke/MethodHandle" ∧ yX11_start.cls ≠ "java/lang/invoke/VarHandle" ∧ (parseMethodDescriptor yX11_start.desc).map (fun d => d.parameters.length) = some 2 := ⟨by decide, by decide, by decide +kernel⟩
theorem gd_X11_register : yX11_register.cls ≠ "java/lang/invoke/MethodHandle" ∧ yX11_register.cls ≠ "java/lang/invoke/VarHandle" ∧ (parseMethodDescriptor yX11_register.desc).map (fun d => d.parameters.length) = some 2 := ⟨by decide, by decide, by decide +kernel⟩
theorem gd_X11_state : yX11_state.cls ≠ "java/lang/invoke/MethodHandle" ∧ yX11_state.cls ≠ "java/lang/invoke/VarHandle" ∧ (parseMethodDescriptor yX11_state.desc).map (fun d => d.parameters.length) = some 2 := ⟨by decide, by decide, by decide +kernel⟩
theorem gd_X11_trace : yX11_trace.cls ≠ "java/lang/invoke/MethodHandle" ∧ yX11_trace.cls ≠ "java/lang/invoke/VarHandle" ∧ (parseMethodDescriptor yX11_trace.desc).map (fun d => d.parameters.length) = some 3 := ⟨by decide, by decide, by decide +kernel⟩
abbrev M_X11_thrown : g_M := (cX11_thrown, 1, RX11, (some .int), { frames := 0, cells := 0, slots := 0, locals := 0 }, 0, 0)
theorem dm_X11_thrown_0 : decode M_X11_thrown.1 0 = .ok (.aload_n 0, 1) := by decide +kernel
theorem dm_X11_thrown_1 : decode M_X11_thrown.1 1 = .ok (.getfield 70, 3) := by decide +kernel
theorem dm_X11_thrown_4 : decode M_X11_thrown.1 4 = .ok (.ireturn, 1) := by decide +kernel
def f_X11_thrown (refusal : Int32) : Int32 := refusal
set_option maxRecDepth 20000 in
theorem k_X11_thrown {refusal : Int32} {wheel : Int32} {now : Int32} {length : Int32} {at_ : Int32} {fault : Int32} {faultLine : Int32} {line : Int32} {words : Int32} {labels : Int32} {targets : Int32} {wrong : Int32} {unfit : Int32} {text : Nat → Int32} {code_ : Nat → Int32} {label : Nat → Int64} {labelWord : Nat → Int32} {target : Nat → Int64} {targetWord : Nat → Int32} {targetLine : Nat → Int32} {store : Nat → Int32} {common : Nat → Int32} {low : Nat → Int32} {high : Nat → Int32} {register : Nat → Int32} {address : Nat → Int32} {status : Nat → Int32} {did : Nat → Int32} {ready : Nat → Int32} {timer : Nat → Int32} {trace : Nat → Int32} {r_0 : Int32} (hres : r_0 = f_X11_thrown refusal) : K M_X11_thrown yX11_thrown [.ref 0] (w_M refusal wheel now length at_ fault faultLine line words labels targets wrong unfit text code_ label labelWord target targetWord targetLine store common low high register address status did ready timer trace) (some (.int r_0)) (w_M refusal wheel now length at_ fault faultLine line words labels targets wrong unfit text code_ label labelWord target targetWord targetLine store common low high register address status did ready timer trace) := by
  refine K.of (lv := [(0, .ref 0)]) (by decide +kernel) rfl rfl rfl ?_
  rw [f_X11_thrown] at hres
  refine G.aload_n (pc := 0) dm_X11_thrown_0 rfl ?_
  refine G.getfield (pc := 1) dm_X11_thrown_1 gf_X11_70 rfl rfl ?_
  subst hres
  exact G.ireturn (pc := 4) dm_X11_thrown_4 rfl rfl rfl
abbrev M_X11_refuse : g_M := (cX11_refuse, 2, RX11, (some .int), { frames := 0, cells := 0, slots := 0, locals := 0 }, 0, 0)
theorem dm_X11_refuse_0 : decode M_X11_refuse.1 0 = .ok (.aload_n 0, 1) := by decide +kernel
theorem dm_X11_refuse_1 : decode M_X11_refuse.1 1 = .ok (.iload_n 1, 1) := by decide +kernel
theorem dm_X11_refuse_2 : decode M_X11_refuse.1 2 = .ok (.putfield 70, 3) := by decide +kernel
theorem dm_X11_refuse_5 : decode M_X11_refuse.1 5 = .ok (.iconst 0, 1) := by decide +kernel
theorem dm_X11_refuse_6 : decode M_X11_refuse.1 6 = .ok (.ireturn, 1) := by decide +kernel
def f_X11_refuse (code : Int32) : Int32 × Int32 := ((0 : Int32), code)
set_option maxRecDepth 20000 in
theorem k_X11_refuse {code : Int32} {refusal : Int32} {wheel : Int32} {now : Int32} {length : Int32} {at_ : Int32} {fault : Int32} {faultLine : Int32} {line : Int32} {words : Int32} {labels : Int32} {targets : Int32} {wrong : Int32} {unfit : Int32} {text : Nat → Int32} {code_ : Nat → Int32} {label : Nat → Int64} {labelWord : Nat → Int32} {target : Nat → Int64} {targetWord : Nat → Int32} {targetLine : Nat → Int32} {store : Nat → Int32} {common : Nat → Int32} {low : Nat → Int32} {high : Nat → Int32} {register : Nat → Int32} {address : Nat → Int32} {status : Nat → Int32} {did : Nat → Int32} {ready : Nat → Int32} {timer : Nat → Int32} {trace : Nat → Int32} {r_0 : Int32} {r_1 : Int32} (hres : (r_0, r_1) = f_X11_refuse code) : K M_X11_refuse yX11_refuse [.ref 0, .int code] (w_M refusal wheel now length at_ fault faultLine line words labels targets wrong unfit text code_ label labelWord target targetWord targetLine store common low high register address status did ready timer trace) (some (.int r_0)) (w_M r_1 wheel now length at_ fault faultLine line words labels targets wrong unfit text code_ label labelWord target targetWord targetLine store common low high register address status did ready timer trace) := by
  refine K.of (lv := [(0, .ref 0), (1, .int code)]) (by decide +kernel) rfl rfl rfl ?_
  rw [f_X11_refuse] at hres
  refine G.aload_n (pc := 0) dm_X11_refuse_0 rfl ?_
  refine G.iload_n (pc := 1) dm_X11_refuse_1 rfl ?_
  refine G.putfield (pc := 2) (ws1 := (w_M code wheel now length at_ fault faultLine line words labels targets wrong unfit text code_ label labelWord target targetWord targetLine store common low high register address status did ready timer trace)) dm_X11_refuse_2 gw_X11_70 rfl (g_fit_i _) rfl rfl ?_
  refine G.iconst (pc := 5) (v := (0 : Int32)) dm_X11_refuse_5 qi_0 ?_
  cases hres
  exact G.ireturn (pc := 6) dm_X11_refuse_6 rfl rfl rfl
abbrev M_X11_isOwn : g_M := (cX11_isOwn, 1, RX11, (some .boolean), { frames := 0, cells := 0, slots := 0, locals := 0 }, 0, 0)
theorem dm_X11_isOwn_0 : decode M_X11_isOwn.1 0 = .ok (.iload_n 0, 1) := by decide +kernel
theorem dm_X11_isOwn_1 : decode M_X11_isOwn.1 1 = .ok (.ifCond .lt 14, 3) := by decide +kernel
theorem dm_X11_isOwn_4 : decode M_X11_isOwn.1 4 = .ok (.iload_n 0, 1) := by decide +kernel
theorem dm_X11_isOwn_5 : decode M_X11_isOwn.1 5 = .ok (.sipush 512, 3) := by decide +kernel
theorem dm_X11_isOwn_8 : decode M_X11_isOwn.1 8 = .ok (.if_icmp .ge 7, 3) := by decide +kernel
theorem dm_X11_isOwn_11 : decode M_X11_isOwn.1 11 = .ok (.iconst 1, 1) := by decide +kernel
theorem dm_X11_isOwn_12 : decode M_X11_isOwn.1 12 = .ok (.goto 4, 3) := by decide +kernel
theorem dm_X11_isOwn_15 : decode M_X11_isOwn.1 15 = .ok (.iconst 0, 1) := by decide +kernel
theorem dm_X11_isOwn_16 : decode M_X11_isOwn.1 16 = .ok (.ireturn, 1) := by decide +kernel
def f_X11_isOwn (a : Int32) : Int32 := (if a < 0 then (0 : Int32) else (if (512 : Int32) ≤ a then (0 : Int32) else (1 : Int32)))
set_option maxRecDepth 20000 in
theorem k_X11_isOwn {a : Int32} {r_0 : Int32} (hres : r_0 = f_X11_isOwn a) : K M_X11_isOwn yX11_isOwn [.int a] [] (some (.int r_0)) [] := by
  refine K.of (lv := [(0, .int a)]) (by decide +kernel) rfl rfl rfl ?_
  rw [f_X11_isOwn] at hres
  refine G.iload_n (pc := 0) dm_X11_isOwn_0 rfl ?_
  refine G.if_lt (pc := 1) (tgt := 15) dm_X11_isOwn_1 (by decide) (fun c1 => ?_) (fun c1 => ?_)
  · rw [if_pos c1] at hres
    refine G.iconst (pc := 15) (v := (0 : Int32)) dm_X11_isOwn_15 qi_0 ?_
    subst hres
    exact G.zreturn (pc := 16) dm_X11_isOwn_16 rfl (by decide) rfl rfl
  · rw [if_neg c1] at hres
    refine G.iload_n (pc := 4) dm_X11_isOwn_4 rfl ?_
    refine G.sipush (pc := 5) (v := (512 : Int32)) dm_X11_isOwn_5 qs_512 ?_
    refine G.icmp_ge (pc := 8) (tgt := 15) dm_X11_isOwn_8 (by decide) (fun c8 => ?_) (fun c8 => ?_)
    · rw [if_pos c8] at hres
      refine G.iconst (pc := 15) (v := (0 : Int32)) dm_X11_isOwn_15 qi_0 ?_
      subst hres
      exact G.zreturn (pc := 16) dm_X11_isOwn_16 rfl (by decide) rfl rfl
    · rw [if_neg c8] at hres
      refine G.iconst (pc := 11) (v := (1 : Int32)) dm_X11_isOwn_11 qi_1 ?_
      refine G.goto (pc := 12) (tgt := 16) dm_X11_isOwn_12 (by decide) ?_
      subst hres
      exact G.zreturn (pc := 16) dm_X11_isOwn_16 rfl (by decide) rfl rfl
theorem a_isOwn {a z : Int32} (h : f_X11_isOwn a = z) : (¬ z = 0 → 0 ≤ a.toInt ∧ a.toInt < 512) ∧ (z = 0 → a.toInt < 0 ∨ 512 ≤ a.toInt) := by
  have h1 : (512 : Int32).toInt = 512 := by decide
  have h2 : (0 : Int32).toInt = 0 := by decide
  subst h
  unfold f_X11_isOwn
  constructor
  · intro h
    split at h
    · exact absurd rfl h
    · rename_i c1
      split at h
      · exact absurd rfl h
      · rename_i c2
        have := q_nlt c1
        have := q_nle c2
        omega
  · intro h
    split at h
    · rename_i c1
      have := q_lt c1
      omega
    · split at h
      · rename_i c2
        have := q_le c2
        omega
      · exact absurd h (by decide)
abbrev M_X11_isLess : g_M := (cX11_isLess, 2, RX11, (some .boolean), { frames := 0, cells := 0, slots := 0, locals := 0 }, 0, 0)
theorem dm_X11_isLess_0 : decode M_X11_isLess.1 0 = .ok (.iload_n 0, 1) := by decide +kernel
theorem dm_X11_isLess_1 : decode M_X11_isLess.1 1 = .ok (.ldc_w 294, 3) := by decide +kernel
theorem dm_X11_isLess_4 : decode M_X11_isLess.1 4 = .ok (.ixor, 1) := by decide +kernel
theorem dm_X11_isLess_5 : decode M_X11_isLess.1 5 = .ok (.iload_n 1, 1) := by decide +kernel
theorem dm_X11_isLess_6 : decode M_X11_isLess.1 6 = .ok (.ldc_w 294, 3) := by decide +kernel
theorem dm_X11_isLess_9 : decode M_X11_isLess.1 9 = .ok (.ixor, 1) := by decide +kernel
theorem dm_X11_isLess_10 : decode M_X11_isLess.1 10 = .ok (.if_icmp .ge 7, 3) := by decide +kernel
theorem dm_X11_isLess_13 : decode M_X11_isLess.1 13 = .ok (.iconst 1, 1) := by decide +kernel
theorem dm_X11_isLess_14 : decode M_X11_isLess.1 14 = .ok (.goto 4, 3) := by decide +kernel
theorem dm_X11_isLess_17 : decode M_X11_isLess.1 17 = .ok (.iconst 0, 1) := by decide +kernel
theorem dm_X11_isLess_18 : decode M_X11_isLess.1 18 = .ok (.ireturn, 1) := by decide +kernel
def f_X11_isLess (a : Int32) (b : Int32) : Int32 := (if (b ^^^ (-2147483648 : Int32)) ≤ (a ^^^ (-2147483648 : Int32)) then (0 : Int32) else (1 : Int32))
set_option maxRecDepth 20000 in
theorem k_X11_isLess {a : Int32} {b : Int32} {r_0 : Int32} (hres : r_0 = f_X11_isLess a b) : K M_X11_isLess yX11_isLess [.int a, .int b] [] (some (.int r_0)) [] := by
  refine K.of (lv := [(0, .int a), (1, .int b)]) (by decide +kernel) rfl rfl rfl ?_
  rw [f_X11_isLess] at hres
  refine G.iload_n (pc := 0) dm_X11_isLess_0 rfl ?_
  refine G.ldc_w (pc := 1) dm_X11_isLess_1 tw798 ?_
  refine G.ixor (pc := 4) dm_X11_isLess_4 ?_
  refine G.iload_n (pc := 5) dm_X11_isLess_5 rfl ?_
  refine G.ldc_w (pc := 6) dm_X11_isLess_6 tw798 ?_
  refine G.ixor (pc := 9) dm_X11_isLess_9 ?_
  refine G.icmp_ge (pc := 10) (tgt := 17) dm_X11_isLess_10 (by decide) (fun c10 => ?_) (fun c10 => ?_)
  · rw [if_pos c10] at hres
    refine G.iconst (pc := 17) (v := (0 : Int32)) dm_X11_isLess_17 qi_0 ?_
    subst hres
    exact G.zreturn (pc := 18) dm_X11_isLess_18 rfl (by decide) rfl rfl
  · rw [if_neg c10] at hres
    refine G.iconst (pc := 13) (v := (1 : Int32)) dm_X11_isLess_13 qi_1 ?_
    refine G.goto (pc := 14) (tgt := 18) dm_X11_isLess_14 (by decide) ?_
    subst hres
    exact G.zreturn (pc := 18) dm_X11_isLess_18 rfl (by decide) rfl rfl
abbrev M_X11_worked : g_M := (cX11_worked, 4, RX11, (some .int), { frames := 1, cells := 0, slots := 0, locals := 21 }, 0, 0)
theorem dm_X11_worked_0 : decode M_X11_worked.1 0 = .ok (.iload_n 0, 1) := by decide +kernel
theorem dm_X11_worked_1 : decode M_X11_worked.1 1 = .ok (.tableswitch 117 0 6 #[43, 57, 64, 75, 89, 93, 113], 43) := by decide +kernel
theorem dm_X11_worked_44 : decode M_X11_worked.1 44 = .ok (.iload_n 1, 1) := by decide +kernel
theorem dm_X11_worked_45 : decode M_X11_worked.1 45 = .ok (.ifCond .eq 9, 3) := by decide +kernel
theorem dm_X11_worked_48 : decode M_X11_worked.1 48 = .ok (.iload_n 2, 1) := by decide +kernel
theorem dm_X11_worked_49 : decode M_X11_worked.1 49 = .ok (.iload_n 3, 1) := by decide +kernel
theorem dm_X11_worked_50 : decode M_X11_worked.1 50 = .ok (.isub, 1) := by decide +kernel
theorem dm_X11_worked_51 : decode M_X11_worked.1 51 = .ok (.goto 6, 3) := by decide +kernel
theorem dm_X11_worked_54 : decode M_X11_worked.1 54 = .ok (.iload_n 2, 1) := by decide +kernel
theorem dm_X11_worked_55 : decode M_X11_worked.1 55 = .ok (.iload_n 3, 1) := by decide +kernel
theorem dm_X11_worked_56 : decode M_X11_worked.1 56 = .ok (.iadd, 1) := by decide +kernel
theorem dm_X11_worked_57 : decode M_X11_worked.1 57 = .ok (.ireturn, 1) := by decide +kernel
theorem dm_X11_worked_58 : decode M_X11_worked.1 58 = .ok (.iload_n 2, 1) := by decide +kernel
theorem dm_X11_worked_59 : decode M_X11_worked.1 59 = .ok (.iload_n 3, 1) := by decide +kernel
theorem dm_X11_worked_60 : decode M_X11_worked.1 60 = .ok (.bipush 31, 2) := by decide +kernel
theorem dm_X11_worked_62 : decode M_X11_worked.1 62 = .ok (.iand, 1) := by decide +kernel
theorem dm_X11_worked_63 : decode M_X11_worked.1 63 = .ok (.ishl, 1) := by decide +kernel
theorem dm_X11_worked_64 : decode M_X11_worked.1 64 = .ok (.ireturn, 1) := by decide +kernel
theorem dm_X11_worked_65 : decode M_X11_worked.1 65 = .ok (.iload_n 2, 1) := by decide +kernel
theorem dm_X11_worked_66 : decode M_X11_worked.1 66 = .ok (.iload_n 3, 1) := by decide +kernel
theorem dm_X11_worked_67 : decode M_X11_worked.1 67 = .ok (.if_icmp .ge 7, 3) := by decide +kernel
theorem dm_X11_worked_70 : decode M_X11_worked.1 70 = .ok (.iconst 1, 1) := by decide +kernel
theorem dm_X11_worked_71 : decode M_X11_worked.1 71 = .ok (.goto 4, 3) := by decide +kernel
theorem dm_X11_worked_74 : decode M_X11_worked.1 74 = .ok (.iconst 0, 1) := by decide +kernel
theorem dm_X11_worked_75 : decode M_X11_worked.1 75 = .ok (.ireturn, 1) := by decide +kernel
theorem dm_X11_worked_76 : decode M_X11_worked.1 76 = .ok (.iload_n 2, 1) := by decide +kernel
theorem dm_X11_worked_77 : decode M_X11_worked.1 77 = .ok (.iload_n 3, 1) := by decide +kernel
theorem dm_X11_worked_78 : decode M_X11_worked.1 78 = .ok (.invokestatic 295, 3) := by decide +kernel
theorem dm_X11_worked_81 : decode M_X11_worked.1 81 = .ok (.ifCond .eq 7, 3) := by decide +kernel
theorem dm_X11_worked_84 : decode M_X11_worked.1 84 = .ok (.iconst 1, 1) := by decide +kernel
theorem dm_X11_worked_85 : decode M_X11_worked.1 85 = .ok (.goto 4, 3) := by decide +kernel
theorem dm_X11_worked_88 : decode M_X11_worked.1 88 = .ok (.iconst 0, 1) := by decide +kernel
theorem dm_X11_worked_89 : decode M_X11_worked.1 89 = .ok (.ireturn, 1) := by decide +kernel
theorem dm_X11_worked_90 : decode M_X11_worked.1 90 = .ok (.iload_n 2, 1) := by decide +kernel
theorem dm_X11_worked_91 : decode M_X11_worked.1 91 = .ok (.iload_n 3, 1) := by decide +kernel
theorem dm_X11_worked_92 : decode M_X11_worked.1 92 = .ok (.ixor, 1) := by decide +kernel
theorem dm_X11_worked_93 : decode M_X11_worked.1 93 = .ok (.ireturn, 1) := by decide +kernel
theorem dm_X11_worked_94 : decode M_X11_worked.1 94 = .ok (.iload_n 1, 1) := by decide +kernel
theorem dm_X11_worked_95 : decode M_X11_worked.1 95 = .ok (.ifCond .eq 12, 3) := by decide +kernel
theorem dm_X11_worked_98 : decode M_X11_worked.1 98 = .ok (.iload_n 2, 1) := by decide +kernel
theorem dm_X11_worked_99 : decode M_X11_worked.1 99 = .ok (.iload_n 3, 1) := by decide +kernel
theorem dm_X11_worked_100 : decode M_X11_worked.1 100 = .ok (.bipush 31, 2) := by decide +kernel
theorem dm_X11_worked_102 : decode M_X11_worked.1 102 = .ok (.iand, 1) := by decide +kernel
theorem dm_X11_worked_103 : decode M_X11_worked.1 103 = .ok (.ishr, 1) := by decide +kernel
theorem dm_X11_worked_104 : decode M_X11_worked.1 104 = .ok (.goto 9, 3) := by decide +kernel
theorem dm_X11_worked_107 : decode M_X11_worked.1 107 = .ok (.iload_n 2, 1) := by decide +kernel
theorem dm_X11_worked_108 : decode M_X11_worked.1 108 = .ok (.iload_n 3, 1) := by decide +kernel
theorem dm_X11_worked_109 : decode M_X11_worked.1 109 = .ok (.bipush 31, 2) := by decide +kernel
theorem dm_X11_worked_111 : decode M_X11_worked.1 111 = .ok (.iand, 1) := by decide +kernel
theorem dm_X11_worked_112 : decode M_X11_worked.1 112 = .ok (.iushr, 1) := by decide +kernel
theorem dm_X11_worked_113 : decode M_X11_worked.1 113 = .ok (.ireturn, 1) := by decide +kernel
theorem dm_X11_worked_114 : decode M_X11_worked.1 114 = .ok (.iload_n 2, 1) := by decide +kernel
theorem dm_X11_worked_115 : decode M_X11_worked.1 115 = .ok (.iload_n 3, 1) := by decide +kernel
theorem dm_X11_worked_116 : decode M_X11_worked.1 116 = .ok (.ior, 1) := by decide +kernel
theorem dm_X11_worked_117 : decode M_X11_worked.1 117 = .ok (.ireturn, 1) := by decide +kernel
theorem dm_X11_worked_118 : decode M_X11_worked.1 118 = .ok (.iload_n 2, 1) := by decide +kernel
theorem dm_X11_worked_119 : decode M_X11_worked.1 119 = .ok (.iload_n 3, 1) := by decide +kernel
theorem dm_X11_worked_120 : decode M_X11_worked.1 120 = .ok (.iand, 1) := by decide +kernel
theorem dm_X11_worked_121 : decode M_X11_worked.1 121 = .ok (.ireturn, 1) := by decide +kernel
theorem gc_X11_worked_295 : g_cs M_X11_worked 295 M_X11_isLess yX11_isLess 2 := ⟨tw795, tw796, tw5, tw797, ⟨rfl, rfl, rfl, rfl⟩, gd_X11_isLess, ⟨by decide, by decide⟩⟩
def f_X11_worked_c78 (z1_0 : Int32) : Int32 := (if z1_0 = 0 then (0 : Int32) else (1 : Int32))
def f_X11_worked (f : Int32) (other : Int32) (a : Int32) (b : Int32) : Int32 := (if f = (0 : Int32) then (if other = 0 then (a + b) else (a - b)) else (if f = (1 : Int32) then (a <<< ((b &&& (31 : Int32)) &&& 31)) else (if f = (2 : Int32) then (if b ≤ a then (0 : Int32) else (1 : Int32)) else (if f = (3 : Int32) then (f_X11_worked_c78 (f_X11_isLess a b)) else (if f = (4 : Int32) then (a ^^^ b) else (if f = (5 : Int32) then (if other = 0 then (g_ushr a (b &&& (31 : Int32))) else (a >>> ((b &&& (31 : Int32)) &&& 31))) else (if f = (6 : Int32) then (a ||| b) else (a &&& b))))))))
set_option maxRecDepth 20000 in
theorem k_X11_worked {f : Int32} {other : Int32} {a : Int32} {b : Int32} {r_0 : Int32} (hres : r_0 = f_X11_worked f other a b) : K M_X11_worked yX11_worked [.int f, .int other, .int a, .int b] [] (some (.int r_0)) [] := by
  refine K.of (lv := [(0, .int f), (1, .int other), (2, .int a), (3, .int b)]) (by decide +kernel) rfl rfl rfl ?_
  rw [f_X11_worked] at hres
  refine G.iload_n (pc := 0) dm_X11_worked_0 rfl ?_
  by_cases c1_0 : f = (0 : Int32)
  · rw [if_pos c1_0] at hres
    refine G.tabIn (pc := 1) (tgt := 44) dm_X11_worked_1 c1_0 (by decide) (by decide) rfl (by decide) ?_
    refine G.iload_n (pc := 44) dm_X11_worked_44 rfl ?_
    refine G.if_eq (pc := 45) (tgt := 54) dm_X11_worked_45 (by decide) (fun c45 => ?_) (fun c45 => ?_)
    · rw [if_pos c45] at hres
      refine G.iload_n (pc := 54) dm_X11_worked_54 rfl ?_
      refine G.iload_n (pc := 55) dm_X11_worked_55 rfl ?_
      refine G.iadd (pc := 56) dm_X11_worked_56 ?_
      subst hres
      exact G.ireturn (pc := 57) dm_X11_worked_57 rfl rfl rfl
    · rw [if_neg c45] at hres
      refine G.iload_n (pc := 48) dm_X11_worked_48 rfl ?_
      refine G.iload_n (pc := 49) dm_X11_worked_49 rfl ?_
      refine G.isub (pc := 50) dm_X11_worked_50 ?_
      refine G.goto (pc := 51) (tgt := 57) dm_X11_worked_51 (by decide) ?_
      subst hres
      exact G.ireturn (pc := 57) dm_X11_worked_57 rfl rfl rfl
  rw [if_neg c1_0] at hres
  by_cases c1_1 : f = (1 : Int32)
  · rw [if_pos c1_1] at hres
    refine G.tabIn (pc := 1) (tgt := 58) dm_X11_worked_1 c1_1 (by decide) (by decide) rfl (by decide) ?_
    refine G.iload_n (pc := 58) dm_X11_worked_58 rfl ?_
    refine G.iload_n (pc := 59) dm_X11_worked_59 rfl ?_
    refine G.bipush (pc := 60) (v := (31 : Int32)) dm_X11_worked_60 qb_31 ?_
    refine G.iand (pc := 62) dm_X11_worked_62 ?_
    refine G.ishl (pc := 63) dm_X11_worked_63 ?_
    subst hres
    exact G.ireturn (pc := 64) dm_X11_worked_64 rfl rfl rfl
  rw [if_neg c1_1] at hres
  by_cases c1_2 : f = (2 : Int32)
  · rw [if_pos c1_2] at hres
    refine G.tabIn (pc := 1) (tgt := 65) dm_X11_worked_1 c1_2 (by decide) (by decide) rfl (by decide) ?_
    refine G.iload_n (pc := 65) dm_X11_worked_65 rfl ?_
    refine G.iload_n (pc := 66) dm_X11_worked_66 rfl ?_
    refine G.icmp_ge (pc := 67) (tgt := 74) dm_X11_worked_67 (by decide) (fun c67 => ?_) (fun c67 => ?_)
    · rw [if_pos c67] at hres
      refine G.iconst (pc := 74) (v := (0 : Int32)) dm_X11_worked_74 qi_0 ?_
      subst hres
      exact G.ireturn (pc := 75) dm_X11_worked_75 rfl rfl rfl
    · rw [if_neg c67] at hres
      refine G.iconst (pc := 70) (v := (1 : Int32)) dm_X11_worked_70 qi_1 ?_
      refine G.goto (pc := 71) (tgt := 75) dm_X11_worked_71 (by decide) ?_
      subst hres
      exact G.ireturn (pc := 75) dm_X11_worked_75 rfl rfl rfl
  rw [if_neg c1_2] at hres
  by_cases c1_3 : f = (3 : Int32)
  · rw [if_pos c1_3] at hres
    refine G.tabIn (pc := 1) (tgt := 76) dm_X11_worked_1 c1_3 (by decide) (by decide) rfl (by decide) ?_
    refine G.iload_n (pc := 76) dm_X11_worked_76 rfl ?_
    refine G.iload_n (pc := 77) dm_X11_worked_77 rfl ?_
    obtain ⟨z1_0, hz1⟩ : ∃ (z1_0 : Int32), z1_0 = f_X11_isLess a b := ⟨_, rfl⟩
    refine G.callS (pc := 78) (rest := []) (st1 := [.int z1_0]) (ws1 := []) [] dm_X11_worked_78 gc_X11_worked_295 (k_X11_isLess (a := a) (b := b) hz1) rfl rfl rfl rfl rfl rfl rfl rfl ?_
    replace hres : r_0 = f_X11_worked_c78 z1_0 := hres.trans (by rw [← hz1])
    rw [f_X11_worked_c78] at hres
    refine G.if_eq (pc := 81) (tgt := 88) dm_X11_worked_81 (by decide) (fun c81 => ?_) (fun c81 => ?_)
    · rw [if_pos c81] at hres
      refine G.iconst (pc := 88) (v := (0 : Int32)) dm_X11_worked_88 qi_0 ?_
      subst hres
      exact G.ireturn (pc := 89) dm_X11_worked_89 rfl rfl rfl
    · rw [if_neg c81] at hres
      refine G.iconst (pc := 84) (v := (1 : Int32)) dm_X11_worked_84 qi_1 ?_
      refine G.goto (pc := 85) (tgt := 89) dm_X11_worked_85 (by decide) ?_
      subst hres
      exact G.ireturn (pc := 89) dm_X11_worked_89 rfl rfl rfl
  rw [if_neg c1_3] at hres
  by_cases c1_4 : f = (4 : Int32)
  · rw [if_pos c1_4] at hres
    refine G.tabIn (pc := 1) (tgt := 90) dm_X11_worked_1 c1_4 (by decide) (by decide) rfl (by decide) ?_
    refine G.iload_n (pc := 90) dm_X11_worked_90 rfl ?_
    refine G.iload_n (pc := 91) dm_X11_worked_91 rfl ?_
    refine G.ixor (pc := 92) dm_X11_worked_92 ?_
    subst hres
    exact G.ireturn (pc := 93) dm_X11_worked_93 rfl rfl rfl
  rw [if_neg c1_4] at hres
  by_cases c1_5 : f = (5 : Int32)
  · rw [if_pos c1_5] at hres
    refine G.tabIn (pc := 1) (tgt := 94) dm_X11_worked_1 c1_5 (by decide) (by decide) rfl (by decide) ?_
    refine G.iload_n (pc := 94) dm_X11_worked_94 rfl ?_
    refine G.if_eq (pc := 95) (tgt := 107) dm_X11_worked_95 (by decide) (fun c95 => ?_) (fun c95 => ?_)
    · rw [if_pos c95] at hres
      refine G.iload_n (pc := 107) dm_X11_worked_107 rfl ?_
      refine G.iload_n (pc := 108) dm_X11_worked_108 rfl ?_
      refine G.bipush (pc := 109) (v := (31 : Int32)) dm_X11_worked_109 qb_31 ?_
      refine G.iand (pc := 111) dm_X11_worked_111 ?_
      refine G.iushr (pc := 112) dm_X11_worked_112 ?_
      subst hres
      exact G.ireturn (pc := 113) dm_X11_worked_113 rfl rfl rfl
    · rw [if_neg c95] at hres
      refine G.iload_n (pc := 98) dm_X11_worked_98 rfl ?_
      refine G.iload_n (pc := 99) dm_X11_worked_99 rfl ?_
      refine G.bipush (pc := 100) (v := (31 : Int32)) dm_X11_worked_100 qb_31 ?_
      refine G.iand (pc := 102) dm_X11_worked_102 ?_
      refine G.ishr (pc := 103) dm_X11_worked_103 ?_
      refine G.goto (pc := 104) (tgt := 113) dm_X11_worked_104 (by decide) ?_
      subst hres
      exact G.ireturn (pc := 113) dm_X11_worked_113 rfl rfl rfl
  rw [if_neg c1_5] at hres
  by_cases c1_6 : f = (6 : Int32)
  · rw [if_pos c1_6] at hres
    refine G.tabIn (pc := 1) (tgt := 114) dm_X11_worked_1 c1_6 (by decide) (by decide) rfl (by decide) ?_
    refine G.iload_n (pc := 114) dm_X11_worked_114 rfl ?_
    refine G.iload_n (pc := 115) dm_X11_worked_115 rfl ?_
    refine G.ior (pc := 116) dm_X11_worked_116 ?_
    subst hres
    exact G.ireturn (pc := 117) dm_X11_worked_117 rfl rfl rfl
  rw [if_neg c1_6] at hres
  refine G.tabOut (pc := 1) (tgt := 118) dm_X11_worked_1 (g_tabmiss (by decide) (by decide) (fun v h1 h2 => by rcases (show v = 0 ∨ v = 1 ∨ v = 2 ∨ v = 3 ∨ v = 4 ∨ v = 5 ∨ v = 6 by omega) with rfl | rfl | rfl | rfl | rfl | rfl | rfl <;> intro h <;> first | exact c1_0 (by rw [h]; decide) | exact c1_1 (by rw [h]; decide) | exact c1_2 (by rw [h]; decide) | exact c1_3 (by rw [h]; decide) | exact c1_4 (by rw [h]; decide) | exact c1_5 (by rw [h]; decide) | exact c1_6 (by rw [h]; decide))) (by decide) ?_
  refine G.iload_n (pc := 118) dm_X11_worked_118 rfl ?_
  refine G.iload_n (pc := 119) dm_X11_worked_119 rfl ?_
  refine G.iand (pc := 120) dm_X11_worked_120 ?_
  subst hres
  exact G.ireturn (pc := 121) dm_X11_worked_121 rfl rfl rfl
abbrev M_X11_goes : g_M := (cX11_goes, 4, RX11, (some .boolean), { frames := 1, cells := 0, slots := 0, locals := 21 }, 0, 0)
theorem dm_X11_goes_0 : decode M_X11_goes.1 0 = .ok (.iload_n 0, 1) := by decide +kernel
theorem dm_X11_goes_1 : decode M_X11_goes.1 1 = .ok (.iconst 2, 1) := by decide +kernel
theorem dm_X11_goes_2 : decode M_X11_goes.1 2 = .ok (.if_icmp .ge 16, 3) := by decide +kernel
theorem dm_X11_goes_5 : decode M_X11_goes.1 5 = .ok (.iload_n 1, 1) := by decide +kernel
theorem dm_X11_goes_6 : decode M_X11_goes.1 6 = .ok (.iload_n 2, 1) := by decide +kernel
theorem dm_X11_goes_7 : decode M_X11_goes.1 7 = .ok (.if_icmp .ne 7, 3) := by decide +kernel
theorem dm_X11_goes_10 : decode M_X11_goes.1 10 = .ok (.iconst 1, 1) := by decide +kernel
theorem dm_X11_goes_11 : decode M_X11_goes.1 11 = .ok (.goto 31, 3) := by decide +kernel
theorem dm_X11_goes_14 : decode M_X11_goes.1 14 = .ok (.iconst 0, 1) := by decide +kernel
theorem dm_X11_goes_15 : decode M_X11_goes.1 15 = .ok (.goto 27, 3) := by decide +kernel
theorem dm_X11_goes_18 : decode M_X11_goes.1 18 = .ok (.iload_n 0, 1) := by decide +kernel
theorem dm_X11_goes_19 : decode M_X11_goes.1 19 = .ok (.bipush 6, 2) := by decide +kernel
theorem dm_X11_goes_21 : decode M_X11_goes.1 21 = .ok (.if_icmp .ge 16, 3) := by decide +kernel
theorem dm_X11_goes_24 : decode M_X11_goes.1 24 = .ok (.iload_n 1, 1) := by decide +kernel
theorem dm_X11_goes_25 : decode M_X11_goes.1 25 = .ok (.iload_n 2, 1) := by decide +kernel
theorem dm_X11_goes_26 : decode M_X11_goes.1 26 = .ok (.if_icmp .ge 7, 3) := by decide +kernel
theorem dm_X11_goes_29 : decode M_X11_goes.1 29 = .ok (.iconst 1, 1) := by decide +kernel
theorem dm_X11_goes_30 : decode M_X11_goes.1 30 = .ok (.goto 12, 3) := by decide +kernel
theorem dm_X11_goes_33 : decode M_X11_goes.1 33 = .ok (.iconst 0, 1) := by decide +kernel
theorem dm_X11_goes_34 : decode M_X11_goes.1 34 = .ok (.goto 8, 3) := by decide +kernel
theorem dm_X11_goes_37 : decode M_X11_goes.1 37 = .ok (.iload_n 1, 1) := by decide +kernel
theorem dm_X11_goes_38 : decode M_X11_goes.1 38 = .ok (.iload_n 2, 1) := by decide +kernel
theorem dm_X11_goes_39 : decode M_X11_goes.1 39 = .ok (.invokestatic 295, 3) := by decide +kernel
theorem dm_X11_goes_42 : decode M_X11_goes.1 42 = .ok (.istore_n 3, 1) := by decide +kernel
theorem dm_X11_goes_43 : decode M_X11_goes.1 43 = .ok (.iload_n 3, 1) := by decide +kernel
theorem dm_X11_goes_44 : decode M_X11_goes.1 44 = .ok (.iload_n 0, 1) := by decide +kernel
theorem dm_X11_goes_45 : decode M_X11_goes.1 45 = .ok (.iconst 2, 1) := by decide +kernel
theorem dm_X11_goes_46 : decode M_X11_goes.1 46 = .ok (.irem, 1) := by decide +kernel
theorem dm_X11_goes_47 : decode M_X11_goes.1 47 = .ok (.ifCond .ne 7, 3) := by decide +kernel
theorem dm_X11_goes_50 : decode M_X11_goes.1 50 = .ok (.iconst 1, 1) := by decide +kernel
theorem dm_X11_goes_51 : decode M_X11_goes.1 51 = .ok (.goto 4, 3) := by decide +kernel
theorem dm_X11_goes_54 : decode M_X11_goes.1 54 = .ok (.iconst 0, 1) := by decide +kernel
theorem dm_X11_goes_55 : decode M_X11_goes.1 55 = .ok (.if_icmp .ne 7, 3) := by decide +kernel
theorem dm_X11_goes_58 : decode M_X11_goes.1 58 = .ok (.iconst 1, 1) := by decide +kernel
theorem dm_X11_goes_59 : decode M_X11_goes.1 59 = .ok (.goto 4, 3) := by decide +kernel
theorem dm_X11_goes_62 : decode M_X11_goes.1 62 = .ok (.iconst 0, 1) := by decide +kernel
theorem dm_X11_goes_63 : decode M_X11_goes.1 63 = .ok (.ireturn, 1) := by decide +kernel
theorem gc_X11_goes_295 : g_cs M_X11_goes 295 M_X11_isLess yX11_isLess 2 := ⟨tw795, tw796, tw5, tw797, ⟨rfl, rfl, rfl, rfl⟩, gd_X11_isLess, ⟨by decide, by decide⟩⟩
def f_X11_goes_55 (s0 : Int32) (s1 : Int32) : Int32 := (if s0 = s1 then (1 : Int32) else (0 : Int32))
set_option maxRecDepth 20000 in
theorem j_X11_goes_55 {s0 : Int32} {s1 : Int32} {r_0 : Int32} (hres : r_0 = (f_X11_goes_55 s0 s1)) : G M_X11_goes 0 0 55 [] [.int s1, .int s0] [] (some (.int r_0)) [] := by
  rw [f_X11_goes_55] at hres
  refine G.icmp_ne (pc := 55) (tgt := 62) dm_X11_goes_55 (by decide) (fun c55 => ?_) (fun c55 => ?_)
  · rw [if_neg c55] at hres
    refine G.iconst (pc := 62) (v := (0 : Int32)) dm_X11_goes_62 qi_0 ?_
    subst hres
    exact G.zreturn (pc := 63) dm_X11_goes_63 rfl (by decide) rfl rfl
  · rw [if_pos c55] at hres
    refine G.iconst (pc := 58) (v := (1 : Int32)) dm_X11_goes_58 qi_1 ?_
    refine G.goto (pc := 59) (tgt := 63) dm_X11_goes_59 (by decide) ?_
    subst hres
    exact G.zreturn (pc := 63) dm_X11_goes_63 rfl (by decide) rfl rfl
def f_X11_goes_42 (l0 : Int32) (s0 : Int32) : Int32 := (if (l0 - l0 / (2 : Int32) * (2 : Int32)) = 0 then (f_X11_goes_55 s0 (1 : Int32)) else (f_X11_goes_55 s0 (0 : Int32)))
set_option maxRecDepth 20000 in
theorem j_X11_goes_42 {l0 : Int32} {s0 : Int32} {r_0 : Int32} (hres : r_0 = (f_X11_goes_42 l0 s0)) : G M_X11_goes 0 0 42 [(0, .int l0)] [.int s0] [] (some (.int r_0)) [] := by
  rw [f_X11_goes_42] at hres
  refine G.istore_n (pc := 42) (lv1 := [(3, .int s0), (0, .int l0)]) dm_X11_goes_42 rfl rfl ?_
  refine G.iload_n (pc := 43) dm_X11_goes_43 rfl ?_
  refine G.iload_n (pc := 44) dm_X11_goes_44 rfl ?_
  refine G.iconst (pc := 45) (v := (2 : Int32)) dm_X11_goes_45 qi_2 ?_
  refine G.irem (pc := 46) dm_X11_goes_46 (by decide) ?_
  refine G.if_ne (pc := 47) (tgt := 54) dm_X11_goes_47 (by decide) (fun c47 => ?_) (fun c47 => ?_)
  · rw [if_neg c47] at hres
    refine G.iconst (pc := 54) (v := (0 : Int32)) dm_X11_goes_54 qi_0 ?_
    refine G.lvp [] rfl ?_
    exact j_X11_goes_55 hres 
  · rw [if_pos c47] at hres
    refine G.iconst (pc := 50) (v := (1 : Int32)) dm_X11_goes_50 qi_1 ?_
    refine G.goto (pc := 51) (tgt := 55) dm_X11_goes_51 (by decide) ?_
    refine G.lvp [] rfl ?_
    exact j_X11_goes_55 hres 
def f_X11_goes_c39 (f : Int32) (z1_0 : Int32) : Int32 := (f_X11_goes_42 f z1_0)
def f_X11_goes (f : Int32) (a : Int32) (b : Int32) : Int32 := (if (2 : Int32) ≤ f then (if (6 : Int32) ≤ f then (f_X11_goes_c39 f (f_X11_isLess a b)) else (if b ≤ a then (f_X11_goes_42 f (0 : Int32)) else (f_X11_goes_42 f (1 : Int32)))) else (if a = b then (f_X11_goes_42 f (1 : Int32)) else (f_X11_goes_42 f (0 : Int32))))
set_option maxRecDepth 20000 in
theorem k_X11_goes {f : Int32} {a : Int32} {b : Int32} {r_0 : Int32} (hres : r_0 = f_X11_goes f a b) : K M_X11_goes yX11_goes [.int f, .int a, .int b] [] (some (.int r_0)) [] := by
  refine K.of (lv := [(0, .int f), (1, .int a), (2, .int b)]) (by decide +kernel) rfl rfl rfl ?_
  rw [f_X11_goes] at hres
  refine G.iload_n (pc := 0) dm_X11_goes_0 rfl ?_
  refine G.iconst (pc := 1) (v := (2 : Int32)) dm_X11_goes_1 qi_2 ?_
  refine G.icmp_ge (pc := 2) (tgt := 18) dm_X11_goes_2 (by decide) (fun c2 => ?_) (fun c2 => ?_)
  · rw [if_pos c2] at hres
    refine G.iload_n (pc := 18) dm_X11_goes_18 rfl ?_
    refine G.bipush (pc := 19) (v := (6 : Int32)) dm_X11_goes_19 qb_6 ?_
    refine G.icmp_ge (pc := 21) (tgt := 37) dm_X11_goes_21 (by decide) (fun c21 => ?_) (fun c21 => ?_)
    · rw [if_pos c21] at hres
      refine G.iload_n (pc := 37) dm_X11_goes_37 rfl ?_
      refine G.iload_n (pc := 38) dm_X11_goes_38 rfl ?_
      obtain ⟨z1_0, hz1⟩ : ∃ (z1_0 : Int32), z1_0 = f_X11_isLess a b := ⟨_, rfl⟩
      refine G.callS (pc := 39) (rest := []) (st1 := [.int z1_0]) (ws1 := []) [] dm_X11_goes_39 gc_X11_goes_295 (k_X11_isLess (a := a) (b := b) hz1) rfl rfl rfl rfl rfl rfl rfl rfl ?_
      replace hres : r_0 = f_X11_goes_c39 f z1_0 := hres.trans (by rw [← hz1])
      rw [f_X11_goes_c39] at hres
      refine G.lvp [0] rfl ?_
      exact j_X11_goes_42 hres 
    · rw [if_neg c21] at hres
      refine G.iload_n (pc := 24) dm_X11_goes_24 rfl ?_
      refine G.iload_n (pc := 25) dm_X11_goes_25 rfl ?_
      refine G.icmp_ge (pc := 26) (tgt := 33) dm_X11_goes_26 (by decide) (fun c26 => ?_) (fun c26 => ?_)
      · rw [if_pos c26] at hres
        refine G.iconst (pc := 33) (v := (0 : Int32)) dm_X11_goes_33 qi_0 ?_
        refine G.goto (pc := 34) (tgt := 42) dm_X11_goes_34 (by decide) ?_
        refine G.lvp [0] rfl ?_
        exact j_X11_goes_42 hres 
      · rw [if_neg c26] at hres
        refine G.iconst (pc := 29) (v := (1 : Int32)) dm_X11_goes_29 qi_1 ?_
        refine G.goto (pc := 30) (tgt := 42) dm_X11_goes_30 (by decide) ?_
        refine G.lvp [0] rfl ?_
        exact j_X11_goes_42 hres 
  · rw [if_neg c2] at hres
    refine G.iload_n (pc := 5) dm_X11_goes_5 rfl ?_
    refine G.iload_n (pc := 6) dm_X11_goes_6 rfl ?_
    refine G.icmp_ne (pc := 7) (tgt := 14) dm_X11_goes_7 (by decide) (fun c7 => ?_) (fun c7 => ?_)
    · rw [if_neg c7] at hres
      refine G.iconst (pc := 14) (v := (0 : Int32)) dm_X11_goes_14 qi_0 ?_
      refine G.goto (pc := 15) (tgt := 42) dm_X11_goes_15 (by decide) ?_
      refine G.lvp [0] rfl ?_
      exact j_X11_goes_42 hres 
    · rw [if_pos c7] at hres
      refine G.iconst (pc := 10) (v := (1 : Int32)) dm_X11_goes_10 qi_1 ?_
      refine G.goto (pc := 11) (tgt := 42) dm_X11_goes_11 (by decide) ?_
      refine G.lvp [0] rfl ?_
      exact j_X11_goes_42 hres 
abbrev M_X11_stop : g_M := (cX11_stop, 2, RX11, (some .int), { frames := 0, cells := 0, slots := 0, locals := 0 }, 0, 0)
theorem dm_X11_stop_0 : decode M_X11_stop.1 0 = .ok (.aload_n 0, 1) := by decide +kernel
theorem dm_X11_stop_1 : decode M_X11_stop.1 1 = .ok (.getfield 51, 3) := by decide +kernel
theorem dm_X11_stop_4 : decode M_X11_stop.1 4 = .ok (.iload_n 1, 1) := by decide +kernel
theorem dm_X11_stop_5 : decode M_X11_stop.1 5 = .ok (.iconst 3, 1) := by decide +kernel
theorem dm_X11_stop_6 : decode M_X11_stop.1 6 = .ok (.iastore, 1) := by decide +kernel
theorem dm_X11_stop_7 : decode M_X11_stop.1 7 = .ok (.iconst 0, 1) := by decide +kernel
theorem dm_X11_stop_8 : decode M_X11_stop.1 8 = .ok (.ireturn, 1) := by decide +kernel
def f_X11_stop (t : Int32) (status : Nat → Int32) : Int32 × (Nat → Int32) := ((0 : Int32), (upd status (Int32.toNatClampNeg t) (3 : Int32)))
set_option maxRecDepth 20000 in
theorem k_X11_stop {t : Int32} {refusal : Int32} {wheel : Int32} {now : Int32} {length : Int32} {at_ : Int32} {fault : Int32} {faultLine : Int32} {line : Int32} {words : Int32} {labels : Int32} {targets : Int32} {wrong : Int32} {unfit : Int32} {text : Nat → Int32} {code_ : Nat → Int32} {label : Nat → Int64} {labelWord : Nat → Int32} {target : Nat → Int64} {targetWord : Nat → Int32} {targetLine : Nat → Int32} {store : Nat → Int32} {common : Nat → Int32} {low : Nat → Int32} {high : Nat → Int32} {register : Nat → Int32} {address : Nat → Int32} {status : Nat → Int32} {did : Nat → Int32} {ready : Nat → Int32} {timer : Nat → Int32} {trace : Nat → Int32} (ht : 0 ≤ t.toInt ∧ t.toInt < 4) {r_0 : Int32} {r_1 : (Nat → Int32)} (hres : (r_0, r_1) = f_X11_stop t status) : K M_X11_stop yX11_stop [.ref 0, .int t] (w_M refusal wheel now length at_ fault faultLine line words labels targets wrong unfit text code_ label labelWord target targetWord targetLine store common low high register address status did ready timer trace) (some (.int r_0)) (w_M refusal wheel now length at_ fault faultLine line words labels targets wrong unfit text code_ label labelWord target targetWord targetLine store common low high register address r_1 did ready timer trace) := by
  refine K.of (lv := [(0, .ref 0), (1, .int t)]) (by decide +kernel) rfl rfl rfl ?_
  rw [f_X11_stop] at hres
  refine G.aload_n (pc := 0) dm_X11_stop_0 rfl ?_
  refine G.getfield (pc := 1) dm_X11_stop_1 gf_X11_51 rfl rfl ?_
  refine G.iload_n (pc := 4) dm_X11_stop_4 rfl ?_
  refine G.iconst (pc := 5) (v := (3 : Int32)) dm_X11_stop_5 qi_3 ?_
  refine G.iastore (pc := 6) (ws1 := (w_M refusal wheel now length at_ fault faultLine line words labels targets wrong unfit text code_ label labelWord target targetWord targetLine store common low high register address (upd status (Int32.toNatClampNeg t) (3 : Int32)) did ready timer trace)) dm_X11_stop_6 rfl (q_t ht) rfl ?_
  refine G.iconst (pc := 7) (v := (0 : Int32)) dm_X11_stop_7 qi_0 ?_
  cases hres
  exact G.ireturn (pc := 8) dm_X11_stop_8 rfl rfl rfl
abbrev M_X11_set : g_M := (cX11_set, 4, RX11, none, { frames := 0, cells := 0, slots := 0, locals := 0 }, 0, 0)
theorem dm_X11_set_0 : decode M_X11_set.1 0 = .ok (.iload_n 2, 1) := by decide +kernel
theorem dm_X11_set_1 : decode M_X11_set.1 1 = .ok (.ifCond .le 15, 3) := by decide +kernel
theorem dm_X11_set_4 : decode M_X11_set.1 4 = .ok (.aload_n 0, 1) := by decide +kernel
theorem dm_X11_set_5 : decode M_X11_set.1 5 = .ok (.getfield 45, 3) := by decide +kernel
theorem dm_X11_set_8 : decode M_X11_set.1 8 = .ok (.bipush 16, 2) := by decide +kernel
theorem dm_X11_set_10 : decode M_X11_set.1 10 = .ok (.iload_n 1, 1) := by decide +kernel
theorem dm_X11_set_11 : decode M_X11_set.1 11 = .ok (.imul, 1) := by decide +kernel
theorem dm_X11_set_12 : decode M_X11_set.1 12 = .ok (.iload_n 2, 1) := by decide +kernel
theorem dm_X11_set_13 : decode M_X11_set.1 13 = .ok (.iadd, 1) := by decide +kernel
theorem dm_X11_set_14 : decode M_X11_set.1 14 = .ok (.iload_n 3, 1) := by decide +kernel
theorem dm_X11_set_15 : decode M_X11_set.1 15 = .ok (.iastore, 1) := by decide +kernel
theorem dm_X11_set_16 : decode M_X11_set.1 16 = .ok (.return_, 1) := by decide +kernel
def f_X11_set (t : Int32) (r : Int32) (v : Int32) (register : Nat → Int32) : (Nat → Int32) := (if r ≤ 0 then register else (upd register (Int32.toNatClampNeg (((16 : Int32) * t) + r)) v))
set_option maxRecDepth 20000 in
theorem k_X11_set {t : Int32} {r : Int32} {v : Int32} {refusal : Int32} {wheel : Int32} {now : Int32} {length : Int32} {at_ : Int32} {fault : Int32} {faultLine : Int32} {line : Int32} {words : Int32} {labels : Int32} {targets : Int32} {wrong : Int32} {unfit : Int32} {text : Nat → Int32} {code_ : Nat → Int32} {label : Nat → Int64} {labelWord : Nat → Int32} {target : Nat → Int64} {targetWord : Nat → Int32} {targetLine : Nat → Int32} {store : Nat → Int32} {common : Nat → Int32} {low : Nat → Int32} {high : Nat → Int32} {register : Nat → Int32} {address : Nat → Int32} {status : Nat → Int32} {did : Nat → Int32} {ready : Nat → Int32} {timer : Nat → Int32} {trace : Nat → Int32} (ht : 0 ≤ t.toInt ∧ t.toInt < 4) (hr : 0 ≤ r.toInt ∧ r.toInt < 16) {r_0 : (Nat → Int32)} (hres : r_0 = f_X11_set t r v register) : K M_X11_set yX11_set [.ref 0, .int t, .int r, .int v] (w_M refusal wheel now length at_ fault faultLine line words labels targets wrong unfit text code_ label labelWord target targetWord targetLine store common low high register address status did ready timer trace) (none) (w_M refusal wheel now length at_ fault faultLine line words labels targets wrong unfit text code_ label labelWord target targetWord targetLine store common low high r_0 address status did ready timer trace) := by
  refine K.of (lv := [(0, .ref 0), (1, .int t), (2, .int r), (3, .int v)]) (by decide +kernel) rfl rfl rfl ?_
  rw [f_X11_set] at hres
  refine G.iload_n (pc := 0) dm_X11_set_0 rfl ?_
  refine G.if_le (pc := 1) (tgt := 16) dm_X11_set_1 (by decide) (fun c1 => ?_) (fun c1 => ?_)
  · rw [if_pos c1] at hres
    subst hres
    exact G.vreturn (pc := 16) dm_X11_set_16 rfl rfl rfl
  · rw [if_neg c1] at hres
    refine G.aload_n (pc := 4) dm_X11_set_4 rfl ?_
    refine G.getfield (pc := 5) dm_X11_set_5 gf_X11_45 rfl rfl ?_
    refine G.bipush (pc := 8) (v := (16 : Int32)) dm_X11_set_8 qb_16 ?_
    refine G.iload_n (pc := 10) dm_X11_set_10 rfl ?_
    refine G.imul (pc := 11) dm_X11_set_11 ?_
    refine G.iload_n (pc := 12) dm_X11_set_12 rfl ?_
    refine G.iadd (pc := 13) dm_X11_set_13 ?_
    refine G.iload_n (pc := 14) dm_X11_set_14 rfl ?_
    refine G.iastore (pc := 15) (ws1 := (w_M refusal wheel now length at_ fault faultLine line words labels targets wrong unfit text code_ label labelWord target targetWord targetLine store common low high (upd register (Int32.toNatClampNeg (((16 : Int32) * t) + r)) v) address status did ready timer trace)) dm_X11_set_15 rfl (q_i16 ht hr) rfl ?_
    subst hres
    exact G.vreturn (pc := 16) dm_X11_set_16 rfl rfl rfl
abbrev M_X11_done : g_M := (cX11_done, 5, RX11, (some .int), { frames := 0, cells := 0, slots := 0, locals := 0 }, 0, 0)
theorem dm_X11_done_0 : decode M_X11_done.1 0 = .ok (.bipush 48, 2) := by decide +kernel
theorem dm_X11_done_2 : decode M_X11_done.1 2 = .ok (.iload_n 1, 1) := by decide +kernel
theorem dm_X11_done_3 : decode M_X11_done.1 3 = .ok (.imul, 1) := by decide +kernel
theorem dm_X11_done_4 : decode M_X11_done.1 4 = .ok (.iconst 3, 1) := by decide +kernel
theorem dm_X11_done_5 : decode M_X11_done.1 5 = .ok (.aload_n 0, 1) := by decide +kernel
theorem dm_X11_done_6 : decode M_X11_done.1 6 = .ok (.getfield 54, 3) := by decide +kernel
theorem dm_X11_done_9 : decode M_X11_done.1 9 = .ok (.iload_n 1, 1) := by decide +kernel
theorem dm_X11_done_10 : decode M_X11_done.1 10 = .ok (.iaload, 1) := by decide +kernel
theorem dm_X11_done_11 : decode M_X11_done.1 11 = .ok (.bipush 16, 2) := by decide +kernel
theorem dm_X11_done_13 : decode M_X11_done.1 13 = .ok (.irem, 1) := by decide +kernel
theorem dm_X11_done_14 : decode M_X11_done.1 14 = .ok (.imul, 1) := by decide +kernel
theorem dm_X11_done_15 : decode M_X11_done.1 15 = .ok (.iadd, 1) := by decide +kernel
theorem dm_X11_done_16 : decode M_X11_done.1 16 = .ok (.istore 4, 2) := by decide +kernel
theorem dm_X11_done_18 : decode M_X11_done.1 18 = .ok (.aload_n 0, 1) := by decide +kernel
theorem dm_X11_done_19 : decode M_X11_done.1 19 = .ok (.getfield 63, 3) := by decide +kernel
theorem dm_X11_done_22 : decode M_X11_done.1 22 = .ok (.iload 4, 2) := by decide +kernel
theorem dm_X11_done_24 : decode M_X11_done.1 24 = .ok (.aload_n 0, 1) := by decide +kernel
theorem dm_X11_done_25 : decode M_X11_done.1 25 = .ok (.getfield 48, 3) := by decide +kernel
theorem dm_X11_done_28 : decode M_X11_done.1 28 = .ok (.iload_n 1, 1) := by decide +kernel
theorem dm_X11_done_29 : decode M_X11_done.1 29 = .ok (.iaload, 1) := by decide +kernel
theorem dm_X11_done_30 : decode M_X11_done.1 30 = .ok (.iastore, 1) := by decide +kernel
theorem dm_X11_done_31 : decode M_X11_done.1 31 = .ok (.aload_n 0, 1) := by decide +kernel
theorem dm_X11_done_32 : decode M_X11_done.1 32 = .ok (.getfield 63, 3) := by decide +kernel
theorem dm_X11_done_35 : decode M_X11_done.1 35 = .ok (.iload 4, 2) := by decide +kernel
theorem dm_X11_done_37 : decode M_X11_done.1 37 = .ok (.iconst 1, 1) := by decide +kernel
theorem dm_X11_done_38 : decode M_X11_done.1 38 = .ok (.iadd, 1) := by decide +kernel
theorem dm_X11_done_39 : decode M_X11_done.1 39 = .ok (.aload_n 0, 1) := by decide +kernel
theorem dm_X11_done_40 : decode M_X11_done.1 40 = .ok (.getfield 291, 3) := by decide +kernel
theorem dm_X11_done_43 : decode M_X11_done.1 43 = .ok (.iastore, 1) := by decide +kernel
theorem dm_X11_done_44 : decode M_X11_done.1 44 = .ok (.aload_n 0, 1) := by decide +kernel
theorem dm_X11_done_45 : decode M_X11_done.1 45 = .ok (.getfield 63, 3) := by decide +kernel
theorem dm_X11_done_48 : decode M_X11_done.1 48 = .ok (.iload 4, 2) := by decide +kernel
theorem dm_X11_done_50 : decode M_X11_done.1 50 = .ok (.iconst 2, 1) := by decide +kernel
theorem dm_X11_done_51 : decode M_X11_done.1 51 = .ok (.iadd, 1) := by decide +kernel
theorem dm_X11_done_52 : decode M_X11_done.1 52 = .ok (.iload_n 3, 1) := by decide +kernel
theorem dm_X11_done_53 : decode M_X11_done.1 53 = .ok (.iastore, 1) := by decide +kernel
theorem dm_X11_done_54 : decode M_X11_done.1 54 = .ok (.aload_n 0, 1) := by decide +kernel
theorem dm_X11_done_55 : decode M_X11_done.1 55 = .ok (.getfield 54, 3) := by decide +kernel
theorem dm_X11_done_58 : decode M_X11_done.1 58 = .ok (.iload_n 1, 1) := by decide +kernel
theorem dm_X11_done_59 : decode M_X11_done.1 59 = .ok (.dup2, 1) := by decide +kernel
theorem dm_X11_done_60 : decode M_X11_done.1 60 = .ok (.iaload, 1) := by decide +kernel
theorem dm_X11_done_61 : decode M_X11_done.1 61 = .ok (.iconst 1, 1) := by decide +kernel
theorem dm_X11_done_62 : decode M_X11_done.1 62 = .ok (.iadd, 1) := by decide +kernel
theorem dm_X11_done_63 : decode M_X11_done.1 63 = .ok (.iastore, 1) := by decide +kernel
theorem dm_X11_done_64 : decode M_X11_done.1 64 = .ok (.aload_n 0, 1) := by decide +kernel
theorem dm_X11_done_65 : decode M_X11_done.1 65 = .ok (.getfield 48, 3) := by decide +kernel
theorem dm_X11_done_68 : decode M_X11_done.1 68 = .ok (.iload_n 1, 1) := by decide +kernel
theorem dm_X11_done_69 : decode M_X11_done.1 69 = .ok (.iload_n 2, 1) := by decide +kernel
theorem dm_X11_done_70 : decode M_X11_done.1 70 = .ok (.iastore, 1) := by decide +kernel
theorem dm_X11_done_71 : decode M_X11_done.1 71 = .ok (.aload_n 0, 1) := by decide +kernel
theorem dm_X11_done_72 : decode M_X11_done.1 72 = .ok (.getfield 57, 3) := by decide +kernel
theorem dm_X11_done_75 : decode M_X11_done.1 75 = .ok (.iload_n 1, 1) := by decide +kernel
theorem dm_X11_done_76 : decode M_X11_done.1 76 = .ok (.iload_n 3, 1) := by decide +kernel
theorem dm_X11_done_77 : decode M_X11_done.1 77 = .ok (.iastore, 1) := by decide +kernel
theorem dm_X11_done_78 : decode M_X11_done.1 78 = .ok (.iconst 1, 1) := by decide +kernel
theorem dm_X11_done_79 : decode M_X11_done.1 79 = .ok (.ireturn, 1) := by decide +kernel
def f_X11_done (t : Int32) (a : Int32) (when : Int32) (now : Int32) (address : Nat → Int32) (did : Nat → Int32) (ready : Nat → Int32) (trace : Nat → Int32) : Int32 × (Nat → Int32) × (Nat → Int32) × (Nat → Int32) × (Nat → Int32) := ((1 : Int32), (upd address (Int32.toNatClampNeg t) a), (upd did (Int32.toNatClampNeg t) ((did (Int32.toNatClampNeg t)) + (1 : Int32))), (upd ready (Int32.toNatClampNeg t) when), (upd (upd (upd trace (Int32.toNatClampNeg (((48 : Int32) * t) + ((3 : Int32) * ((did (Int32.toNatClampNeg t)) - (did (Int32.toNatClampNeg t)) / (16 : Int32) * (16 : Int32))))) (address (Int32.toNatClampNeg t))) (Int32.toNatClampNeg ((((48 : Int32) * t) + ((3 : Int32) * ((did (Int32.toNatClampNeg t)) - (did (Int32.toNatClampNeg t)) / (16 : Int32) * (16 : Int32)))) + (1 : Int32))) now) (Int32.toNatClampNeg ((((48 : Int32) * t) + ((3 : Int32) * ((did (Int32.toNatClampNeg t)) - (did (Int32.toNatClampNeg t)) / (16 : Int32) * (16 : Int32)))) + (2 : Int32))) when))
set_option maxRecDepth 20000 in
theorem k_X11_done {t : Int32} {a : Int32} {when : Int32} {refusal : Int32} {wheel : Int32} {now : Int32} {length : Int32} {at_ : Int32} {fault : Int32} {faultLine : Int32} {line : Int32} {words : Int32} {labels : Int32} {targets : Int32} {wrong : Int32} {unfit : Int32} {text : Nat → Int32} {code_ : Nat → Int32} {label : Nat → Int64} {labelWord : Nat → Int32} {target : Nat → Int64} {targetWord : Nat → Int32} {targetLine : Nat → Int32} {store : Nat → Int32} {common : Nat → Int32} {low : Nat → Int32} {high : Nat → Int32} {register : Nat → Int32} {address : Nat → Int32} {status : Nat → Int32} {did : Nat → Int32} {ready : Nat → Int32} {timer : Nat → Int32} {trace : Nat → Int32} (ht : 0 ≤ t.toInt ∧ t.toInt < 4) (hdid : ∀ j, j < 4 → 0 ≤ (did j).toInt) {r_0 : Int32} {r_1 : (Nat → Int32)} {r_2 : (Nat → Int32)} {r_3 : (Nat → Int32)} {r_4 : (Nat → Int32)} (hres : (r_0, r_1, r_2, r_3, r_4) = f_X11_done t a when now address did ready trace) : K M_X11_done yX11_done [.ref 0, .int t, .int a, .int when] (w_M refusal wheel now length at_ fault faultLine line words labels targets wrong unfit text code_ label labelWord target targetWord targetLine store common low high register address status did ready timer trace) (some (.int r_0)) (w_M refusal wheel now length at_ fault faultLine line words labels targets wrong unfit text code_ label labelWord target targetWord targetLine store common low high register r_1 status r_2 r_3 timer r_4) := by
  refine K.of (lv := [(0, .ref 0), (1, .int t), (2, .int a), (3, .int when)]) (by decide +kernel) rfl rfl rfl ?_
  rw [f_X11_done] at hres
  refine G.bipush (pc := 0) (v := (48 : Int32)) dm_X11_done_0 qb_48 ?_
  refine G.iload_n (pc := 2) dm_X11_done_2 rfl ?_
  refine G.imul (pc := 3) dm_X11_done_3 ?_
  refine G.iconst (pc := 4) (v := (3 : Int32)) dm_X11_done_4 qi_3 ?_
  refine G.aload_n (pc := 5) dm_X11_done_5 rfl ?_
  refine G.getfield (pc := 6) dm_X11_done_6 gf_X11_54 rfl rfl ?_
  refine G.iload_n (pc := 9) dm_X11_done_9 rfl ?_
  refine G.iaload (pc := 10) dm_X11_done_10 rfl (q_t ht) ?_
  refine G.bipush (pc := 11) (v := (16 : Int32)) dm_X11_done_11 qb_16 ?_
  refine G.irem (pc := 13) dm_X11_done_13 (by decide) ?_
  refine G.imul (pc := 14) dm_X11_done_14 ?_
  refine G.iadd (pc := 15) dm_X11_done_15 ?_
  refine G.istore (pc := 16) (lv1 := [(4, .int (((48 : Int32) * t) + ((3 : Int32) * ((did (Int32.toNatClampNeg t)) - (did (Int32.toNatClampNeg t)) / (16 : Int32) * (16 : Int32))))), (0, .ref 0), (1, .int t), (2, .int a), (3, .int when)]) dm_X11_done_16 rfl rfl ?_
  refine G.aload_n (pc := 18) dm_X11_done_18 rfl ?_
  refine G.getfield (pc := 19) dm_X11_done_19 gf_X11_63 rfl rfl ?_
  refine G.iload (pc := 22) dm_X11_done_22 rfl ?_
  refine G.aload_n (pc := 24) dm_X11_done_24 rfl ?_
  refine G.getfield (pc := 25) dm_X11_done_25 gf_X11_48 rfl rfl ?_
  refine G.iload_n (pc := 28) dm_X11_done_28 rfl ?_
  refine G.iaload (pc := 29) dm_X11_done_29 rfl (q_t ht) ?_
  refine G.iastore (pc := 30) (ws1 := (w_M refusal wheel now length at_ fault faultLine line words labels targets wrong unfit text code_ label labelWord target targetWord targetLine store common low high register address status did ready timer (upd trace (Int32.toNatClampNeg (((48 : Int32) * t) + ((3 : Int32) * ((did (Int32.toNatClampNeg t)) - (did (Int32.toNatClampNeg t)) / (16 : Int32) * (16 : Int32))))) (address (Int32.toNatClampNeg t))))) dm_X11_done_30 rfl (q_tr (e := 1) ht (hdid _ (q_cl ht)) (by decide)).1 rfl ?_
  refine G.aload_n (pc := 31) dm_X11_done_31 rfl ?_
  refine G.getfield (pc := 32) dm_X11_done_32 gf_X11_63 rfl rfl ?_
  refine G.iload (pc := 35) dm_X11_done_35 rfl ?_
  refine G.iconst (pc := 37) (v := (1 : Int32)) dm_X11_done_37 qi_1 ?_
  refine G.iadd (pc := 38) dm_X11_done_38 ?_
  refine G.aload_n (pc := 39) dm_X11_done_39 rfl ?_
  refine G.getfield (pc := 40) dm_X11_done_40 gf_X11_291 rfl rfl ?_
  refine G.iastore (pc := 43) (ws1 := (w_M refusal wheel now length at_ fault faultLine line words labels targets wrong unfit text code_ label labelWord target targetWord targetLine store common low high register address status did ready timer (upd (upd trace (Int32.toNatClampNeg (((48 : Int32) * t) + ((3 : Int32) * ((did (Int32.toNatClampNeg t)) - (did (Int32.toNatClampNeg t)) / (16 : Int32) * (16 : Int32))))) (address (Int32.toNatClampNeg t))) (Int32.toNatClampNeg ((((48 : Int32) * t) + ((3 : Int32) * ((did (Int32.toNatClampNeg t)) - (did (Int32.toNatClampNeg t)) / (16 : Int32) * (16 : Int32)))) + (1 : Int32))) now))) dm_X11_done_43 rfl (q_tr ht (hdid _ (q_cl ht)) (by decide)).2 rfl ?_
  refine G.aload_n (pc := 44) dm_X11_done_44 rfl ?_
  refine G.getfield (pc := 45) dm_X11_done_45 gf_X11_63 rfl rfl ?_
  refine G.iload (pc := 48) dm_X11_done_48 rfl ?_
  refine G.iconst (pc := 50) (v := (2 : Int32)) dm_X11_done_50 qi_2 ?_
  refine G.iadd (pc := 51) dm_X11_done_51 ?_
  refine G.iload_n (pc := 52) dm_X11_done_52 rfl ?_
  refine G.iastore (pc := 53) (ws1 := (w_M refusal wheel now length at_ fault faultLine line words labels targets wrong unfit text code_ label labelWord target targetWord targetLine store common low high register address status did ready timer (upd (upd (upd trace (Int32.toNatClampNeg (((48 : Int32) * t) + ((3 : Int32) * ((did (Int32.toNatClampNeg t)) - (did (Int32.toNatClampNeg t)) / (16 : Int32) * (16 : Int32))))) (address (Int32.toNatClampNeg t))) (Int32.toNatClampNeg ((((48 : Int32) * t) + ((3 : Int32) * ((did (Int32.toNatClampNeg t)) - (did (Int32.toNatClampNeg t)) / (16 : Int32) * (16 : Int32)))) + (1 : Int32))) now) (Int32.toNatClampNeg ((((48 : Int32) * t) + ((3 : Int32) * ((did (Int32.toNatClampNeg t)) - (did (Int32.toNatClampNeg t)) / (16 : Int32) * (16 : Int32)))) + (2 : Int32))) when))) dm_X11_done_53 rfl (q_tr ht (hdid _ (q_cl ht)) (by decide)).2 rfl ?_
  refine G.aload_n (pc := 54) dm_X11_done_54 rfl ?_
  refine G.getfield (pc := 55) dm_X11_done_55 gf_X11_54 rfl rfl ?_
  refine G.iload_n (pc := 58) dm_X11_done_58 rfl ?_
  refine G.dup2 (pc := 59) dm_X11_done_59 rfl rfl ?_
  refine G.iaload (pc := 60) dm_X11_done_60 rfl (q_t ht) ?_
  refine G.iconst (pc := 61) (v := (1 : Int32)) dm_X11_done_61 qi_1 ?_
  refine G.iadd (pc := 62) dm_X11_done_62 ?_
  refine G.iastore (pc := 63) (ws1 := (w_M refusal wheel now length at_ fault faultLine line words labels targets wrong unfit text code_ label labelWord target targetWord targetLine store common low high register address status (upd did (Int32.toNatClampNeg t) ((did (Int32.toNatClampNeg t)) + (1 : Int32))) ready timer (upd (upd (upd trace (Int32.toNatClampNeg (((48 : Int32) * t) + ((3 : Int32) * ((did (Int32.toNatClampNeg t)) - (did (Int32.toNatClampNeg t)) / (16 : Int32) * (16 : Int32))))) (address (Int32.toNatClampNeg t))) (Int32.toNatClampNeg ((((48 : Int32) * t) + ((3 : Int32) * ((did (Int32.toNatClampNeg t)) - (did (Int32.toNatClampNeg t)) / (16 : Int32) * (16 : Int32)))) + (1 : Int32))) now) (Int32.toNatClampNeg ((((48 : Int32) * t) + ((3 : Int32) * ((did (Int32.toNatClampNeg t)) - (did (Int32.toNatClampNeg t)) / (16 : Int32) * (16 : Int32)))) + (2 : Int32))) when))) dm_X11_done_63 rfl (q_t ht) rfl ?_
  refine G.aload_n (pc := 64) dm_X11_done_64 rfl ?_
  refine G.getfield (pc := 65) dm_X11_done_65 gf_X11_48 rfl rfl ?_
  refine G.iload_n (pc := 68) dm_X11_done_68 rfl ?_
  refine G.iload_n (pc := 69) dm_X11_done_69 rfl ?_
  refine G.iastore (pc := 70) (ws1 := (w_M refusal wheel now length at_ fault faultLine line words labels targets wrong unfit text code_ label labelWord target targetWord targetLine store common low high register (upd address (Int32.toNatClampNeg t) a) status (upd did (Int32.toNatClampNeg t) ((did (Int32.toNatClampNeg t)) + (1 : Int32))) ready timer (upd (upd (upd trace (Int32.toNatClampNeg (((48 : Int32) * t) + ((3 : Int32) * ((did (Int32.toNatClampNeg t)) - (did (Int32.toNatClampNeg t)) / (16 : Int32) * (16 : Int32))))) (address (Int32.toNatClampNeg t))) (Int32.toNatClampNeg ((((48 : Int32) * t) + ((3 : Int32) * ((did (Int32.toNatClampNeg t)) - (did (Int32.toNatClampNeg t)) / (16 : Int32) * (16 : Int32)))) + (1 : Int32))) now) (Int32.toNatClampNeg ((((48 : Int32) * t) + ((3 : Int32) * ((did (Int32.toNatClampNeg t)) - (did (Int32.toNatClampNeg t)) / (16 : Int32) * (16 : Int32)))) + (2 : Int32))) when))) dm_X11_done_70 rfl (q_t ht) rfl ?_
  refine G.aload_n (pc := 71) dm_X11_done_71 rfl ?_
  refine G.getfield (pc := 72) dm_X11_done_72 gf_X11_57 rfl rfl ?_
  refine G.iload_n (pc := 75) dm_X11_done_75 rfl ?_
  refine G.iload_n (pc := 76) dm_X11_done_76 rfl ?_
  refine G.iastore (pc := 77) (ws1 := (w_M refusal wheel now length at_ fault faultLine line words labels targets wrong unfit text code_ label labelWord target targetWord targetLine store common low high register (upd address (Int32.toNatClampNeg t) a) status (upd did (Int32.toNatClampNeg t) ((did (Int32.toNatClampNeg t)) + (1 : Int32))) (upd ready (Int32.toNatClampNeg t) when) timer (upd (upd (upd trace (Int32.toNatClampNeg (((48 : Int32) * t) + ((3 : Int32) * ((did (Int32.toNatClampNeg t)) - (did (Int32.toNatClampNeg t)) / (16 : Int32) * (16 : Int32))))) (address (Int32.toNatClampNeg t))) (Int32.toNatClampNeg ((((48 : Int32) * t) + ((3 : Int32) * ((did (Int32.toNatClampNeg t)) - (did (Int32.toNatClampNeg t)) / (16 : Int32) * (16 : Int32)))) + (1 : Int32))) now) (Int32.toNatClampNeg ((((48 : Int32) * t) + ((3 : Int32) * ((did (Int32.toNatClampNeg t)) - (did (Int32.toNatClampNeg t)) / (16 : Int32) * (16 : Int32)))) + (2 : Int32))) when))) dm_X11_done_77 rfl (q_t ht) rfl ?_
  refine G.iconst (pc := 78) (v := (1 : Int32)) dm_X11_done_78 qi_1 ?_
  cases hres
  exact G.ireturn (pc := 79) dm_X11_done_79 rfl rfl rfl
abbrev M_X11_isThere : g_M := (cX11_isThere, 4, RX11, (some .boolean), { frames := 1, cells := 0, slots := 0, locals := 20 }, 0, 0)
theorem dm_X11_isThere_0 : decode M_X11_isThere.1 0 = .ok (.iload_n 2, 1) := by decide +kernel
theorem dm_X11_isThere_1 : decode M_X11_isThere.1 1 = .ok (.iload_n 3, 1) := by decide +kernel
theorem dm_X11_isThere_2 : decode M_X11_isThere.1 2 = .ok (.iconst 1, 1) := by decide +kernel
theorem dm_X11_isThere_3 : decode M_X11_isThere.1 3 = .ok (.isub, 1) := by decide +kernel
theorem dm_X11_isThere_4 : decode M_X11_isThere.1 4 = .ok (.iand, 1) := by decide +kernel
theorem dm_X11_isThere_5 : decode M_X11_isThere.1 5 = .ok (.ifCond .eq 5, 3) := by decide +kernel
theorem dm_X11_isThere_8 : decode M_X11_isThere.1 8 = .ok (.iconst 0, 1) := by decide +kernel
theorem dm_X11_isThere_9 : decode M_X11_isThere.1 9 = .ok (.ireturn, 1) := by decide +kernel
theorem dm_X11_isThere_10 : decode M_X11_isThere.1 10 = .ok (.iload_n 2, 1) := by decide +kernel
theorem dm_X11_isThere_11 : decode M_X11_isThere.1 11 = .ok (.invokestatic 288, 3) := by decide +kernel
theorem dm_X11_isThere_14 : decode M_X11_isThere.1 14 = .ok (.ifCond .ne 35, 3) := by decide +kernel
theorem dm_X11_isThere_17 : decode M_X11_isThere.1 17 = .ok (.iload_n 2, 1) := by decide +kernel
theorem dm_X11_isThere_18 : decode M_X11_isThere.1 18 = .ok (.sipush 4096, 3) := by decide +kernel
theorem dm_X11_isThere_21 : decode M_X11_isThere.1 21 = .ok (.iconst 4, 1) := by decide +kernel
theorem dm_X11_isThere_22 : decode M_X11_isThere.1 22 = .ok (.aload_n 0, 1) := by decide +kernel
theorem dm_X11_isThere_23 : decode M_X11_isThere.1 23 = .ok (.getfield 39, 3) := by decide +kernel
theorem dm_X11_isThere_26 : decode M_X11_isThere.1 26 = .ok (.iload_n 1, 1) := by decide +kernel
theorem dm_X11_isThere_27 : decode M_X11_isThere.1 27 = .ok (.iaload, 1) := by decide +kernel
theorem dm_X11_isThere_28 : decode M_X11_isThere.1 28 = .ok (.imul, 1) := by decide +kernel
theorem dm_X11_isThere_29 : decode M_X11_isThere.1 29 = .ok (.iadd, 1) := by decide +kernel
theorem dm_X11_isThere_30 : decode M_X11_isThere.1 30 = .ok (.if_icmp .lt 23, 3) := by decide +kernel
theorem dm_X11_isThere_33 : decode M_X11_isThere.1 33 = .ok (.iload_n 2, 1) := by decide +kernel
theorem dm_X11_isThere_34 : decode M_X11_isThere.1 34 = .ok (.sipush 4096, 3) := by decide +kernel
theorem dm_X11_isThere_37 : decode M_X11_isThere.1 37 = .ok (.iconst 4, 1) := by decide +kernel
theorem dm_X11_isThere_38 : decode M_X11_isThere.1 38 = .ok (.aload_n 0, 1) := by decide +kernel
theorem dm_X11_isThere_39 : decode M_X11_isThere.1 39 = .ok (.getfield 42, 3) := by decide +kernel
theorem dm_X11_isThere_42 : decode M_X11_isThere.1 42 = .ok (.iload_n 1, 1) := by decide +kernel
theorem dm_X11_isThere_43 : decode M_X11_isThere.1 43 = .ok (.iaload, 1) := by decide +kernel
theorem dm_X11_isThere_44 : decode M_X11_isThere.1 44 = .ok (.imul, 1) := by decide +kernel
theorem dm_X11_isThere_45 : decode M_X11_isThere.1 45 = .ok (.iadd, 1) := by decide +kernel
theorem dm_X11_isThere_46 : decode M_X11_isThere.1 46 = .ok (.if_icmp .ge 7, 3) := by decide +kernel
theorem dm_X11_isThere_49 : decode M_X11_isThere.1 49 = .ok (.iconst 1, 1) := by decide +kernel
theorem dm_X11_isThere_50 : decode M_X11_isThere.1 50 = .ok (.goto 4, 3) := by decide +kernel
theorem dm_X11_isThere_53 : decode M_X11_isThere.1 53 = .ok (.iconst 0, 1) := by decide +kernel
theorem dm_X11_isThere_54 : decode M_X11_isThere.1 54 = .ok (.ireturn, 1) := by decide +kernel
theorem gc_X11_isThere_288 : g_cs M_X11_isThere 288 M_X11_isOwn yX11_isOwn 1 := ⟨tw769, tw770, tw5, tw771, ⟨rfl, rfl, rfl, rfl⟩, gd_X11_isOwn, ⟨by decide, by decide⟩⟩
def f_X11_isThere_c11 (t : Int32) (a : Int32) (low : Nat → Int32) (high : Nat → Int32) (z1_0 : Int32) : Int32 := (if z1_0 = 0 then (if a < ((4096 : Int32) + ((4 : Int32) * (low (Int32.toNatClampNeg t)))) then (0 : Int32) else (if ((4096 : Int32) + ((4 : Int32) * (high (Int32.toNatClampNeg t)))) ≤ a then (0 : Int32) else (1 : Int32))) else (1 : Int32))
def f_X11_isThere (t : Int32) (a : Int32) (size : Int32) (low : Nat → Int32) (high : Nat → Int32) : Int32 := (if (a &&& (size - (1 : Int32))) = 0 then (f_X11_isThere_c11 t a low high (f_X11_isOwn a)) else (0 : Int32))
set_option maxRecDepth 20000 in
theorem k_X11_isThere {t : Int32} {a : Int32} {size : Int32} {refusal : Int32} {wheel : Int32} {now : Int32} {length : Int32} {at_ : Int32} {fault : Int32} {faultLine : Int32} {line : Int32} {words : Int32} {labels : Int32} {targets : Int32} {wrong : Int32} {unfit : Int32} {text : Nat → Int32} {code_ : Nat → Int32} {label : Nat → Int64} {labelWord : Nat → Int32} {target : Nat → Int64} {targetWord : Nat → Int32} {targetLine : Nat → Int32} {store : Nat → Int32} {common : Nat → Int32} {low : Nat → Int32} {high : Nat → Int32} {register : Nat → Int32} {address : Nat → Int32} {status : Nat → Int32} {did : Nat → Int32} {ready : Nat → Int32} {timer : Nat → Int32} {trace : Nat → Int32} (ht : 0 ≤ t.toInt ∧ t.toInt < 4) {r_0 : Int32} (hres : r_0 = f_X11_isThere t a size low high) : K M_X11_isThere yX11_isThere [.ref 0, .int t, .int a, .int size] (w_M refusal wheel now length at_ fault faultLine line words labels targets wrong unfit text code_ label labelWord target targetWord targetLine store common low high register address status did ready timer trace) (some (.int r_0)) (w_M refusal wheel now length at_ fault faultLine line words labels targets wrong unfit text code_ label labelWord target targetWord targetLine store common low high register address status did ready timer trace) := by
  refine K.of (lv := [(0, .ref 0), (1, .int t), (2, .int a), (3, .int size)]) (by decide +kernel) rfl rfl rfl ?_
  rw [f_X11_isThere] at hres
  refine G.iload_n (pc := 0) dm_X11_isThere_0 rfl ?_
  refine G.iload_n (pc := 1) dm_X11_isThere_1 rfl ?_
  refine G.iconst (pc := 2) (v := (1 : Int32)) dm_X11_isThere_2 qi_1 ?_
  refine G.isub (pc := 3) dm_X11_isThere_3 ?_
  refine G.iand (pc := 4) dm_X11_isThere_4 ?_
  refine G.if_eq (pc := 5) (tgt := 10) dm_X11_isThere_5 (by decide) (fun c5 => ?_) (fun c5 => ?_)
  · rw [if_pos c5] at hres
    refine G.iload_n (pc := 10) dm_X11_isThere_10 rfl ?_
    obtain ⟨z1_0, hz1⟩ : ∃ (z1_0 : Int32), z1_0 = f_X11_isOwn a := ⟨_, rfl⟩
    refine G.callS (pc := 11) (rest := []) (st1 := [.int z1_0]) (ws1 := (w_M refusal wheel now length at_ fault faultLine line words labels targets wrong unfit text code_ label labelWord target targetWord targetLine store common low high register address status did ready timer trace)) [] dm_X11_isThere_11 gc_X11_isThere_288 (k_X11_isOwn (a := a) hz1) rfl rfl rfl rfl rfl rfl rfl rfl ?_
    replace hres : r_0 = f_X11_isThere_c11 t a low high z1_0 := hres.trans (by rw [← hz1])
    rw [f_X11_isThere_c11] at hres
    refine G.if_ne (pc := 14) (tgt := 49) dm_X11_isThere_14 (by decide) (fun c14 => ?_) (fun c14 => ?_)
    · rw [if_neg c14] at hres
      refine G.iconst (pc := 49) (v := (1 : Int32)) dm_X11_isThere_49 qi_1 ?_
      refine G.goto (pc := 50) (tgt := 54) dm_X11_isThere_50 (by decide) ?_
      subst hres
      exact G.zreturn (pc := 54) dm_X11_isThere_54 rfl (by decide) rfl rfl
    · rw [if_pos c14] at hres
      refine G.iload_n (pc := 17) dm_X11_isThere_17 rfl ?_
      refine G.sipush (pc := 18) (v := (4096 : Int32)) dm_X11_isThere_18 qs_4096 ?_
      refine G.iconst (pc := 21) (v := (4 : Int32)) dm_X11_isThere_21 qi_4 ?_
      refine G.aload_n (pc := 22) dm_X11_isThere_22 rfl ?_
      refine G.getfield (pc := 23) dm_X11_isThere_23 gf_X11_39 rfl rfl ?_
      refine G.iload_n (pc := 26) dm_X11_isThere_26 rfl ?_
      refine G.iaload (pc := 27) dm_X11_isThere_27 rfl (q_t ht) ?_
      refine G.imul (pc := 28) dm_X11_isThere_28 ?_
      refine G.iadd (pc := 29) dm_X11_isThere_29 ?_
      refine G.icmp_lt (pc := 30) (tgt := 53) dm_X11_isThere_30 (by decide) (fun c30 => ?_) (fun c30 => ?_)
      · rw [if_pos c30] at hres
        refine G.iconst (pc := 53) (v := (0 : Int32)) dm_X11_isThere_53 qi_0 ?_
        subst hres
        exact G.zreturn (pc := 54) dm_X11_isThere_54 rfl (by decide) rfl rfl
      · rw [if_neg c30] at hres
        refine G.iload_n (pc := 33) dm_X11_isThere_33 rfl ?_
        refine G.sipush (pc := 34) (v := (4096 : Int32)) dm_X11_isThere_34 qs_4096 ?_
        refine G.iconst (pc := 37) (v := (4 : Int32)) dm_X11_isThere_37 qi_4 ?_
        refine G.aload_n (pc := 38) dm_X11_isThere_38 rfl ?_
        refine G.getfield (pc := 39) dm_X11_isThere_39 gf_X11_42 rfl rfl ?_
        refine G.iload_n (pc := 42) dm_X11_isThere_42 rfl ?_
        refine G.iaload (pc := 43) dm_X11_isThere_43 rfl (q_t ht) ?_
        refine G.imul (pc := 44) dm_X11_isThere_44 ?_
        refine G.iadd (pc := 45) dm_X11_isThere_45 ?_
        refine G.icmp_ge (pc := 46) (tgt := 53) dm_X11_isThere_46 (by decide) (fun c46 => ?_) (fun c46 => ?_)
        · rw [if_pos c46] at hres
          refine G.iconst (pc := 53) (v := (0 : Int32)) dm_X11_isThere_53 qi_0 ?_
          subst hres
          exact G.zreturn (pc := 54) dm_X11_isThere_54 rfl (by decide) rfl rfl
        · rw [if_neg c46] at hres
          refine G.iconst (pc := 49) (v := (1 : Int32)) dm_X11_isThere_49 qi_1 ?_
          refine G.goto (pc := 50) (tgt := 54) dm_X11_isThere_50 (by decide) ?_
          subst hres
          exact G.zreturn (pc := 54) dm_X11_isThere_54 rfl (by decide) rfl rfl
  · rw [if_neg c5] at hres
    refine G.iconst (pc := 8) (v := (0 : Int32)) dm_X11_isThere_8 qi_0 ?_
    subst hres
    exact G.zreturn (pc := 9) dm_X11_isThere_9 rfl (by decide) rfl rfl
theorem a_isThere {t a size z : Int32} {low high : Nat → Int32} (h : f_X11_isThere t a size low high = z) (ht : 0 ≤ t.toInt ∧ t.toInt < 4) (hlh : ∀ j, j < 4 → 0 ≤ (low j).toInt ∧ (low j).toInt ≤ (high j).toInt ∧ (high j).toInt ≤ 64) : ¬ z = 0 → (0 ≤ a.toInt ∧ a.toInt < 512) ∨ (4096 ≤ a.toInt ∧ a.toInt < 4352) := by
  subst h
  unfold f_X11_isThere f_X11_isThere_c11
  intro hz
  have hl := hlh _ (q_cl ht)
  have h1 := q_4096 (x := low t.toNatClampNeg) ⟨hl.1, by omega⟩
  have h2 := q_4096 (x := high t.toNatClampNeg) ⟨by omega, hl.2.2⟩
  split at hz
  · split at hz
    · split at hz
      · exact absurd rfl hz
      · rename_i c1
        split at hz
        · exact absurd rfl hz
        · rename_i c2
          have := q_nlt c1
          have := q_nle c2
          omega
    · rename_i c0
      exact Or.inl ((a_isOwn rfl).1 c0)
  · exact absurd rfl hz
abbrev M_X11_wordAt : g_M := (cX11_wordAt, 3, RX11, (some .int), { frames := 1, cells := 0, slots := 0, locals := 20 }, 0, 0)
theorem dm_X11_wordAt_0 : decode M_X11_wordAt.1 0 = .ok (.iload_n 2, 1) := by decide +kernel
theorem dm_X11_wordAt_1 : decode M_X11_wordAt.1 1 = .ok (.invokestatic 288, 3) := by decide +kernel
theorem dm_X11_wordAt_4 : decode M_X11_wordAt.1 4 = .ok (.ifCond .eq 20, 3) := by decide +kernel
theorem dm_X11_wordAt_7 : decode M_X11_wordAt.1 7 = .ok (.aload_n 0, 1) := by decide +kernel
theorem dm_X11_wordAt_8 : decode M_X11_wordAt.1 8 = .ok (.getfield 33, 3) := by decide +kernel
theorem dm_X11_wordAt_11 : decode M_X11_wordAt.1 11 = .ok (.sipush 128, 3) := by decide +kernel
theorem dm_X11_wordAt_14 : decode M_X11_wordAt.1 14 = .ok (.iload_n 1, 1) := by decide +kernel
theorem dm_X11_wordAt_15 : decode M_X11_wordAt.1 15 = .ok (.imul, 1) := by decide +kernel
theorem dm_X11_wordAt_16 : decode M_X11_wordAt.1 16 = .ok (.iload_n 2, 1) := by decide +kernel
theorem dm_X11_wordAt_17 : decode M_X11_wordAt.1 17 = .ok (.iconst 4, 1) := by decide +kernel
theorem dm_X11_wordAt_18 : decode M_X11_wordAt.1 18 = .ok (.idiv, 1) := by decide +kernel
theorem dm_X11_wordAt_19 : decode M_X11_wordAt.1 19 = .ok (.iadd, 1) := by decide +kernel
theorem dm_X11_wordAt_20 : decode M_X11_wordAt.1 20 = .ok (.iaload, 1) := by decide +kernel
theorem dm_X11_wordAt_21 : decode M_X11_wordAt.1 21 = .ok (.goto 15, 3) := by decide +kernel
theorem dm_X11_wordAt_24 : decode M_X11_wordAt.1 24 = .ok (.aload_n 0, 1) := by decide +kernel
theorem dm_X11_wordAt_25 : decode M_X11_wordAt.1 25 = .ok (.getfield 36, 3) := by decide +kernel
theorem dm_X11_wordAt_28 : decode M_X11_wordAt.1 28 = .ok (.iload_n 2, 1) := by decide +kernel
theorem dm_X11_wordAt_29 : decode M_X11_wordAt.1 29 = .ok (.sipush 4096, 3) := by decide +kernel
theorem dm_X11_wordAt_32 : decode M_X11_wordAt.1 32 = .ok (.isub, 1) := by decide +kernel
theorem dm_X11_wordAt_33 : decode M_X11_wordAt.1 33 = .ok (.iconst 4, 1) := by decide +kernel
theorem dm_X11_wordAt_34 : decode M_X11_wordAt.1 34 = .ok (.idiv, 1) := by decide +kernel
theorem dm_X11_wordAt_35 : decode M_X11_wordAt.1 35 = .ok (.iaload, 1) := by decide +kernel
theorem dm_X11_wordAt_36 : decode M_X11_wordAt.1 36 = .ok (.ireturn, 1) := by decide +kernel
theorem gc_X11_wordAt_288 : g_cs M_X11_wordAt 288 M_X11_isOwn yX11_isOwn 1 := ⟨tw769, tw770, tw5, tw771, ⟨rfl, rfl, rfl, rfl⟩, gd_X11_isOwn, ⟨by decide, by decide⟩⟩
def f_X11_wordAt_c1 (t : Int32) (a : Int32) (store : Nat → Int32) (common : Nat → Int32) (z1_0 : Int32) : Int32 := (if z1_0 = 0 then (common (Int32.toNatClampNeg ((a - (4096 : Int32)) / (4 : Int32)))) else (store (Int32.toNatClampNeg (((128 : Int32) * t) + (a / (4 : Int32))))))
def f_X11_wordAt (t : Int32) (a : Int32) (store : Nat → Int32) (common : Nat → Int32) : Int32 := (f_X11_wordAt_c1 t a store common (f_X11_isOwn a))
set_option maxRecDepth 20000 in
theorem k_X11_wordAt {t : Int32} {a : Int32} {refusal : Int32} {wheel : Int32} {now : Int32} {length : Int32} {at_ : Int32} {fault : Int32} {faultLine : Int32} {line : Int32} {words : Int32} {labels : Int32} {targets : Int32} {wrong : Int32} {unfit : Int32} {text : Nat → Int32} {code_ : Nat → Int32} {label : Nat → Int64} {labelWord : Nat → Int32} {target : Nat → Int64} {targetWord : Nat → Int32} {targetLine : Nat → Int32} {store : Nat → Int32} {common : Nat → Int32} {low : Nat → Int32} {high : Nat → Int32} {register : Nat → Int32} {address : Nat → Int32} {status : Nat → Int32} {did : Nat → Int32} {ready : Nat → Int32} {timer : Nat → Int32} {trace : Nat → Int32} (ht : 0 ≤ t.toInt ∧ t.toInt < 4) (hwa : (0 ≤ a.toInt ∧ a.toInt < 512) ∨ (4096 ≤ a.toInt ∧ a.toInt < 4352)) {r_0 : Int32} (hres : r_0 = f_X11_wordAt t a store common) : K M_X11_wordAt yX11_wordAt [.ref 0, .int t, .int a] (w_M refusal wheel now length at_ fault faultLine line words labels targets wrong unfit text code_ label labelWord target targetWord targetLine store common low high register address status did ready timer trace) (some (.int r_0)) (w_M refusal wheel now length at_ fault faultLine line words labels targets wrong unfit text code_ label labelWord target targetWord targetLine store common low high register address status did ready timer trace) := by
  refine K.of (lv := [(0, .ref 0), (1, .int t), (2, .int a)]) (by decide +kernel) rfl rfl rfl ?_
  rw [f_X11_wordAt] at hres
  refine G.iload_n (pc := 0) dm_X11_wordAt_0 rfl ?_
  obtain ⟨z1_0, hz1⟩ : ∃ (z1_0 : Int32), z1_0 = f_X11_isOwn a := ⟨_, rfl⟩
  refine G.callS (pc := 1) (rest := []) (st1 := [.int z1_0]) (ws1 := (w_M refusal wheel now length at_ fault faultLine line words labels targets wrong unfit text code_ label labelWord target targetWord targetLine store common low high register address status did ready timer trace)) [] dm_X11_wordAt_1 gc_X11_wordAt_288 (k_X11_isOwn (a := a) hz1) rfl rfl rfl rfl rfl rfl rfl rfl ?_
  have own := a_isOwn hz1.symm
  replace hres : r_0 = f_X11_wordAt_c1 t a store common z1_0 := hres.trans (by rw [← hz1])
  rw [f_X11_wordAt_c1] at hres
  refine G.if_eq (pc := 4) (tgt := 24) dm_X11_wordAt_4 (by decide) (fun c4 => ?_) (fun c4 => ?_)
  · rw [if_pos c4] at hres
    refine G.aload_n (pc := 24) dm_X11_wordAt_24 rfl ?_
    refine G.getfield (pc := 25) dm_X11_wordAt_25 gf_X11_36 rfl rfl ?_
    refine G.iload_n (pc := 28) dm_X11_wordAt_28 rfl ?_
    refine G.sipush (pc := 29) (v := (4096 : Int32)) dm_X11_wordAt_29 qs_4096 ?_
    refine G.isub (pc := 32) dm_X11_wordAt_32 ?_
    refine G.iconst (pc := 33) (v := (4 : Int32)) dm_X11_wordAt_33 qi_4 ?_
    refine G.idiv (pc := 34) dm_X11_wordAt_34 (by decide) ?_
    refine G.iaload (pc := 35) dm_X11_wordAt_35 rfl (q_sh (hwa.resolve_left (fun h => by have := own.2 c4; omega))) ?_
    subst hres
    exact G.ireturn (pc := 36) dm_X11_wordAt_36 rfl rfl rfl
  · rw [if_neg c4] at hres
    refine G.aload_n (pc := 7) dm_X11_wordAt_7 rfl ?_
    refine G.getfield (pc := 8) dm_X11_wordAt_8 gf_X11_33 rfl rfl ?_
    refine G.sipush (pc := 11) (v := (128 : Int32)) dm_X11_wordAt_11 qs_128 ?_
    refine G.iload_n (pc := 14) dm_X11_wordAt_14 rfl ?_
    refine G.imul (pc := 15) dm_X11_wordAt_15 ?_
    refine G.iload_n (pc := 16) dm_X11_wordAt_16 rfl ?_
    refine G.iconst (pc := 17) (v := (4 : Int32)) dm_X11_wordAt_17 qi_4 ?_
    refine G.idiv (pc := 18) dm_X11_wordAt_18 (by decide) ?_
    refine G.iadd (pc := 19) dm_X11_wordAt_19 ?_
    refine G.iaload (pc := 20) dm_X11_wordAt_20 rfl (q_w4 ht (own.1 c4)) ?_
    refine G.goto (pc := 21) (tgt := 36) dm_X11_wordAt_21 (by decide) ?_
    subst hres
    exact G.ireturn (pc := 36) dm_X11_wordAt_36 rfl rfl rfl
abbrev M_X11_put : g_M := (cX11_put, 4, RX11, none, { frames := 1, cells := 0, slots := 0, locals := 20 }, 0, 0)
theorem dm_X11_put_0 : decode M_X11_put.1 0 = .ok (.iload_n 2, 1) := by decide +kernel
theorem dm_X11_put_1 : decode M_X11_put.1 1 = .ok (.invokestatic 288, 3) := by decide +kernel
theorem dm_X11_put_4 : decode M_X11_put.1 4 = .ok (.ifCond .eq 21, 3) := by decide +kernel
theorem dm_X11_put_7 : decode M_X11_put.1 7 = .ok (.aload_n 0, 1) := by decide +kernel
theorem dm_X11_put_8 : decode M_X11_put.1 8 = .ok (.getfield 33, 3) := by decide +kernel
theorem dm_X11_put_11 : decode M_X11_put.1 11 = .ok (.sipush 128, 3) := by decide +kernel
theorem dm_X11_put_14 : decode M_X11_put.1 14 = .ok (.iload_n 1, 1) := by decide +kernel
theorem dm_X11_put_15 : decode M_X11_put.1 15 = .ok (.imul, 1) := by decide +kernel
theorem dm_X11_put_16 : decode M_X11_put.1 16 = .ok (.iload_n 2, 1) := by decide +kernel
theorem dm_X11_put_17 : decode M_X11_put.1 17 = .ok (.iconst 4, 1) := by decide +kernel
theorem dm_X11_put_18 : decode M_X11_put.1 18 = .ok (.idiv, 1) := by decide +kernel
theorem dm_X11_put_19 : decode M_X11_put.1 19 = .ok (.iadd, 1) := by decide +kernel
theorem dm_X11_put_20 : decode M_X11_put.1 20 = .ok (.iload_n 3, 1) := by decide +kernel
theorem dm_X11_put_21 : decode M_X11_put.1 21 = .ok (.iastore, 1) := by decide +kernel
theorem dm_X11_put_22 : decode M_X11_put.1 22 = .ok (.goto 16, 3) := by decide +kernel
theorem dm_X11_put_25 : decode M_X11_put.1 25 = .ok (.aload_n 0, 1) := by decide +kernel
theorem dm_X11_put_26 : decode M_X11_put.1 26 = .ok (.getfield 36, 3) := by decide +kernel
theorem dm_X11_put_29 : decode M_X11_put.1 29 = .ok (.iload_n 2, 1) := by decide +kernel
theorem dm_X11_put_30 : decode M_X11_put.1 30 = .ok (.sipush 4096, 3) := by decide +kernel
theorem dm_X11_put_33 : decode M_X11_put.1 33 = .ok (.isub, 1) := by decide +kernel
theorem dm_X11_put_34 : decode M_X11_put.1 34 = .ok (.iconst 4, 1) := by decide +kernel
theorem dm_X11_put_35 : decode M_X11_put.1 35 = .ok (.idiv, 1) := by decide +kernel
theorem dm_X11_put_36 : decode M_X11_put.1 36 = .ok (.iload_n 3, 1) := by decide +kernel
theorem dm_X11_put_37 : decode M_X11_put.1 37 = .ok (.iastore, 1) := by decide +kernel
theorem dm_X11_put_38 : decode M_X11_put.1 38 = .ok (.return_, 1) := by decide +kernel
theorem gc_X11_put_288 : g_cs M_X11_put 288 M_X11_isOwn yX11_isOwn 1 := ⟨tw769, tw770, tw5, tw771, ⟨rfl, rfl, rfl, rfl⟩, gd_X11_isOwn, ⟨by decide, by decide⟩⟩
def f_X11_put_c1 (t : Int32) (a : Int32) (v : Int32) (store : Nat → Int32) (common : Nat → Int32) (z1_0 : Int32) : (Nat → Int32) × (Nat → Int32) := (if z1_0 = 0 then (store, (upd common (Int32.toNatClampNeg ((a - (4096 : Int32)) / (4 : Int32))) v)) else ((upd store (Int32.toNatClampNeg (((128 : Int32) * t) + (a / (4 : Int32)))) v), common))
def f_X11_put (t : Int32) (a : Int32) (v : Int32) (store : Nat → Int32) (common : Nat → Int32) : (Nat → Int32) × (Nat → Int32) := (f_X11_put_c1 t a v store common (f_X11_isOwn a))
set_option maxRecDepth 20000 in
theorem k_X11_put {t : Int32} {a : Int32} {v : Int32} {refusal : Int32} {wheel : Int32} {now : Int32} {length : Int32} {at_ : Int32} {fault : Int32} {faultLine : Int32} {line : Int32} {words : Int32} {labels : Int32} {targets : Int32} {wrong : Int32} {unfit : Int32} {text : Nat → Int32} {code_ : Nat → Int32} {label : Nat → Int64} {labelWord : Nat → Int32} {target : Nat → Int64} {targetWord : Nat → Int32} {targetLine : Nat → Int32} {store : Nat → Int32} {common : Nat → Int32} {low : Nat → Int32} {high : Nat → Int32} {register : Nat → Int32} {address : Nat → Int32} {status : Nat → Int32} {did : Nat → Int32} {ready : Nat → Int32} {timer : Nat → Int32} {trace : Nat → Int32} (ht : 0 ≤ t.toInt ∧ t.toInt < 4) (hwa : (0 ≤ a.toInt ∧ a.toInt < 512) ∨ (4096 ≤ a.toInt ∧ a.toInt < 4352)) {r_0 : (Nat → Int32)} {r_1 : (Nat → Int32)} (hres : (r_0, r_1) = f_X11_put t a v store common) : K M_X11_put yX11_put [.ref 0, .int t, .int a, .int v] (w_M refusal wheel now length at_ fault faultLine line words labels targets wrong unfit text code_ label labelWord target targetWord targetLine store common low high register address status did ready timer trace) (none) (w_M refusal wheel now length at_ fault faultLine line words labels targets wrong unfit text code_ label labelWord target targetWord targetLine r_0 r_1 low high register address status did ready timer trace) := by
  refine K.of (lv := [(0, .ref 0), (1, .int t), (2, .int a), (3, .int v)]) (by decide +kernel) rfl rfl rfl ?_
  rw [f_X11_put] at hres
  refine G.iload_n (pc := 0) dm_X11_put_0 rfl ?_
  obtain ⟨z1_0, hz1⟩ : ∃ (z1_0 : Int32), z1_0 = f_X11_isOwn a := ⟨_, rfl⟩
  refine G.callS (pc := 1) (rest := []) (st1 := [.int z1_0]) (ws1 := (w_M refusal wheel now length at_ fault faultLine line words labels targets wrong unfit text code_ label labelWord target targetWord targetLine store common low high register address status did ready timer trace)) [] dm_X11_put_1 gc_X11_put_288 (k_X11_isOwn (a := a) hz1) rfl rfl rfl rfl rfl rfl rfl rfl ?_
  have own := a_isOwn hz1.symm
  replace hres : (r_0, r_1) = f_X11_put_c1 t a v store common z1_0 := hres.trans (by rw [← hz1])
  rw [f_X11_put_c1] at hres
  refine G.if_eq (pc := 4) (tgt := 25) dm_X11_put_4 (by decide) (fun c4 => ?_) (fun c4 => ?_)
  · rw [if_pos c4] at hres
    refine G.aload_n (pc := 25) dm_X11_put_25 rfl ?_
    refine G.getfield (pc := 26) dm_X11_put_26 gf_X11_36 rfl rfl ?_
    refine G.iload_n (pc := 29) dm_X11_put_29 rfl ?_
    refine G.sipush (pc := 30) (v := (4096 : Int32)) dm_X11_put_30 qs_4096 ?_
    refine G.isub (pc := 33) dm_X11_put_33 ?_
    refine G.iconst (pc := 34) (v := (4 : Int32)) dm_X11_put_34 qi_4 ?_
    refine G.idiv (pc := 35) dm_X11_put_35 (by decide) ?_
    refine G.iload_n (pc := 36) dm_X11_put_36 rfl ?_
    refine G.iastore (pc := 37) (ws1 := (w_M refusal wheel now length at_ fault faultLine line words labels targets wrong unfit text code_ label labelWord target targetWord targetLine store (upd common (Int32.toNatClampNeg ((a - (4096 : Int32)) / (4 : Int32))) v) low high register address status did ready timer trace)) dm_X11_put_37 rfl (q_sh (hwa.resolve_left (fun h => by have := own.2 c4; omega))) rfl ?_
    cases hres
    exact G.vreturn (pc := 38) dm_X11_put_38 rfl rfl rfl
  · rw [if_neg c4] at hres
    refine G.aload_n (pc := 7) dm_X11_put_7 rfl ?_
    refine G.getfield (pc := 8) dm_X11_put_8 gf_X11_33 rfl rfl ?_
    refine G.sipush (pc := 11) (v := (128 : Int32)) dm_X11_put_11 qs_128 ?_
    refine G.iload_n (pc := 14) dm_X11_put_14 rfl ?_
    refine G.imul (pc := 15) dm_X11_put_15 ?_
    refine G.iload_n (pc := 16) dm_X11_put_16 rfl ?_
    refine G.iconst (pc := 17) (v := (4 : Int32)) dm_X11_put_17 qi_4 ?_
    refine G.idiv (pc := 18) dm_X11_put_18 (by decide) ?_
    refine G.iadd (pc := 19) dm_X11_put_19 ?_
    refine G.iload_n (pc := 20) dm_X11_put_20 rfl ?_
    refine G.iastore (pc := 21) (ws1 := (w_M refusal wheel now length at_ fault faultLine line words labels targets wrong unfit text code_ label labelWord target targetWord targetLine (upd store (Int32.toNatClampNeg (((128 : Int32) * t) + (a / (4 : Int32)))) v) common low high register address status did ready timer trace)) dm_X11_put_21 rfl (q_w4 ht (own.1 c4)) rfl ?_
    refine G.goto (pc := 22) (tgt := 38) dm_X11_put_22 (by decide) ?_
    cases hres
    exact G.vreturn (pc := 38) dm_X11_put_38 rfl rfl rfl
abbrev M_X11_first : g_M := (cX11_first, 3, RX11, (some .int), { frames := 0, cells := 0, slots := 0, locals := 0 }, 0, 0)
theorem dm_X11_first_0 : decode M_X11_first.1 0 = .ok (.aload_n 0, 1) := by decide +kernel
theorem dm_X11_first_1 : decode M_X11_first.1 1 = .ok (.getfield 291, 3) := by decide +kernel
theorem dm_X11_first_4 : decode M_X11_first.1 4 = .ok (.istore_n 2, 1) := by decide +kernel
theorem dm_X11_first_5 : decode M_X11_first.1 5 = .ok (.iload_n 2, 1) := by decide +kernel
theorem dm_X11_first_6 : decode M_X11_first.1 6 = .ok (.iconst 4, 1) := by decide +kernel
theorem dm_X11_first_7 : decode M_X11_first.1 7 = .ok (.aload_n 0, 1) := by decide +kernel
theorem dm_X11_first_8 : decode M_X11_first.1 8 = .ok (.getfield 66, 3) := by decide +kernel
theorem dm_X11_first_11 : decode M_X11_first.1 11 = .ok (.imul, 1) := by decide +kernel
theorem dm_X11_first_12 : decode M_X11_first.1 12 = .ok (.irem, 1) := by decide +kernel
theorem dm_X11_first_13 : decode M_X11_first.1 13 = .ok (.aload_n 0, 1) := by decide +kernel
theorem dm_X11_first_14 : decode M_X11_first.1 14 = .ok (.getfield 66, 3) := by decide +kernel
theorem dm_X11_first_17 : decode M_X11_first.1 17 = .ok (.iload_n 1, 1) := by decide +kernel
theorem dm_X11_first_18 : decode M_X11_first.1 18 = .ok (.imul, 1) := by decide +kernel
theorem dm_X11_first_19 : decode M_X11_first.1 19 = .ok (.if_icmp .eq 9, 3) := by decide +kernel
theorem dm_X11_first_22 : decode M_X11_first.1 22 = .ok (.iinc 2 1, 3) := by decide +kernel
theorem dm_X11_first_25 : decode M_X11_first.1 25 = .ok (.goto (-20), 3) := by decide +kernel
theorem dm_X11_first_28 : decode M_X11_first.1 28 = .ok (.iload_n 2, 1) := by decide +kernel
theorem dm_X11_first_29 : decode M_X11_first.1 29 = .ok (.ireturn, 1) := by decide +kernel
def f_X11_first_5 (wheel : Int32) : Nat → Int32 → Int32 → Int32
  | 0, l1, l2 => 0
  | n + 1, l1, l2 => (if (l2 - l2 / ((4 : Int32) * wheel) * ((4 : Int32) * wheel)) = (wheel * l1) then l2 else ((f_X11_first_5 wheel n) l1 (l2 + (1 : Int32))))
set_option maxRecDepth 20000 in
theorem j_X11_first_5 : ∀ (n : Nat) {l1 : Int32} {l2 : Int32} {refusal : Int32} {wheel : Int32} {now : Int32} {length : Int32} {at_ : Int32} {fault : Int32} {faultLine : Int32} {line : Int32} {words : Int32} {labels : Int32} {targets : Int32} {wrong : Int32} {unfit : Int32} {text : Nat → Int32} {code_ : Nat → Int32} {label : Nat → Int64} {labelWord : Nat → Int32} {target : Nat → Int64} {targetWord : Nat → Int32} {targetLine : Nat → Int32} {store : Nat → Int32} {common : Nat → Int32} {low : Nat → Int32} {high : Nat → Int32} {register : Nat → Int32} {address : Nat → Int32} {status : Nat → Int32} {did : Nat → Int32} {ready : Nat → Int32} {timer : Nat → Int32} {trace : Nat → Int32} {r_0 : Int32}, (hwh : 1 ≤ wheel.toInt ∧ wheel.toInt ≤ 8) → (ht : 0 ≤ l1.toInt ∧ l1.toInt < 4) → (hb : 0 ≤ l2.toInt ∧ l2.toInt + (wheel.toInt * l1.toInt - l2.toInt) % (4 * wheel.toInt) ≤ 1100040) → (((wheel.toInt * l1.toInt - l2.toInt) % (4 * wheel.toInt)).toNat) < n → r_0 = f_X11_first_5 wheel n l1 l2 → G M_X11_first 0 0 5 [(0, .ref 0), (1, .int l1), (2, .int l2)] [] (w_M refusal wheel now length at_ fault faultLine line words labels targets wrong unfit text code_ label labelWord target targetWord targetLine store common low high register address status did ready timer trace) (some (.int r_0)) (w_M refusal wheel now length at_ fault faultLine line words labels targets wrong unfit text code_ label labelWord target targetWord targetLine store common low high register address status did ready timer trace) := by
  intro n
  induction n with
  | zero =>
    intro l1 l2 refusal wheel now length at_ fault faultLine line words labels targets wrong unfit text code_ label labelWord target targetWord targetLine store common low high register address status did ready timer trace r_0 hwh ht hb hm hres
    exact absurd hm (Nat.not_lt_zero _)
  | succ n ih =>
    intro l1 l2 refusal wheel now length at_ fault faultLine line words labels targets wrong unfit text code_ label labelWord target targetWord targetLine store common low high register address status did ready timer trace r_0 hwh ht hb hm hres
    obtain ⟨mu, hmu⟩ : ∃ z, (((wheel.toInt * l1.toInt - l2.toInt) % (4 * wheel.toInt)).toNat) = z := ⟨_, rfl⟩
    rw [hmu] at hm
    have hk5 : ∀ {l1 : Int32} {l2 : Int32} {refusal : Int32} {wheel : Int32} {now : Int32} {length : Int32} {at_ : Int32} {fault : Int32} {faultLine : Int32} {line : Int32} {words : Int32} {labels : Int32} {targets : Int32} {wrong : Int32} {unfit : Int32} {text : Nat → Int32} {code_ : Nat → Int32} {label : Nat → Int64} {labelWord : Nat → Int32} {target : Nat → Int64} {targetWord : Nat → Int32} {targetLine : Nat → Int32} {store : Nat → Int32} {common : Nat → Int32} {low : Nat → Int32} {high : Nat → Int32} {register : Nat → Int32} {address : Nat → Int32} {status : Nat → Int32} {did : Nat → Int32} {ready : Nat → Int32} {timer : Nat → Int32} {trace : Nat → Int32}, (1 ≤ wheel.toInt ∧ wheel.toInt ≤ 8) → (0 ≤ l1.toInt ∧ l1.toInt < 4) → (0 ≤ l2.toInt ∧ l2.toInt + (wheel.toInt * l1.toInt - l2.toInt) % (4 * wheel.toInt) ≤ 1100040) → (((wheel.toInt * l1.toInt - l2.toInt) % (4 * wheel.toInt)).toNat) < mu → r_0 = (f_X11_first_5 wheel n) l1 l2 → G M_X11_first 0 0 5 [(0, .ref 0), (1, .int l1), (2, .int l2)] [] (w_M refusal wheel now length at_ fault faultLine line words labels targets wrong unfit text code_ label labelWord target targetWord targetLine store common low high register address status did ready timer trace) (some (.int r_0)) (w_M refusal wheel now length at_ fault faultLine line words labels targets wrong unfit text code_ label labelWord target targetWord targetLine store common low high register address status did ready timer trace) := fun hwh ht hb hlt he => ih hwh ht hb (Nat.lt_of_lt_of_le hlt (Nat.le_of_lt_succ hm)) he
    rw [f_X11_first_5] at hres
    refine G.iload_n (pc := 5) dm_X11_first_5 rfl ?_
    refine G.iconst (pc := 6) (v := (4 : Int32)) dm_X11_first_6 qi_4 ?_
    refine G.aload_n (pc := 7) dm_X11_first_7 rfl ?_
    refine G.getfield (pc := 8) dm_X11_first_8 gf_X11_66 rfl rfl ?_
    refine G.imul (pc := 11) dm_X11_first_11 ?_
    refine G.irem (pc := 12) dm_X11_first_12 (q_w40 hwh) ?_
    refine G.aload_n (pc := 13) dm_X11_first_13 rfl ?_
    refine G.getfield (pc := 14) dm_X11_first_14 gf_X11_66 rfl rfl ?_
    refine G.iload_n (pc := 17) dm_X11_first_17 rfl ?_
    refine G.imul (pc := 18) dm_X11_first_18 ?_
    refine G.icmp_eq (pc := 19) (tgt := 28) dm_X11_first_19 (by decide) (fun c19 => ?_) (fun c19 => ?_)
    · rw [if_pos c19] at hres
      refine G.iload_n (pc := 28) dm_X11_first_28 rfl ?_
      subst hres
      exact G.ireturn (pc := 29) dm_X11_first_29 rfl rfl rfl
    · rw [if_neg c19] at hres
      refine G.iinc (pc := 22) (v := (l2 + (1 : Int32))) (lv1 := [(2, .int (l2 + (1 : Int32))), (0, .ref 0), (1, .int l1)]) dm_X11_first_22 rfl rfl rfl rfl ?_
      refine G.goto (pc := 25) (tgt := 5) dm_X11_first_25 (by decide) ?_
      refine G.lvp [1, 2, 0] rfl ?_
      exact hk5 hwh ht (by have := q_fst2 hwh ht hb.1 hb.2 c19; rw [this.1, this.2.1]; omega) (by have := q_fst2 hwh ht hb.1 hb.2 c19; rw [this.1, this.2.1] ; omega) hres
def f_X11_first (t : Int32) (wheel : Int32) (now : Int32) : Int32 := (f_X11_first_5 wheel (33) t now)
set_option maxRecDepth 20000 in
theorem k_X11_first {t : Int32} {refusal : Int32} {wheel : Int32} {now : Int32} {length : Int32} {at_ : Int32} {fault : Int32} {faultLine : Int32} {line : Int32} {words : Int32} {labels : Int32} {targets : Int32} {wrong : Int32} {unfit : Int32} {text : Nat → Int32} {code_ : Nat → Int32} {label : Nat → Int64} {labelWord : Nat → Int32} {target : Nat → Int64} {targetWord : Nat → Int32} {targetLine : Nat → Int32} {store : Nat → Int32} {common : Nat → Int32} {low : Nat → Int32} {high : Nat → Int32} {register : Nat → Int32} {address : Nat → Int32} {status : Nat → Int32} {did : Nat → Int32} {ready : Nat → Int32} {timer : Nat → Int32} {trace : Nat → Int32} (hwh : 1 ≤ wheel.toInt ∧ wheel.toInt ≤ 8) (ht : 0 ≤ t.toInt ∧ t.toInt < 4) (hnow : 0 ≤ now.toInt ∧ now.toInt ≤ 1100000) {r_0 : Int32} (hres : r_0 = f_X11_first t wheel now) : K M_X11_first yX11_first [.ref 0, .int t] (w_M refusal wheel now length at_ fault faultLine line words labels targets wrong unfit text code_ label labelWord target targetWord targetLine store common low high register address status did ready timer trace) (some (.int r_0)) (w_M refusal wheel now length at_ fault faultLine line words labels targets wrong unfit text code_ label labelWord target targetWord targetLine store common low high register address status did ready timer trace) := by
  refine K.of (lv := [(0, .ref 0), (1, .int t)]) (by decide +kernel) rfl rfl rfl ?_
  rw [f_X11_first] at hres
  refine G.aload_n (pc := 0) dm_X11_first_0 rfl ?_
  refine G.getfield (pc := 1) dm_X11_first_1 gf_X11_291 rfl rfl ?_
  refine G.istore_n (pc := 4) (lv1 := [(2, .int now), (0, .ref 0), (1, .int t)]) dm_X11_first_4 rfl rfl ?_
  refine G.lvp [1, 2, 0] rfl ?_
  exact j_X11_first_5 _ hwh ht (q_fst4 hwh hnow) (q_fst3 hwh) hres
abbrev M_X11_moveWord : g_M := (cX11_moveWord, 13, RX11, (some .int), { frames := 2, cells := 0, slots := 0, locals := 43 }, 0, 0)
theorem dm_X11_moveWord_0 : decode M_X11_moveWord.1 0 = .ok (.iload_n 2, 1) := by decide +kernel
theorem dm_X11_moveWord_1 : decode M_X11_moveWord.1 1 = .ok (.bipush 12, 2) := by decide +kernel
theorem dm_X11_moveWord_3 : decode M_X11_moveWord.1 3 = .ok (.ishr, 1) := by decide +kernel
theorem dm_X11_moveWord_4 : decode M_X11_moveWord.1 4 = .ok (.bipush 7, 2) := by decide +kernel
theorem dm_X11_moveWord_6 : decode M_X11_moveWord.1 6 = .ok (.iand, 1) := by decide +kernel
theorem dm_X11_moveWord_7 : decode M_X11_moveWord.1 7 = .ok (.istore 4, 2) := by decide +kernel
theorem dm_X11_moveWord_9 : decode M_X11_moveWord.1 9 = .ok (.iload_n 2, 1) := by decide +kernel
theorem dm_X11_moveWord_10 : decode M_X11_moveWord.1 10 = .ok (.bipush 15, 2) := by decide +kernel
theorem dm_X11_moveWord_12 : decode M_X11_moveWord.1 12 = .ok (.ishr, 1) := by decide +kernel
theorem dm_X11_moveWord_13 : decode M_X11_moveWord.1 13 = .ok (.bipush 31, 2) := by decide +kernel
theorem dm_X11_moveWord_15 : decode M_X11_moveWord.1 15 = .ok (.iand, 1) := by decide +kernel
theorem dm_X11_moveWord_16 : decode M_X11_moveWord.1 16 = .ok (.istore 5, 2) := by decide +kernel
theorem dm_X11_moveWord_18 : decode M_X11_moveWord.1 18 = .ok (.iload_n 3, 1) := by decide +kernel
theorem dm_X11_moveWord_19 : decode M_X11_moveWord.1 19 = .ok (.ifCond .eq 13, 3) := by decide +kernel
theorem dm_X11_moveWord_22 : decode M_X11_moveWord.1 22 = .ok (.iload_n 2, 1) := by decide +kernel
theorem dm_X11_moveWord_23 : decode M_X11_moveWord.1 23 = .ok (.bipush 20, 2) := by decide +kernel
theorem dm_X11_moveWord_25 : decode M_X11_moveWord.1 25 = .ok (.ishr, 1) := by decide +kernel
theorem dm_X11_moveWord_26 : decode M_X11_moveWord.1 26 = .ok (.bipush 31, 2) := by decide +kernel
theorem dm_X11_moveWord_28 : decode M_X11_moveWord.1 28 = .ok (.iand, 1) := by decide +kernel
theorem dm_X11_moveWord_29 : decode M_X11_moveWord.1 29 = .ok (.goto 10, 3) := by decide +kernel
theorem dm_X11_moveWord_32 : decode M_X11_moveWord.1 32 = .ok (.iload_n 2, 1) := by decide +kernel
theorem dm_X11_moveWord_33 : decode M_X11_moveWord.1 33 = .ok (.bipush 7, 2) := by decide +kernel
theorem dm_X11_moveWord_35 : decode M_X11_moveWord.1 35 = .ok (.ishr, 1) := by decide +kernel
theorem dm_X11_moveWord_36 : decode M_X11_moveWord.1 36 = .ok (.bipush 31, 2) := by decide +kernel
theorem dm_X11_moveWord_38 : decode M_X11_moveWord.1 38 = .ok (.iand, 1) := by decide +kernel
theorem dm_X11_moveWord_39 : decode M_X11_moveWord.1 39 = .ok (.istore 6, 2) := by decide +kernel
theorem dm_X11_moveWord_41 : decode M_X11_moveWord.1 41 = .ok (.iload_n 3, 1) := by decide +kernel
theorem dm_X11_moveWord_42 : decode M_X11_moveWord.1 42 = .ok (.ifCond .eq 22, 3) := by decide +kernel
theorem dm_X11_moveWord_45 : decode M_X11_moveWord.1 45 = .ok (.iload 4, 2) := by decide +kernel
theorem dm_X11_moveWord_47 : decode M_X11_moveWord.1 47 = .ok (.iconst 2, 1) := by decide +kernel
theorem dm_X11_moveWord_48 : decode M_X11_moveWord.1 48 = .ok (.if_icmp .eq 8, 3) := by decide +kernel
theorem dm_X11_moveWord_51 : decode M_X11_moveWord.1 51 = .ok (.iload 4, 2) := by decide +kernel
theorem dm_X11_moveWord_53 : decode M_X11_moveWord.1 53 = .ok (.ifCond .ne 7, 3) := by decide +kernel
theorem dm_X11_moveWord_56 : decode M_X11_moveWord.1 56 = .ok (.iconst 1, 1) := by decide +kernel
theorem dm_X11_moveWord_57 : decode M_X11_moveWord.1 57 = .ok (.goto 29, 3) := by decide +kernel
theorem dm_X11_moveWord_60 : decode M_X11_moveWord.1 60 = .ok (.iconst 0, 1) := by decide +kernel
theorem dm_X11_moveWord_61 : decode M_X11_moveWord.1 61 = .ok (.goto 25, 3) := by decide +kernel
theorem dm_X11_moveWord_64 : decode M_X11_moveWord.1 64 = .ok (.iload 4, 2) := by decide +kernel
theorem dm_X11_moveWord_66 : decode M_X11_moveWord.1 66 = .ok (.iconst 2, 1) := by decide +kernel
theorem dm_X11_moveWord_67 : decode M_X11_moveWord.1 67 = .ok (.if_icmp .eq 14, 3) := by decide +kernel
theorem dm_X11_moveWord_70 : decode M_X11_moveWord.1 70 = .ok (.iload 4, 2) := by decide +kernel
theorem dm_X11_moveWord_72 : decode M_X11_moveWord.1 72 = .ok (.ifCond .eq 9, 3) := by decide +kernel
theorem dm_X11_moveWord_75 : decode M_X11_moveWord.1 75 = .ok (.iload 4, 2) := by decide +kernel
theorem dm_X11_moveWord_77 : decode M_X11_moveWord.1 77 = .ok (.iconst 4, 1) := by decide +kernel
theorem dm_X11_moveWord_78 : decode M_X11_moveWord.1 78 = .ok (.if_icmp .ne 7, 3) := by decide +kernel
theorem dm_X11_moveWord_81 : decode M_X11_moveWord.1 81 = .ok (.iconst 1, 1) := by decide +kernel
theorem dm_X11_moveWord_82 : decode M_X11_moveWord.1 82 = .ok (.goto 4, 3) := by decide +kernel
theorem dm_X11_moveWord_85 : decode M_X11_moveWord.1 85 = .ok (.iconst 0, 1) := by decide +kernel
theorem dm_X11_moveWord_86 : decode M_X11_moveWord.1 86 = .ok (.istore 7, 2) := by decide +kernel
theorem dm_X11_moveWord_88 : decode M_X11_moveWord.1 88 = .ok (.iload 7, 2) := by decide +kernel
theorem dm_X11_moveWord_90 : decode M_X11_moveWord.1 90 = .ok (.ifCond .eq 17, 3) := by decide +kernel
theorem dm_X11_moveWord_93 : decode M_X11_moveWord.1 93 = .ok (.iload 5, 2) := by decide +kernel
theorem dm_X11_moveWord_95 : decode M_X11_moveWord.1 95 = .ok (.bipush 15, 2) := by decide +kernel
theorem dm_X11_moveWord_97 : decode M_X11_moveWord.1 97 = .ok (.if_icmp .gt 10, 3) := by decide +kernel
theorem dm_X11_moveWord_100 : decode M_X11_moveWord.1 100 = .ok (.iload 6, 2) := by decide +kernel
theorem dm_X11_moveWord_102 : decode M_X11_moveWord.1 102 = .ok (.bipush 15, 2) := by decide +kernel
theorem dm_X11_moveWord_104 : decode M_X11_moveWord.1 104 = .ok (.if_icmp .le 9, 3) := by decide +kernel
theorem dm_X11_moveWord_107 : decode M_X11_moveWord.1 107 = .ok (.aload_n 0, 1) := by decide +kernel
theorem dm_X11_moveWord_108 : decode M_X11_moveWord.1 108 = .ok (.iload_n 1, 1) := by decide +kernel
theorem dm_X11_moveWord_109 : decode M_X11_moveWord.1 109 = .ok (.invokevirtual 299, 3) := by decide +kernel
theorem dm_X11_moveWord_112 : decode M_X11_moveWord.1 112 = .ok (.ireturn, 1) := by decide +kernel
theorem dm_X11_moveWord_113 : decode M_X11_moveWord.1 113 = .ok (.iload_n 3, 1) := by decide +kernel
theorem dm_X11_moveWord_114 : decode M_X11_moveWord.1 114 = .ok (.ifCond .eq 20, 3) := by decide +kernel
theorem dm_X11_moveWord_117 : decode M_X11_moveWord.1 117 = .ok (.iload_n 2, 1) := by decide +kernel
theorem dm_X11_moveWord_118 : decode M_X11_moveWord.1 118 = .ok (.bipush 25, 2) := by decide +kernel
theorem dm_X11_moveWord_120 : decode M_X11_moveWord.1 120 = .ok (.ishr, 1) := by decide +kernel
theorem dm_X11_moveWord_121 : decode M_X11_moveWord.1 121 = .ok (.iconst 5, 1) := by decide +kernel
theorem dm_X11_moveWord_122 : decode M_X11_moveWord.1 122 = .ok (.ishl, 1) := by decide +kernel
theorem dm_X11_moveWord_123 : decode M_X11_moveWord.1 123 = .ok (.iload_n 2, 1) := by decide +kernel
theorem dm_X11_moveWord_124 : decode M_X11_moveWord.1 124 = .ok (.bipush 7, 2) := by decide +kernel
theorem dm_X11_moveWord_126 : decode M_X11_moveWord.1 126 = .ok (.ishr, 1) := by decide +kernel
theorem dm_X11_moveWord_127 : decode M_X11_moveWord.1 127 = .ok (.bipush 31, 2) := by decide +kernel
theorem dm_X11_moveWord_129 : decode M_X11_moveWord.1 129 = .ok (.iand, 1) := by decide +kernel
theorem dm_X11_moveWord_130 : decode M_X11_moveWord.1 130 = .ok (.ior, 1) := by decide +kernel
theorem dm_X11_moveWord_131 : decode M_X11_moveWord.1 131 = .ok (.goto 7, 3) := by decide +kernel
theorem dm_X11_moveWord_134 : decode M_X11_moveWord.1 134 = .ok (.iload_n 2, 1) := by decide +kernel
theorem dm_X11_moveWord_135 : decode M_X11_moveWord.1 135 = .ok (.bipush 20, 2) := by decide +kernel
theorem dm_X11_moveWord_137 : decode M_X11_moveWord.1 137 = .ok (.ishr, 1) := by decide +kernel
theorem dm_X11_moveWord_138 : decode M_X11_moveWord.1 138 = .ok (.istore 8, 2) := by decide +kernel
theorem dm_X11_moveWord_140 : decode M_X11_moveWord.1 140 = .ok (.aload_n 0, 1) := by decide +kernel
theorem dm_X11_moveWord_141 : decode M_X11_moveWord.1 141 = .ok (.getfield 45, 3) := by decide +kernel
theorem dm_X11_moveWord_144 : decode M_X11_moveWord.1 144 = .ok (.bipush 16, 2) := by decide +kernel
theorem dm_X11_moveWord_146 : decode M_X11_moveWord.1 146 = .ok (.iload_n 1, 1) := by decide +kernel
theorem dm_X11_moveWord_147 : decode M_X11_moveWord.1 147 = .ok (.imul, 1) := by decide +kernel
theorem dm_X11_moveWord_148 : decode M_X11_moveWord.1 148 = .ok (.iload 5, 2) := by decide +kernel
theorem dm_X11_moveWord_150 : decode M_X11_moveWord.1 150 = .ok (.iadd, 1) := by decide +kernel
theorem dm_X11_moveWord_151 : decode M_X11_moveWord.1 151 = .ok (.iaload, 1) := by decide +kernel
theorem dm_X11_moveWord_152 : decode M_X11_moveWord.1 152 = .ok (.iload 8, 2) := by decide +kernel
theorem dm_X11_moveWord_154 : decode M_X11_moveWord.1 154 = .ok (.iadd, 1) := by decide +kernel
theorem dm_X11_moveWord_155 : decode M_X11_moveWord.1 155 = .ok (.istore 9, 2) := by decide +kernel
theorem dm_X11_moveWord_157 : decode M_X11_moveWord.1 157 = .ok (.aload_n 0, 1) := by decide +kernel
theorem dm_X11_moveWord_158 : decode M_X11_moveWord.1 158 = .ok (.iload_n 1, 1) := by decide +kernel
theorem dm_X11_moveWord_159 : decode M_X11_moveWord.1 159 = .ok (.iload 9, 2) := by decide +kernel
theorem dm_X11_moveWord_161 : decode M_X11_moveWord.1 161 = .ok (.iload 4, 2) := by decide +kernel
theorem dm_X11_moveWord_163 : decode M_X11_moveWord.1 163 = .ok (.iconst 2, 1) := by decide +kernel
theorem dm_X11_moveWord_164 : decode M_X11_moveWord.1 164 = .ok (.if_icmp .ne 7, 3) := by decide +kernel
theorem dm_X11_moveWord_167 : decode M_X11_moveWord.1 167 = .ok (.iconst 4, 1) := by decide +kernel
theorem dm_X11_moveWord_168 : decode M_X11_moveWord.1 168 = .ok (.goto 4, 3) := by decide +kernel
theorem dm_X11_moveWord_171 : decode M_X11_moveWord.1 171 = .ok (.iconst 1, 1) := by decide +kernel
theorem dm_X11_moveWord_172 : decode M_X11_moveWord.1 172 = .ok (.invokevirtual 302, 3) := by decide +kernel
theorem dm_X11_moveWord_175 : decode M_X11_moveWord.1 175 = .ok (.ifCond .ne 9, 3) := by decide +kernel
theorem dm_X11_moveWord_178 : decode M_X11_moveWord.1 178 = .ok (.aload_n 0, 1) := by decide +kernel
theorem dm_X11_moveWord_179 : decode M_X11_moveWord.1 179 = .ok (.iload_n 1, 1) := by decide +kernel
theorem dm_X11_moveWord_180 : decode M_X11_moveWord.1 180 = .ok (.invokevirtual 299, 3) := by decide +kernel
theorem dm_X11_moveWord_183 : decode M_X11_moveWord.1 183 = .ok (.ireturn, 1) := by decide +kernel
theorem dm_X11_moveWord_184 : decode M_X11_moveWord.1 184 = .ok (.bipush 8, 2) := by decide +kernel
theorem dm_X11_moveWord_186 : decode M_X11_moveWord.1 186 = .ok (.iload 9, 2) := by decide +kernel
theorem dm_X11_moveWord_188 : decode M_X11_moveWord.1 188 = .ok (.iconst 3, 1) := by decide +kernel
theorem dm_X11_moveWord_189 : decode M_X11_moveWord.1 189 = .ok (.iand, 1) := by decide +kernel
theorem dm_X11_moveWord_190 : decode M_X11_moveWord.1 190 = .ok (.imul, 1) := by decide +kernel
theorem dm_X11_moveWord_191 : decode M_X11_moveWord.1 191 = .ok (.istore 10, 2) := by decide +kernel
theorem dm_X11_moveWord_193 : decode M_X11_moveWord.1 193 = .ok (.aload_n 0, 1) := by decide +kernel
theorem dm_X11_moveWord_194 : decode M_X11_moveWord.1 194 = .ok (.iload_n 1, 1) := by decide +kernel
theorem dm_X11_moveWord_195 : decode M_X11_moveWord.1 195 = .ok (.iload 9, 2) := by decide +kernel
theorem dm_X11_moveWord_197 : decode M_X11_moveWord.1 197 = .ok (.invokevirtual 306, 3) := by decide +kernel
theorem dm_X11_moveWord_200 : decode M_X11_moveWord.1 200 = .ok (.istore 11, 2) := by decide +kernel
theorem dm_X11_moveWord_202 : decode M_X11_moveWord.1 202 = .ok (.aload_n 0, 1) := by decide +kernel
theorem dm_X11_moveWord_203 : decode M_X11_moveWord.1 203 = .ok (.getfield 45, 3) := by decide +kernel
theorem dm_X11_moveWord_206 : decode M_X11_moveWord.1 206 = .ok (.bipush 16, 2) := by decide +kernel
theorem dm_X11_moveWord_208 : decode M_X11_moveWord.1 208 = .ok (.iload_n 1, 1) := by decide +kernel
theorem dm_X11_moveWord_209 : decode M_X11_moveWord.1 209 = .ok (.imul, 1) := by decide +kernel
theorem dm_X11_moveWord_210 : decode M_X11_moveWord.1 210 = .ok (.iload 6, 2) := by decide +kernel
theorem dm_X11_moveWord_212 : decode M_X11_moveWord.1 212 = .ok (.iadd, 1) := by decide +kernel
theorem dm_X11_moveWord_213 : decode M_X11_moveWord.1 213 = .ok (.iaload, 1) := by decide +kernel
theorem dm_X11_moveWord_214 : decode M_X11_moveWord.1 214 = .ok (.istore 12, 2) := by decide +kernel
theorem dm_X11_moveWord_216 : decode M_X11_moveWord.1 216 = .ok (.iload_n 3, 1) := by decide +kernel
theorem dm_X11_moveWord_217 : decode M_X11_moveWord.1 217 = .ok (.ifCond .eq 45, 3) := by decide +kernel
theorem dm_X11_moveWord_220 : decode M_X11_moveWord.1 220 = .ok (.aload_n 0, 1) := by decide +kernel
theorem dm_X11_moveWord_221 : decode M_X11_moveWord.1 221 = .ok (.iload_n 1, 1) := by decide +kernel
theorem dm_X11_moveWord_222 : decode M_X11_moveWord.1 222 = .ok (.iload 9, 2) := by decide +kernel
theorem dm_X11_moveWord_224 : decode M_X11_moveWord.1 224 = .ok (.iload 4, 2) := by decide +kernel
theorem dm_X11_moveWord_226 : decode M_X11_moveWord.1 226 = .ok (.iconst 2, 1) := by decide +kernel
theorem dm_X11_moveWord_227 : decode M_X11_moveWord.1 227 = .ok (.if_icmp .ne 8, 3) := by decide +kernel
theorem dm_X11_moveWord_230 : decode M_X11_moveWord.1 230 = .ok (.iload 12, 2) := by decide +kernel
theorem dm_X11_moveWord_232 : decode M_X11_moveWord.1 232 = .ok (.goto 24, 3) := by decide +kernel
theorem dm_X11_moveWord_235 : decode M_X11_moveWord.1 235 = .ok (.iload 11, 2) := by decide +kernel
theorem dm_X11_moveWord_237 : decode M_X11_moveWord.1 237 = .ok (.sipush 255, 3) := by decide +kernel
theorem dm_X11_moveWord_240 : decode M_X11_moveWord.1 240 = .ok (.iload 10, 2) := by decide +kernel
theorem dm_X11_moveWord_242 : decode M_X11_moveWord.1 242 = .ok (.ishl, 1) := by decide +kernel
theorem dm_X11_moveWord_243 : decode M_X11_moveWord.1 243 = .ok (.iconst (-1), 1) := by decide +kernel
theorem dm_X11_moveWord_244 : decode M_X11_moveWord.1 244 = .ok (.ixor, 1) := by decide +kernel
theorem dm_X11_moveWord_245 : decode M_X11_moveWord.1 245 = .ok (.iand, 1) := by decide +kernel
theorem dm_X11_moveWord_246 : decode M_X11_moveWord.1 246 = .ok (.iload 12, 2) := by decide +kernel
theorem dm_X11_moveWord_248 : decode M_X11_moveWord.1 248 = .ok (.sipush 255, 3) := by decide +kernel
theorem dm_X11_moveWord_251 : decode M_X11_moveWord.1 251 = .ok (.iand, 1) := by decide +kernel
theorem dm_X11_moveWord_252 : decode M_X11_moveWord.1 252 = .ok (.iload 10, 2) := by decide +kernel
theorem dm_X11_moveWord_254 : decode M_X11_moveWord.1 254 = .ok (.ishl, 1) := by decide +kernel
theorem dm_X11_moveWord_255 : decode M_X11_moveWord.1 255 = .ok (.ior, 1) := by decide +kernel
theorem dm_X11_moveWord_256 : decode M_X11_moveWord.1 256 = .ok (.invokevirtual 309, 3) := by decide +kernel
theorem dm_X11_moveWord_259 : decode M_X11_moveWord.1 259 = .ok (.goto 50, 3) := by decide +kernel
theorem dm_X11_moveWord_262 : decode M_X11_moveWord.1 262 = .ok (.aload_n 0, 1) := by decide +kernel
theorem dm_X11_moveWord_263 : decode M_X11_moveWord.1 263 = .ok (.iload_n 1, 1) := by decide +kernel
theorem dm_X11_moveWord_264 : decode M_X11_moveWord.1 264 = .ok (.iload 6, 2) := by decide +kernel
theorem dm_X11_moveWord_266 : decode M_X11_moveWord.1 266 = .ok (.iload 4, 2) := by decide +kernel
theorem dm_X11_moveWord_268 : decode M_X11_moveWord.1 268 = .ok (.iconst 2, 1) := by decide +kernel
theorem dm_X11_moveWord_269 : decode M_X11_moveWord.1 269 = .ok (.if_icmp .ne 8, 3) := by decide +kernel
theorem dm_X11_moveWord_272 : decode M_X11_moveWord.1 272 = .ok (.iload 11, 2) := by decide +kernel
theorem dm_X11_moveWord_274 : decode M_X11_moveWord.1 274 = .ok (.goto 32, 3) := by decide +kernel
theorem dm_X11_moveWord_277 : decode M_X11_moveWord.1 277 = .ok (.iload 4, 2) := by decide +kernel
theorem dm_X11_moveWord_279 : decode M_X11_moveWord.1 279 = .ok (.iconst 4, 1) := by decide +kernel
theorem dm_X11_moveWord_280 : decode M_X11_moveWord.1 280 = .ok (.if_icmp .ne 15, 3) := by decide +kernel
theorem dm_X11_moveWord_283 : decode M_X11_moveWord.1 283 = .ok (.iload 11, 2) := by decide +kernel
theorem dm_X11_moveWord_285 : decode M_X11_moveWord.1 285 = .ok (.iload 10, 2) := by decide +kernel
theorem dm_X11_moveWord_287 : decode M_X11_moveWord.1 287 = .ok (.ishr, 1) := by decide +kernel
theorem dm_X11_moveWord_288 : decode M_X11_moveWord.1 288 = .ok (.sipush 255, 3) := by decide +kernel
theorem dm_X11_moveWord_291 : decode M_X11_moveWord.1 291 = .ok (.iand, 1) := by decide +kernel
theorem dm_X11_moveWord_292 : decode M_X11_moveWord.1 292 = .ok (.goto 14, 3) := by decide +kernel
theorem dm_X11_moveWord_295 : decode M_X11_moveWord.1 295 = .ok (.iload 11, 2) := by decide +kernel
theorem dm_X11_moveWord_297 : decode M_X11_moveWord.1 297 = .ok (.bipush 24, 2) := by decide +kernel
theorem dm_X11_moveWord_299 : decode M_X11_moveWord.1 299 = .ok (.iload 10, 2) := by decide +kernel
theorem dm_X11_moveWord_301 : decode M_X11_moveWord.1 301 = .ok (.isub, 1) := by decide +kernel
theorem dm_X11_moveWord_302 : decode M_X11_moveWord.1 302 = .ok (.ishl, 1) := by decide +kernel
theorem dm_X11_moveWord_303 : decode M_X11_moveWord.1 303 = .ok (.bipush 24, 2) := by decide +kernel
theorem dm_X11_moveWord_305 : decode M_X11_moveWord.1 305 = .ok (.ishr, 1) := by decide +kernel
theorem dm_X11_moveWord_306 : decode M_X11_moveWord.1 306 = .ok (.invokevirtual 313, 3) := by decide +kernel
theorem dm_X11_moveWord_309 : decode M_X11_moveWord.1 309 = .ok (.aload_n 0, 1) := by decide +kernel
theorem dm_X11_moveWord_310 : decode M_X11_moveWord.1 310 = .ok (.iload_n 1, 1) := by decide +kernel
theorem dm_X11_moveWord_311 : decode M_X11_moveWord.1 311 = .ok (.aload_n 0, 1) := by decide +kernel
theorem dm_X11_moveWord_312 : decode M_X11_moveWord.1 312 = .ok (.getfield 48, 3) := by decide +kernel
theorem dm_X11_moveWord_315 : decode M_X11_moveWord.1 315 = .ok (.iload_n 1, 1) := by decide +kernel
theorem dm_X11_moveWord_316 : decode M_X11_moveWord.1 316 = .ok (.iaload, 1) := by decide +kernel
theorem dm_X11_moveWord_317 : decode M_X11_moveWord.1 317 = .ok (.iconst 4, 1) := by decide +kernel
theorem dm_X11_moveWord_318 : decode M_X11_moveWord.1 318 = .ok (.iadd, 1) := by decide +kernel
theorem dm_X11_moveWord_319 : decode M_X11_moveWord.1 319 = .ok (.iload 9, 2) := by decide +kernel
theorem dm_X11_moveWord_321 : decode M_X11_moveWord.1 321 = .ok (.invokestatic 288, 3) := by decide +kernel
theorem dm_X11_moveWord_324 : decode M_X11_moveWord.1 324 = .ok (.ifCond .eq 12, 3) := by decide +kernel
theorem dm_X11_moveWord_327 : decode M_X11_moveWord.1 327 = .ok (.aload_n 0, 1) := by decide +kernel
theorem dm_X11_moveWord_328 : decode M_X11_moveWord.1 328 = .ok (.getfield 291, 3) := by decide +kernel
theorem dm_X11_moveWord_331 : decode M_X11_moveWord.1 331 = .ok (.iconst 4, 1) := by decide +kernel
theorem dm_X11_moveWord_332 : decode M_X11_moveWord.1 332 = .ok (.iadd, 1) := by decide +kernel
theorem dm_X11_moveWord_333 : decode M_X11_moveWord.1 333 = .ok (.goto 13, 3) := by decide +kernel
theorem dm_X11_moveWord_336 : decode M_X11_moveWord.1 336 = .ok (.aload_n 0, 1) := by decide +kernel
theorem dm_X11_moveWord_337 : decode M_X11_moveWord.1 337 = .ok (.iload_n 1, 1) := by decide +kernel
theorem dm_X11_moveWord_338 : decode M_X11_moveWord.1 338 = .ok (.invokevirtual 316, 3) := by decide +kernel
theorem dm_X11_moveWord_341 : decode M_X11_moveWord.1 341 = .ok (.aload_n 0, 1) := by decide +kernel
theorem dm_X11_moveWord_342 : decode M_X11_moveWord.1 342 = .ok (.getfield 66, 3) := by decide +kernel
theorem dm_X11_moveWord_345 : decode M_X11_moveWord.1 345 = .ok (.iadd, 1) := by decide +kernel
theorem dm_X11_moveWord_346 : decode M_X11_moveWord.1 346 = .ok (.invokevirtual 319, 3) := by decide +kernel
theorem dm_X11_moveWord_349 : decode M_X11_moveWord.1 349 = .ok (.ireturn, 1) := by decide +kernel
theorem gc_X11_moveWord_299 : g_cv M_X11_moveWord 299 M_X11_stop yX11_stop 1 := ⟨tw772, tw773, tw774, tw5, tw775, ⟨rfl, rfl, rfl, rfl⟩, gd_X11_stop, ⟨by decide, by decide⟩⟩
theorem gc_X11_moveWord_302 : g_cv M_X11_moveWord 302 M_X11_isThere yX11_isThere 3 := ⟨tw803, tw804, tw805, tw5, tw806, ⟨rfl, rfl, rfl, rfl⟩, gd_X11_isThere, ⟨by decide, by decide⟩⟩
theorem gc_X11_moveWord_306 : g_cv M_X11_moveWord 306 M_X11_wordAt yX11_wordAt 2 := ⟨tw807, tw808, tw809, tw5, tw810, ⟨rfl, rfl, rfl, rfl⟩, gd_X11_wordAt, ⟨by decide, by decide⟩⟩
theorem gc_X11_moveWord_309 : g_cv M_X11_moveWord 309 M_X11_put yX11_put 3 := ⟨tw811, tw812, tw813, tw5, tw814, ⟨rfl, rfl, rfl, rfl⟩, gd_X11_put, ⟨by decide, by decide⟩⟩
theorem gc_X11_moveWord_313 : g_cv M_X11_moveWord 313 M_X11_set yX11_set 3 := ⟨tw776, tw777, tw778, tw5, tw779, ⟨rfl, rfl, rfl, rfl⟩, gd_X11_set, ⟨by decide, by decide⟩⟩
theorem gc_X11_moveWord_288 : g_cs M_X11_moveWord 288 M_X11_isOwn yX11_isOwn 1 := ⟨tw769, tw770, tw5, tw771, ⟨rfl, rfl, rfl, rfl⟩, gd_X11_isOwn, ⟨by decide, by decide⟩⟩
theorem gc_X11_moveWord_316 : g_cv M_X11_moveWord 316 M_X11_first yX11_first 1 := ⟨tw815, tw816, tw817, tw5, tw818, ⟨rfl, rfl, rfl, rfl⟩, gd_X11_first, ⟨by decide, by decide⟩⟩
theorem gc_X11_moveWord_319 : g_cv M_X11_moveWord 319 M_X11_done yX11_done 3 := ⟨tw780, tw781, tw782, tw5, tw783, ⟨rfl, rfl, rfl, rfl⟩, gd_X11_done, ⟨by decide, by decide⟩⟩
def f_X11_moveWord_c109 (store : Nat → Int32) (common : Nat → Int32) (register : Nat → Int32) (address : Nat → Int32) (did : Nat → Int32) (ready : Nat → Int32) (trace : Nat → Int32) (z1_0 : Int32) (z1_1 : (Nat → Int32)) : Int32 × (Nat → Int32) × (Nat → Int32) × (Nat → Int32) × (Nat → Int32) × (Nat → Int32) × (Nat → Int32) × (Nat → Int32) × (Nat → Int32) := (z1_0, store, common, register, address, z1_1, did, ready, trace)
def f_X11_moveWord_107 (store : Nat → Int32) (common : Nat → Int32) (register : Nat → Int32) (address : Nat → Int32) (status : Nat → Int32) (did : Nat → Int32) (ready : Nat → Int32) (trace : Nat → Int32) (l1 : Int32) : Int32 × (Nat → Int32) × (Nat → Int32) × (Nat → Int32) × (Nat → Int32) × (Nat → Int32) × (Nat → Int32) × (Nat → Int32) × (Nat → Int32) := (f_X11_moveWord_c109 store common register address did ready trace (f_X11_stop l1 status).1 (f_X11_stop l1 status).2)
set_option maxRecDepth 20000 in
theorem j_X11_moveWord_107 {l1 : Int32} {refusal : Int32} {wheel : Int32} {now : Int32} {length : Int32} {at_ : Int32} {fault : Int32} {faultLine : Int32} {line : Int32} {words : Int32} {labels : Int32} {targets : Int32} {wrong : Int32} {unfit : Int32} {text : Nat → Int32} {code_ : Nat → Int32} {label : Nat → Int64} {labelWord : Nat → Int32} {target : Nat → Int64} {targetWord : Nat → Int32} {targetLine : Nat → Int32} {store : Nat → Int32} {common : Nat → Int32} {low : Nat → Int32} {high : Nat → Int32} {register : Nat → Int32} {address : Nat → Int32} {status : Nat → Int32} {did : Nat → Int32} {ready : Nat → Int32} {timer : Nat → Int32} {trace : Nat → Int32} {r_0 : Int32} {r_1 : (Nat → Int32)} {r_2 : (Nat → Int32)} {r_3 : (Nat → Int32)} {r_4 : (Nat → Int32)} {r_5 : (Nat → Int32)} {r_6 : (Nat → Int32)} {r_7 : (Nat → Int32)} {r_8 : (Nat → Int32)} (hres : (r_0, r_1, r_2, r_3, r_4, r_5, r_6, r_7, r_8) = (f_X11_moveWord_107 store common register address status did ready trace l1)) (ht : 0 ≤ l1.toInt ∧ l1.toInt < 4) : G M_X11_moveWord 0 0 107 [(0, .ref 0), (1, .int l1)] [] (w_M refusal wheel now length at_ fault faultLine line words labels targets wrong unfit text code_ label labelWord target targetWord targetLine store common low high register address status did ready timer trace) (some (.int r_0)) (w_M refusal wheel now length at_ fault faultLine line words labels targets wrong unfit text code_ label labelWord target targetWord targetLine r_1 r_2 low high r_3 r_4 r_5 r_6 r_7 timer r_8) := by
  rw [f_X11_moveWord_107] at hres
  refine G.aload_n (pc := 107) dm_X11_moveWord_107 rfl ?_
  refine G.iload_n (pc := 108) dm_X11_moveWord_108 rfl ?_
  obtain ⟨z1_0, z1_1, hz1⟩ : ∃ (z1_0 : Int32) (z1_1 : (Nat → Int32)), (z1_0, z1_1) = f_X11_stop l1 status := ⟨_, _, rfl⟩
  refine G.callV0 (pc := 109) (rest := []) (st1 := [.int z1_0]) dm_X11_moveWord_109 gc_X11_moveWord_299 (k_X11_stop (t := l1) (refusal := refusal) (wheel := wheel) (now := now) (length := length) (at_ := at_) (fault := fault) (faultLine := faultLine) (line := line) (words := words) (labels := labels) (targets := targets) (wrong := wrong) (unfit := unfit) (text := text) (code_ := code_) (label := label) (labelWord := labelWord) (target := target) (targetWord := targetWord) (targetLine := targetLine) (store := store) (common := common) (low := low) (high := high) (register := register) (address := address) (status := status) (did := did) (ready := ready) (timer := timer) (trace := trace) (by first | assumption | exact q_31 _ | rfl) hz1) rfl rfl rfl rfl rfl rfl rfl rfl ?_
  replace hres : (r_0, r_1, r_2, r_3, r_4, r_5, r_6, r_7, r_8) = f_X11_moveWord_c109 store common register address did ready trace z1_0 z1_1 := hres.trans (by rw [← hz1])
  rw [f_X11_moveWord_c109] at hres
  cases hres
  exact G.ireturn (pc := 112) dm_X11_moveWord_112 rfl rfl rfl
def f_X11_moveWord_c346 (store : Nat → Int32) (common : Nat → Int32) (register : Nat → Int32) (status : Nat → Int32) (z7_0 : Int32) (z7_1 : (Nat → Int32)) (z7_2 : (Nat → Int32)) (z7_3 : (Nat → Int32)) (z7_4 : (Nat → Int32)) : Int32 × (Nat → Int32) × (Nat → Int32) × (Nat → Int32) × (Nat → Int32) × (Nat → Int32) × (Nat → Int32) × (Nat → Int32) × (Nat → Int32) := (z7_0, store, common, register, z7_1, status, z7_2, z7_3, z7_4)
def f_X11_moveWord_346 (now : Int32) (store : Nat → Int32) (common : Nat → Int32) (register : Nat → Int32) (address : Nat → Int32) (status : Nat → Int32) (did : Nat → Int32) (ready : Nat → Int32) (trace : Nat → Int32) (s1 : Int32) (s2 : Int32) (s3 : Int32) : Int32 × (Nat → Int32) × (Nat → Int32) × (Nat → Int32) × (Nat → Int32) × (Nat → Int32) × (Nat → Int32) × (Nat → Int32) × (Nat → Int32) := (f_X11_moveWord_c346 store common register status (f_X11_done s1 s2 s3 now address did ready trace).1 (f_X11_done s1 s2 s3 now address did ready trace).2.1 (f_X11_done s1 s2 s3 now address did ready trace).2.2.1 (f_X11_done s1 s2 s3 now address did ready trace).2.2.2.1 (f_X11_done s1 s2 s3 now address did ready trace).2.2.2.2)
set_option maxRecDepth 20000 in
theorem j_X11_moveWord_346 {s1 : Int32} {s2 : Int32} {s3 : Int32} {refusal : Int32} {wheel : Int32} {now : Int32} {length : Int32} {at_ : Int32} {fault : Int32} {faultLine : Int32} {line : Int32} {words : Int32} {labels : Int32} {targets : Int32} {wrong : Int32} {unfit : Int32} {text : Nat → Int32} {code_ : Nat → Int32} {label : Nat → Int64} {labelWord : Nat → Int32} {target : Nat → Int64} {targetWord : Nat → Int32} {targetLine : Nat → Int32} {store : Nat → Int32} {common : Nat → Int32} {low : Nat → Int32} {high : Nat → Int32} {register : Nat → Int32} {address : Nat → Int32} {status : Nat → Int32} {did : Nat → Int32} {ready : Nat → Int32} {timer : Nat → Int32} {trace : Nat → Int32} {r_0 : Int32} {r_1 : (Nat → Int32)} {r_2 : (Nat → Int32)} {r_3 : (Nat → Int32)} {r_4 : (Nat → Int32)} {r_5 : (Nat → Int32)} {r_6 : (Nat → Int32)} {r_7 : (Nat → Int32)} {r_8 : (Nat → Int32)} (hres : (r_0, r_1, r_2, r_3, r_4, r_5, r_6, r_7, r_8) = (f_X11_moveWord_346 now store common register address status did ready trace s1 s2 s3)) (hts : 0 ≤ s1.toInt ∧ s1.toInt < 4) (hdid : ∀ j, j < 4 → 0 ≤ (did j).toInt) : G M_X11_moveWord 0 0 346 [] [.int s3, .int s2, .int s1, .ref 0] (w_M refusal wheel now length at_ fault faultLine line words labels targets wrong unfit text code_ label labelWord target targetWord targetLine store common low high register address status did ready timer trace) (some (.int r_0)) (w_M refusal wheel now length at_ fault faultLine line words labels targets wrong unfit text code_ label labelWord target targetWord targetLine r_1 r_2 low high r_3 r_4 r_5 r_6 r_7 timer r_8) := by
  rw [f_X11_moveWord_346] at hres
  obtain ⟨z7_0, z7_1, z7_2, z7_3, z7_4, hz7⟩ : ∃ (z7_0 : Int32) (z7_1 : (Nat → Int32)) (z7_2 : (Nat → Int32)) (z7_3 : (Nat → Int32)) (z7_4 : (Nat → Int32)), (z7_0, z7_1, z7_2, z7_3, z7_4) = f_X11_done s1 s2 s3 now address did ready trace := ⟨_, _, _, _, _, rfl⟩
  refine G.callV0 (pc := 346) (rest := []) (st1 := [.int z7_0]) dm_X11_moveWord_346 gc_X11_moveWord_319 (k_X11_done (t := s1) (a := s2) (when := s3) (refusal := refusal) (wheel := wheel) (now := now) (length := length) (at_ := at_) (fault := fault) (faultLine := faultLine) (line := line) (words := words) (labels := labels) (targets := targets) (wrong := wrong) (unfit := unfit) (text := text) (code_ := code_) (label := label) (labelWord := labelWord) (target := target) (targetWord := targetWord) (targetLine := targetLine) (store := store) (common := common) (low := low) (high := high) (register := register) (address := address) (status := status) (did := did) (ready := ready) (timer := timer) (trace := trace) hts hdid hz7) rfl rfl rfl rfl rfl rfl rfl rfl ?_
  replace hres : (r_0, r_1, r_2, r_3, r_4, r_5, r_6, r_7, r_8) = f_X11_moveWord_c346 store common register status z7_0 z7_1 z7_2 z7_3 z7_4 := hres.trans (by rw [← hz7])
  rw [f_X11_moveWord_c346] at hres
  cases hres
  exact G.ireturn (pc := 349) dm_X11_moveWord_349 rfl rfl rfl
def f_X11_moveWord_c338 (wheel : Int32) (now : Int32) (store : Nat → Int32) (common : Nat → Int32) (register : Nat → Int32) (address : Nat → Int32) (status : Nat → Int32) (did : Nat → Int32) (ready : Nat → Int32) (trace : Nat → Int32) (l1 : Int32) (z6_0 : Int32) : Int32 × (Nat → Int32) × (Nat → Int32) × (Nat → Int32) × (Nat → Int32) × (Nat → Int32) × (Nat → Int32) × (Nat → Int32) × (Nat → Int32) := (f_X11_moveWord_346 now store common register address status did ready trace l1 ((address (Int32.toNatClampNeg l1)) + (4 : Int32)) (z6_0 + wheel))
def f_X11_moveWord_c321 (wheel : Int32) (now : Int32) (store : Nat → Int32) (common : Nat → Int32) (register : Nat → Int32) (address : Nat → Int32) (status : Nat → Int32) (did : Nat → Int32) (ready : Nat → Int32) (trace : Nat → Int32) (l1 : Int32) (z5_0 : Int32) : Int32 × (Nat → Int32) × (Nat → Int32) × (Nat → Int32) × (Nat → Int32) × (Nat → Int32) × (Nat → Int32) × (Nat → Int32) × (Nat → Int32) := (if z5_0 = 0 then (f_X11_moveWord_c338 wheel now store common register address status did ready trace l1 (f_X11_first l1 wheel now)) else (f_X11_moveWord_346 now store common register address status did ready trace l1 ((address (Int32.toNatClampNeg l1)) + (4 : Int32)) (now + (4 : Int32))))
def f_X11_moveWord_309 (wheel : Int32) (now : Int32) (store : Nat → Int32) (common : Nat → Int32) (register : Nat → Int32) (address : Nat → Int32) (status : Nat → Int32) (did : Nat → Int32) (ready : Nat → Int32) (trace : Nat → Int32) (l1 : Int32) (l9 : Int32) : Int32 × (Nat → Int32) × (Nat → Int32) × (Nat → Int32) × (Nat → Int32) × (Nat → Int32) × (Nat → Int32) × (Nat → Int32) × (Nat → Int32) := (f_X11_moveWord_c321 wheel now store common register address status did ready trace l1 (f_X11_isOwn l9))
set_option maxRecDepth 20000 in
theorem j_X11_moveWord_309 {l1 : Int32} {l9 : Int32} {refusal : Int32} {wheel : Int32} {now : Int32} {length : Int32} {at_ : Int32} {fault : Int32} {faultLine : Int32} {line : Int32} {words : Int32} {labels : Int32} {targets : Int32} {wrong : Int32} {unfit : Int32} {text : Nat → Int32} {code_ : Nat → Int32} {label : Nat → Int64} {labelWord : Nat → Int32} {target : Nat → Int64} {targetWord : Nat → Int32} {targetLine : Nat → Int32} {store : Nat → Int32} {common : Nat → Int32} {low : Nat → Int32} {high : Nat → Int32} {register : Nat → Int32} {address : Nat → Int32} {status : Nat → Int32} {did : Nat → Int32} {ready : Nat → Int32} {timer : Nat → Int32} {trace : Nat → Int32} {r_0 : Int32} {r_1 : (Nat → Int32)} {r_2 : (Nat → Int32)} {r_3 : (Nat → Int32)} {r_4 : (Nat → Int32)} {r_5 : (Nat → Int32)} {r_6 : (Nat → Int32)} {r_7 : (Nat → Int32)} {r_8 : (Nat → Int32)} (hres : (r_0, r_1, r_2, r_3, r_4, r_5, r_6, r_7, r_8) = (f_X11_moveWord_309 wheel now store common register address status did ready trace l1 l9)) (ht : 0 ≤ l1.toInt ∧ l1.toInt < 4) (hdid : ∀ j, j < 4 → 0 ≤ (did j).toInt) (hlh : ∀ j, j < 4 → 0 ≤ (low j).toInt ∧ (low j).toInt ≤ (high j).toInt ∧ (high j).toInt ≤ 64) (hwh : 1 ≤ wheel.toInt ∧ wheel.toInt ≤ 8) (hnow : 0 ≤ now.toInt ∧ now.toInt ≤ 1100000) : G M_X11_moveWord 0 0 309 [(0, .ref 0), (1, .int l1), (9, .int l9)] [] (w_M refusal wheel now length at_ fault faultLine line words labels targets wrong unfit text code_ label labelWord target targetWord targetLine store common low high register address status did ready timer trace) (some (.int r_0)) (w_M refusal wheel now length at_ fault faultLine line words labels targets wrong unfit text code_ label labelWord target targetWord targetLine r_1 r_2 low high r_3 r_4 r_5 r_6 r_7 timer r_8) := by
  rw [f_X11_moveWord_309] at hres
  refine G.aload_n (pc := 309) dm_X11_moveWord_309 rfl ?_
  refine G.iload_n (pc := 310) dm_X11_moveWord_310 rfl ?_
  refine G.aload_n (pc := 311) dm_X11_moveWord_311 rfl ?_
  refine G.getfield (pc := 312) dm_X11_moveWord_312 gf_X11_48 rfl rfl ?_
  refine G.iload_n (pc := 315) dm_X11_moveWord_315 rfl ?_
  refine G.iaload (pc := 316) dm_X11_moveWord_316 rfl (q_t ht) ?_
  refine G.iconst (pc := 317) (v := (4 : Int32)) dm_X11_moveWord_317 qi_4 ?_
  refine G.iadd (pc := 318) dm_X11_moveWord_318 ?_
  refine G.iload (pc := 319) dm_X11_moveWord_319 rfl ?_
  obtain ⟨z5_0, hz5⟩ : ∃ (z5_0 : Int32), z5_0 = f_X11_isOwn l9 := ⟨_, rfl⟩
  refine G.callS (pc := 321) (rest := [.int ((address (Int32.toNatClampNeg l1)) + (4 : Int32)), .int l1, .ref 0]) (st1 := [.int z5_0, .int ((address (Int32.toNatClampNeg l1)) + (4 : Int32)), .int l1, .ref 0]) (ws1 := (w_M refusal wheel now length at_ fault faultLine line words labels targets wrong unfit text code_ label labelWord target targetWord targetLine store common low high register address status did ready timer trace)) [] dm_X11_moveWord_321 gc_X11_moveWord_288 (k_X11_isOwn (a := l9) hz5) rfl rfl rfl rfl rfl rfl rfl rfl ?_
  replace hres : (r_0, r_1, r_2, r_3, r_4, r_5, r_6, r_7, r_8) = f_X11_moveWord_c321 wheel now store common register address status did ready trace l1 z5_0 := hres.trans (by rw [← hz5])
  rw [f_X11_moveWord_c321] at hres
  refine G.if_eq (pc := 324) (tgt := 336) dm_X11_moveWord_324 (by decide) (fun c324 => ?_) (fun c324 => ?_)
  · rw [if_pos c324] at hres
    refine G.aload_n (pc := 336) dm_X11_moveWord_336 rfl ?_
    refine G.iload_n (pc := 337) dm_X11_moveWord_337 rfl ?_
    obtain ⟨z6_0, hz6⟩ : ∃ (z6_0 : Int32), z6_0 = f_X11_first l1 wheel now := ⟨_, rfl⟩
    refine G.callV0 (pc := 338) (rest := [.int ((address (Int32.toNatClampNeg l1)) + (4 : Int32)), .int l1, .ref 0]) (st1 := [.int z6_0, .int ((address (Int32.toNatClampNeg l1)) + (4 : Int32)), .int l1, .ref 0]) dm_X11_moveWord_338 gc_X11_moveWord_316 (k_X11_first (t := l1) (refusal := refusal) (wheel := wheel) (now := now) (length := length) (at_ := at_) (fault := fault) (faultLine := faultLine) (line := line) (words := words) (labels := labels) (targets := targets) (wrong := wrong) (unfit := unfit) (text := text) (code_ := code_) (label := label) (labelWord := labelWord) (target := target) (targetWord := targetWord) (targetLine := targetLine) (store := store) (common := common) (low := low) (high := high) (register := register) (address := address) (status := status) (did := did) (ready := ready) (timer := timer) (trace := trace) (by first | assumption | exact q_31 _ | rfl) (by first | assumption | exact q_31 _ | rfl) (by first | assumption | exact q_31 _ | rfl) hz6) rfl rfl rfl rfl rfl rfl rfl rfl ?_
    replace hres : (r_0, r_1, r_2, r_3, r_4, r_5, r_6, r_7, r_8) = f_X11_moveWord_c338 wheel now store common register address status did ready trace l1 z6_0 := hres.trans (by rw [← hz6])
    rw [f_X11_moveWord_c338] at hres
    refine G.aload_n (pc := 341) dm_X11_moveWord_341 rfl ?_
    refine G.getfield (pc := 342) dm_X11_moveWord_342 gf_X11_66 rfl rfl ?_
    refine G.iadd (pc := 345) dm_X11_moveWord_345 ?_
    refine G.lvp [] rfl ?_
    exact j_X11_moveWord_346 hres (by first | assumption | exact q_31 _ | rfl) (by first | assumption | exact q_31 _ | rfl)
  · rw [if_neg c324] at hres
    refine G.aload_n (pc := 327) dm_X11_moveWord_327 rfl ?_
    refine G.getfield (pc := 328) dm_X11_moveWord_328 gf_X11_291 rfl rfl ?_
    refine G.iconst (pc := 331) (v := (4 : Int32)) dm_X11_moveWord_331 qi_4 ?_
    refine G.iadd (pc := 332) dm_X11_moveWord_332 ?_
    refine G.goto (pc := 333) (tgt := 346) dm_X11_moveWord_333 (by decide) ?_
    refine G.lvp [] rfl ?_
    exact j_X11_moveWord_346 hres (by first | assumption | exact q_31 _ | rfl) (by first | assumption | exact q_31 _ | rfl)
def f_X11_moveWord_c306 (wheel : Int32) (now : Int32) (store : Nat → Int32) (common : Nat → Int32) (address : Nat → Int32) (status : Nat → Int32) (did : Nat → Int32) (ready : Nat → Int32) (trace : Nat → Int32) (l1 : Int32) (l9 : Int32) (z4_0 : (Nat → Int32)) : Int32 × (Nat → Int32) × (Nat → Int32) × (Nat → Int32) × (Nat → Int32) × (Nat → Int32) × (Nat → Int32) × (Nat → Int32) × (Nat → Int32) := (f_X11_moveWord_309 wheel now store common z4_0 address status did ready trace l1 l9)
def f_X11_moveWord_306 (wheel : Int32) (now : Int32) (store : Nat → Int32) (common : Nat → Int32) (register : Nat → Int32) (address : Nat → Int32) (status : Nat → Int32) (did : Nat → Int32) (ready : Nat → Int32) (trace : Nat → Int32) (l1 : Int32) (l9 : Int32) (s1 : Int32) (s2 : Int32) (s3 : Int32) : Int32 × (Nat → Int32) × (Nat → Int32) × (Nat → Int32) × (Nat → Int32) × (Nat → Int32) × (Nat → Int32) × (Nat → Int32) × (Nat → Int32) := (f_X11_moveWord_c306 wheel now store common address status did ready trace l1 l9 (f_X11_set s1 s2 s3 register))
set_option maxRecDepth 20000 in
theorem j_X11_moveWord_306 {l1 : Int32} {l9 : Int32} {s1 : Int32} {s2 : Int32} {s3 : Int32} {refusal : Int32} {wheel : Int32} {now : Int32} {length : Int32} {at_ : Int32} {fault : Int32} {faultLine : Int32} {line : Int32} {words : Int32} {labels : Int32} {targets : Int32} {wrong : Int32} {unfit : Int32} {text : Nat → Int32} {code_ : Nat → Int32} {label : Nat → Int64} {labelWord : Nat → Int32} {target : Nat → Int64} {targetWord : Nat → Int32} {targetLine : Nat → Int32} {store : Nat → Int32} {common : Nat → Int32} {low : Nat → Int32} {high : Nat → Int32} {register : Nat → Int32} {address : Nat → Int32} {status : Nat → Int32} {did : Nat → Int32} {ready : Nat → Int32} {timer : Nat → Int32} {trace : Nat → Int32} {r_0 : Int32} {r_1 : (Nat → Int32)} {r_2 : (Nat → Int32)} {r_3 : (Nat → Int32)} {r_4 : (Nat → Int32)} {r_5 : (Nat → Int32)} {r_6 : (Nat → Int32)} {r_7 : (Nat → Int32)} {r_8 : (Nat → Int32)} (hres : (r_0, r_1, r_2, r_3, r_4, r_5, r_6, r_7, r_8) = (f_X11_moveWord_306 wheel now store common register address status did ready trace l1 l9 s1 s2 s3)) (ht : 0 ≤ l1.toInt ∧ l1.toInt < 4) (hdid : ∀ j, j < 4 → 0 ≤ (did j).toInt) (hlh : ∀ j, j < 4 → 0 ≤ (low j).toInt ∧ (low j).toInt ≤ (high j).toInt ∧ (high j).toInt ≤ 64) (hwh : 1 ≤ wheel.toInt ∧ wheel.toInt ≤ 8) (hnow : 0 ≤ now.toInt ∧ now.toInt ≤ 1100000) (hts : 0 ≤ s1.toInt ∧ s1.toInt < 4) (hr : 0 ≤ s2.toInt ∧ s2.toInt < 16) : G M_X11_moveWord 0 0 306 [(0, .ref 0), (1, .int l1), (9, .int l9)] [.int s3, .int s2, .int s1, .ref 0] (w_M refusal wheel now length at_ fault faultLine line words labels targets wrong unfit text code_ label labelWord target targetWord targetLine store common low high register address status did ready timer trace) (some (.int r_0)) (w_M refusal wheel now length at_ fault faultLine line words labels targets wrong unfit text code_ label labelWord target targetWord targetLine r_1 r_2 low high r_3 r_4 r_5 r_6 r_7 timer r_8) := by
  rw [f_X11_moveWord_306] at hres
  obtain ⟨z4_0, hz4⟩ : ∃ (z4_0 : (Nat → Int32)), z4_0 = f_X11_set s1 s2 s3 register := ⟨_, rfl⟩
  refine G.callV0 (pc := 306) (rest := []) (st1 := []) dm_X11_moveWord_306 gc_X11_moveWord_313 (k_X11_set (t := s1) (r := s2) (v := s3) (refusal := refusal) (wheel := wheel) (now := now) (length := length) (at_ := at_) (fault := fault) (faultLine := faultLine) (line := line) (words := words) (labels := labels) (targets := targets) (wrong := wrong) (unfit := unfit) (text := text) (code_ := code_) (label := label) (labelWord := labelWord) (target := target) (targetWord := targetWord) (targetLine := targetLine) (store := store) (common := common) (low := low) (high := high) (register := register) (address := address) (status := status) (did := did) (ready := ready) (timer := timer) (trace := trace) hts hr hz4) rfl rfl rfl rfl rfl rfl rfl rfl ?_
  replace hres : (r_0, r_1, r_2, r_3, r_4, r_5, r_6, r_7, r_8) = f_X11_moveWord_c306 wheel now store common address status did ready trace l1 l9 z4_0 := hres.trans (by rw [← hz4])
  rw [f_X11_moveWord_c306] at hres
  exact j_X11_moveWord_309 hres (by first | assumption | exact q_31 _ | rfl) (by first | assumption | exact q_31 _ | rfl) (by first | assumption | exact q_31 _ | rfl) (by first | assumption | exact q_31 _ | rfl) (by first | assumption | exact q_31 _ | rfl)
def f_X11_moveWord_c256 (wheel : Int32) (now : Int32) (register : Nat → Int32) (address : Nat → Int32) (status : Nat → Int32) (did : Nat → Int32) (ready : Nat → Int32) (trace : Nat → Int32) (l1 : Int32) (l9 : Int32) (z8_0 : (Nat → Int32)) (z8_1 : (Nat → Int32)) : Int32 × (Nat → Int32) × (Nat → Int32) × (Nat → Int32) × (Nat → Int32) × (Nat → Int32) × (Nat → Int32) × (Nat → Int32) × (Nat → Int32) := (f_X11_moveWord_309 wheel now z8_0 z8_1 register address status did ready trace l1 l9)
def f_X11_moveWord_256 (wheel : Int32) (now : Int32) (store : Nat → Int32) (common : Nat → Int32) (register : Nat → Int32) (address : Nat → Int32) (status : Nat → Int32) (did : Nat → Int32) (ready : Nat → Int32) (trace : Nat → Int32) (l1 : Int32) (l9 : Int32) (s1 : Int32) (s2 : Int32) (s3 : Int32) : Int32 × (Nat → Int32) × (Nat → Int32) × (Nat → Int32) × (Nat → Int32) × (Nat → Int32) × (Nat → Int32) × (Nat → Int32) × (Nat → Int32) := (f_X11_moveWord_c256 wheel now register address status did ready trace l1 l9 (f_X11_put s1 s2 s3 store common).1 (f_X11_put s1 s2 s3 store common).2)
set_option maxRecDepth 20000 in
theorem j_X11_moveWord_256 {l1 : Int32} {l9 : Int32} {s1 : Int32} {s2 : Int32} {s3 : Int32} {refusal : Int32} {wheel : Int32} {now : Int32} {length : Int32} {at_ : Int32} {fault : Int32} {faultLine : Int32} {line : Int32} {words : Int32} {labels : Int32} {targets : Int32} {wrong : Int32} {unfit : Int32} {text : Nat → Int32} {code_ : Nat → Int32} {label : Nat → Int64} {labelWord : Nat → Int32} {target : Nat → Int64} {targetWord : Nat → Int32} {targetLine : Nat → Int32} {store : Nat → Int32} {common : Nat → Int32} {low : Nat → Int32} {high : Nat → Int32} {register : Nat → Int32} {address : Nat → Int32} {status : Nat → Int32} {did : Nat → Int32} {ready : Nat → Int32} {timer : Nat → Int32} {trace : Nat → Int32} {r_0 : Int32} {r_1 : (Nat → Int32)} {r_2 : (Nat → Int32)} {r_3 : (Nat → Int32)} {r_4 : (Nat → Int32)} {r_5 : (Nat → Int32)} {r_6 : (Nat → Int32)} {r_7 : (Nat → Int32)} {r_8 : (Nat → Int32)} (hres : (r_0, r_1, r_2, r_3, r_4, r_5, r_6, r_7, r_8) = (f_X11_moveWord_256 wheel now store common register address status did ready trace l1 l9 s1 s2 s3)) (ht : 0 ≤ l1.toInt ∧ l1.toInt < 4) (hdid : ∀ j, j < 4 → 0 ≤ (did j).toInt) (hlh : ∀ j, j < 4 → 0 ≤ (low j).toInt ∧ (low j).toInt ≤ (high j).toInt ∧ (high j).toInt ≤ 64) (hwh : 1 ≤ wheel.toInt ∧ wheel.toInt ≤ 8) (hnow : 0 ≤ now.toInt ∧ now.toInt ≤ 1100000) (hts : 0 ≤ s1.toInt ∧ s1.toInt < 4) (hwa : (0 ≤ s2.toInt ∧ s2.toInt < 512) ∨ (4096 ≤ s2.toInt ∧ s2.toInt < 4352)) : G M_X11_moveWord 0 0 256 [(0, .ref 0), (1, .int l1), (9, .int l9)] [.int s3, .int s2, .int s1, .ref 0] (w_M refusal wheel now length at_ fault faultLine line words labels targets wrong unfit text code_ label labelWord target targetWord targetLine store common low high register address status did ready timer trace) (some (.int r_0)) (w_M refusal wheel now length at_ fault faultLine line words labels targets wrong unfit text code_ label labelWord target targetWord targetLine r_1 r_2 low high r_3 r_4 r_5 r_6 r_7 timer r_8) := by
  rw [f_X11_moveWord_256] at hres
  obtain ⟨z8_0, z8_1, hz8⟩ : ∃ (z8_0 : (Nat → Int32)) (z8_1 : (Nat → Int32)), (z8_0, z8_1) = f_X11_put s1 s2 s3 store common := ⟨_, _, rfl⟩
  refine G.callV0 (pc := 256) (rest := []) (st1 := []) dm_X11_moveWord_256 gc_X11_moveWord_309 (k_X11_put (t := s1) (a := s2) (v := s3) (refusal := refusal) (wheel := wheel) (now := now) (length := length) (at_ := at_) (fault := fault) (faultLine := faultLine) (line := line) (words := words) (labels := labels) (targets := targets) (wrong := wrong) (unfit := unfit) (text := text) (code_ := code_) (label := label) (labelWord := labelWord) (target := target) (targetWord := targetWord) (targetLine := targetLine) (store := store) (common := common) (low := low) (high := high) (register := register) (address := address) (status := status) (did := did) (ready := ready) (timer := timer) (trace := trace) hts hwa hz8) rfl rfl rfl rfl rfl rfl rfl rfl ?_
  replace hres : (r_0, r_1, r_2, r_3, r_4, r_5, r_6, r_7, r_8) = f_X11_moveWord_c256 wheel now register address status did ready trace l1 l9 z8_0 z8_1 := hres.trans (by rw [← hz8])
  rw [f_X11_moveWord_c256] at hres
  refine G.goto (pc := 259) (tgt := 309) dm_X11_moveWord_259 (by decide) ?_
  exact j_X11_moveWord_309 hres (by first | assumption | exact q_31 _ | rfl) (by first | assumption | exact q_31 _ | rfl) (by first | assumption | exact q_31 _ | rfl) (by first | assumption | exact q_31 _ | rfl) (by first | assumption | exact q_31 _ | rfl)
def f_X11_moveWord_c197 (wheel : Int32) (now : Int32) (store : Nat → Int32) (common : Nat → Int32) (register : Nat → Int32) (address : Nat → Int32) (status : Nat → Int32) (did : Nat → Int32) (ready : Nat → Int32) (trace : Nat → Int32) (l1 : Int32) (l3 : Int32) (l4 : Int32) (l6 : Int32) (l9 : Int32) (z3_0 : Int32) : Int32 × (Nat → Int32) × (Nat → Int32) × (Nat → Int32) × (Nat → Int32) × (Nat → Int32) × (Nat → Int32) × (Nat → Int32) × (Nat → Int32) := (if l3 = 0 then (if l4 = (2 : Int32) then (f_X11_moveWord_306 wheel now store common register address status did ready trace l1 l9 l1 l6 z3_0) else (if l4 = (4 : Int32) then (f_X11_moveWord_306 wheel now store common register address status did ready trace l1 l9 l1 l6 ((z3_0 >>> (((8 : Int32) * (l9 &&& (3 : Int32))) &&& 31)) &&& (255 : Int32))) else (f_X11_moveWord_306 wheel now store common register address status did ready trace l1 l9 l1 l6 ((z3_0 <<< (((24 : Int32) - ((8 : Int32) * (l9 &&& (3 : Int32)))) &&& 31)) >>> ((24 : Int32) &&& 31))))) else (if l4 = (2 : Int32) then (f_X11_moveWord_256 wheel now store common register address status did ready trace l1 l9 l1 l9 (register (Int32.toNatClampNeg (((16 : Int32) * l1) + l6)))) else (f_X11_moveWord_256 wheel now store common register address status did ready trace l1 l9 l1 l9 ((z3_0 &&& (((255 : Int32) <<< (((8 : Int32) * (l9 &&& (3 : Int32))) &&& 31)) ^^^ (-1 : Int32))) ||| (((register (Int32.toNatClampNeg (((16 : Int32) * l1) + l6))) &&& (255 : Int32)) <<< (((8 : Int32) * (l9 &&& (3 : Int32))) &&& 31))))))
def f_X11_moveWord_c180 (store : Nat → Int32) (common : Nat → Int32) (register : Nat → Int32) (address : Nat → Int32) (did : Nat → Int32) (ready : Nat → Int32) (trace : Nat → Int32) (z9_0 : Int32) (z9_1 : (Nat → Int32)) : Int32 × (Nat → Int32) × (Nat → Int32) × (Nat → Int32) × (Nat → Int32) × (Nat → Int32) × (Nat → Int32) × (Nat → Int32) × (Nat → Int32) := (z9_0, store, common, register, address, z9_1, did, ready, trace)
def f_X11_moveWord_c172 (wheel : Int32) (now : Int32) (store : Nat → Int32) (common : Nat → Int32) (register : Nat → Int32) (address : Nat → Int32) (status : Nat → Int32) (did : Nat → Int32) (ready : Nat → Int32) (trace : Nat → Int32) (l1 : Int32) (l3 : Int32) (l4 : Int32) (l6 : Int32) (l9 : Int32) (z2_0 : Int32) : Int32 × (Nat → Int32) × (Nat → Int32) × (Nat → Int32) × (Nat → Int32) × (Nat → Int32) × (Nat → Int32) × (Nat → Int32) × (Nat → Int32) := (if z2_0 = 0 then (f_X11_moveWord_c180 store common register address did ready trace (f_X11_stop l1 status).1 (f_X11_stop l1 status).2) else (f_X11_moveWord_c197 wheel now store common register address status did ready trace l1 l3 l4 l6 l9 (f_X11_wordAt l1 l9 store common)))
def f_X11_moveWord_172 (wheel : Int32) (now : Int32) (store : Nat → Int32) (common : Nat → Int32) (low : Nat → Int32) (high : Nat → Int32) (register : Nat → Int32) (address : Nat → Int32) (status : Nat → Int32) (did : Nat → Int32) (ready : Nat → Int32) (trace : Nat → Int32) (l1 : Int32) (l3 : Int32) (l4 : Int32) (l6 : Int32) (l9 : Int32) (s1 : Int32) (s2 : Int32) (s3 : Int32) : Int32 × (Nat → Int32) × (Nat → Int32) × (Nat → Int32) × (Nat → Int32) × (Nat → Int32) × (Nat → Int32) × (Nat → Int32) × (Nat → Int32) := (f_X11_moveWord_c172 wheel now store common register address status did ready trace l1 l3 l4 l6 l9 (f_X11_isThere s1 s2 s3 low high))
set_option maxRecDepth 20000 in
theorem j_X11_moveWord_172 {l1 : Int32} {l3 : Int32} {l4 : Int32} {l6 : Int32} {l9 : Int32} {s1 : Int32} {s2 : Int32} {s3 : Int32} {refusal : Int32} {wheel : Int32} {now : Int32} {length : Int32} {at_ : Int32} {fault : Int32} {faultLine : Int32} {line : Int32} {words : Int32} {labels : Int32} {targets : Int32} {wrong : Int32} {unfit : Int32} {text : Nat → Int32} {code_ : Nat → Int32} {label : Nat → Int64} {labelWord : Nat → Int32} {target : Nat → Int64} {targetWord : Nat → Int32} {targetLine : Nat → Int32} {store : Nat → Int32} {common : Nat → Int32} {low : Nat → Int32} {high : Nat → Int32} {register : Nat → Int32} {address : Nat → Int32} {status : Nat → Int32} {did : Nat → Int32} {ready : Nat → Int32} {timer : Nat → Int32} {trace : Nat → Int32} {r_0 : Int32} {r_1 : (Nat → Int32)} {r_2 : (Nat → Int32)} {r_3 : (Nat → Int32)} {r_4 : (Nat → Int32)} {r_5 : (Nat → Int32)} {r_6 : (Nat → Int32)} {r_7 : (Nat → Int32)} {r_8 : (Nat → Int32)} (hres : (r_0, r_1, r_2, r_3, r_4, r_5, r_6, r_7, r_8) = (f_X11_moveWord_172 wheel now store common low high register address status did ready trace l1 l3 l4 l6 l9 s1 s2 s3)) (ht : 0 ≤ l1.toInt ∧ l1.toInt < 4) (hdid : ∀ j, j < 4 → 0 ≤ (did j).toInt) (hlh : ∀ j, j < 4 → 0 ≤ (low j).toInt ∧ (low j).toInt ≤ (high j).toInt ∧ (high j).toInt ≤ 64) (hwh : 1 ≤ wheel.toInt ∧ wheel.toInt ≤ 8) (hnow : 0 ≤ now.toInt ∧ now.toInt ≤ 1100000) (h6 : 0 ≤ l6.toInt ∧ l6.toInt < 16) (hts : 0 ≤ s1.toInt ∧ s1.toInt < 4) (hs2 : s2 = l9) : G M_X11_moveWord 0 0 172 [(0, .ref 0), (1, .int l1), (3, .int l3), (4, .int l4), (6, .int l6), (9, .int l9)] [.int s3, .int s2, .int s1, .ref 0] (w_M refusal wheel now length at_ fault faultLine line words labels targets wrong unfit text code_ label labelWord target targetWord targetLine store common low high register address status did ready timer trace) (some (.int r_0)) (w_M refusal wheel now length at_ fault faultLine line words labels targets wrong unfit text code_ label labelWord target targetWord targetLine r_1 r_2 low high r_3 r_4 r_5 r_6 r_7 timer r_8) := by
  rw [f_X11_moveWord_172] at hres
  obtain ⟨z2_0, hz2⟩ : ∃ (z2_0 : Int32), z2_0 = f_X11_isThere s1 s2 s3 low high := ⟨_, rfl⟩
  refine G.callV0 (pc := 172) (rest := []) (st1 := [.int z2_0]) dm_X11_moveWord_172 gc_X11_moveWord_302 (k_X11_isThere (t := s1) (a := s2) (size := s3) (refusal := refusal) (wheel := wheel) (now := now) (length := length) (at_ := at_) (fault := fault) (faultLine := faultLine) (line := line) (words := words) (labels := labels) (targets := targets) (wrong := wrong) (unfit := unfit) (text := text) (code_ := code_) (label := label) (labelWord := labelWord) (target := target) (targetWord := targetWord) (targetLine := targetLine) (store := store) (common := common) (low := low) (high := high) (register := register) (address := address) (status := status) (did := did) (ready := ready) (timer := timer) (trace := trace) hts hz2) rfl rfl rfl rfl rfl rfl rfl rfl ?_
  have there := a_isThere hz2.symm hts hlh
  replace hres : (r_0, r_1, r_2, r_3, r_4, r_5, r_6, r_7, r_8) = f_X11_moveWord_c172 wheel now store common register address status did ready trace l1 l3 l4 l6 l9 z2_0 := hres.trans (by rw [← hz2])
  rw [f_X11_moveWord_c172] at hres
  refine G.if_ne (pc := 175) (tgt := 184) dm_X11_moveWord_175 (by decide) (fun c175 => ?_) (fun c175 => ?_)
  · rw [if_neg c175] at hres
    have hwa := there c175
    rw [hs2] at hwa
    refine G.bipush (pc := 184) (v := (8 : Int32)) dm_X11_moveWord_184 qb_8 ?_
    refine G.iload (pc := 186) dm_X11_moveWord_186 rfl ?_
    refine G.iconst (pc := 188) (v := (3 : Int32)) dm_X11_moveWord_188 qi_3 ?_
    refine G.iand (pc := 189) dm_X11_moveWord_189 ?_
    refine G.imul (pc := 190) dm_X11_moveWord_190 ?_
    refine G.istore (pc := 191) (lv1 := [(10, .int ((8 : Int32) * (l9 &&& (3 : Int32)))), (0, .ref 0), (1, .int l1), (3, .int l3), (4, .int l4), (6, .int l6), (9, .int l9)]) dm_X11_moveWord_191 rfl rfl ?_
    refine G.aload_n (pc := 193) dm_X11_moveWord_193 rfl ?_
    refine G.iload_n (pc := 194) dm_X11_moveWord_194 rfl ?_
    refine G.iload (pc := 195) dm_X11_moveWord_195 rfl ?_
    obtain ⟨z3_0, hz3⟩ : ∃ (z3_0 : Int32), z3_0 = f_X11_wordAt l1 l9 store common := ⟨_, rfl⟩
    refine G.callV0 (pc := 197) (rest := []) (st1 := [.int z3_0]) dm_X11_moveWord_197 gc_X11_moveWord_306 (k_X11_wordAt (t := l1) (a := l9) (refusal := refusal) (wheel := wheel) (now := now) (length := length) (at_ := at_) (fault := fault) (faultLine := faultLine) (line := line) (words := words) (labels := labels) (targets := targets) (wrong := wrong) (unfit := unfit) (text := text) (code_ := code_) (label := label) (labelWord := labelWord) (target := target) (targetWord := targetWord) (targetLine := targetLine) (store := store) (common := common) (low := low) (high := high) (register := register) (address := address) (status := status) (did := did) (ready := ready) (timer := timer) (trace := trace) (by first | assumption | exact q_31 _ | rfl) (by first | assumption | exact q_31 _ | rfl) hz3) rfl rfl rfl rfl rfl rfl rfl rfl ?_
    replace hres : (r_0, r_1, r_2, r_3, r_4, r_5, r_6, r_7, r_8) = f_X11_moveWord_c197 wheel now store common register address status did ready trace l1 l3 l4 l6 l9 z3_0 := hres.trans (by rw [← hz3])
    rw [f_X11_moveWord_c197] at hres
    refine G.istore (pc := 200) (lv1 := [(11, .int z3_0), (10, .int ((8 : Int32) * (l9 &&& (3 : Int32)))), (0, .ref 0), (1, .int l1), (3, .int l3), (4, .int l4), (6, .int l6), (9, .int l9)]) dm_X11_moveWord_200 rfl rfl ?_
    refine G.aload_n (pc := 202) dm_X11_moveWord_202 rfl ?_
    refine G.getfield (pc := 203) dm_X11_moveWord_203 gf_X11_45 rfl rfl ?_
    refine G.bipush (pc := 206) (v := (16 : Int32)) dm_X11_moveWord_206 qb_16 ?_
    refine G.iload_n (pc := 208) dm_X11_moveWord_208 rfl ?_
    refine G.imul (pc := 209) dm_X11_moveWord_209 ?_
    refine G.iload (pc := 210) dm_X11_moveWord_210 rfl ?_
    refine G.iadd (pc := 212) dm_X11_moveWord_212 ?_
    refine G.iaload (pc := 213) dm_X11_moveWord_213 rfl (q_i16 ht h6) ?_
    refine G.istore (pc := 214) (lv1 := [(12, .int (register (Int32.toNatClampNeg (((16 : Int32) * l1) + l6)))), (11, .int z3_0), (10, .int ((8 : Int32) * (l9 &&& (3 : Int32)))), (0, .ref 0), (1, .int l1), (3, .int l3), (4, .int l4), (6, .int l6), (9, .int l9)]) dm_X11_moveWord_214 rfl rfl ?_
    refine G.iload_n (pc := 216) dm_X11_moveWord_216 rfl ?_
    refine G.if_eq (pc := 217) (tgt := 262) dm_X11_moveWord_217 (by decide) (fun c217 => ?_) (fun c217 => ?_)
    · rw [if_pos c217] at hres
      refine G.aload_n (pc := 262) dm_X11_moveWord_262 rfl ?_
      refine G.iload_n (pc := 263) dm_X11_moveWord_263 rfl ?_
      refine G.iload (pc := 264) dm_X11_moveWord_264 rfl ?_
      refine G.iload (pc := 266) dm_X11_moveWord_266 rfl ?_
      refine G.iconst (pc := 268) (v := (2 : Int32)) dm_X11_moveWord_268 qi_2 ?_
      refine G.icmp_ne (pc := 269) (tgt := 277) dm_X11_moveWord_269 (by decide) (fun c269 => ?_) (fun c269 => ?_)
      · rw [if_neg c269] at hres
        refine G.iload (pc := 277) dm_X11_moveWord_277 rfl ?_
        refine G.iconst (pc := 279) (v := (4 : Int32)) dm_X11_moveWord_279 qi_4 ?_
        refine G.icmp_ne (pc := 280) (tgt := 295) dm_X11_moveWord_280 (by decide) (fun c280 => ?_) (fun c280 => ?_)
        · rw [if_neg c280] at hres
          refine G.iload (pc := 295) dm_X11_moveWord_295 rfl ?_
          refine G.bipush (pc := 297) (v := (24 : Int32)) dm_X11_moveWord_297 qb_24 ?_
          refine G.iload (pc := 299) dm_X11_moveWord_299 rfl ?_
          refine G.isub (pc := 301) dm_X11_moveWord_301 ?_
          refine G.ishl (pc := 302) dm_X11_moveWord_302 ?_
          refine G.bipush (pc := 303) (v := (24 : Int32)) dm_X11_moveWord_303 qb_24 ?_
          refine G.ishr (pc := 305) dm_X11_moveWord_305 ?_
          refine G.lvp [3, 4, 8] rfl ?_
          exact j_X11_moveWord_306 hres (by first | assumption | exact q_31 _ | rfl) (by first | assumption | exact q_31 _ | rfl) (by first | assumption | exact q_31 _ | rfl) (by first | assumption | exact q_31 _ | rfl) (by first | assumption | exact q_31 _ | rfl) (by first | assumption | exact q_31 _ | rfl) (by first | assumption | exact q_31 _ | rfl)
        · rw [if_pos c280] at hres
          refine G.iload (pc := 283) dm_X11_moveWord_283 rfl ?_
          refine G.iload (pc := 285) dm_X11_moveWord_285 rfl ?_
          refine G.ishr (pc := 287) dm_X11_moveWord_287 ?_
          refine G.sipush (pc := 288) (v := (255 : Int32)) dm_X11_moveWord_288 qs_255 ?_
          refine G.iand (pc := 291) dm_X11_moveWord_291 ?_
          refine G.goto (pc := 292) (tgt := 306) dm_X11_moveWord_292 (by decide) ?_
          refine G.lvp [3, 4, 8] rfl ?_
          exact j_X11_moveWord_306 hres (by first | assumption | exact q_31 _ | rfl) (by first | assumption | exact q_31 _ | rfl) (by first | assumption | exact q_31 _ | rfl) (by first | assumption | exact q_31 _ | rfl) (by first | assumption | exact q_31 _ | rfl) (by first | assumption | exact q_31 _ | rfl) (by first | assumption | exact q_31 _ | rfl)
      · rw [if_pos c269] at hres
        refine G.iload (pc := 272) dm_X11_moveWord_272 rfl ?_
        refine G.goto (pc := 274) (tgt := 306) dm_X11_moveWord_274 (by decide) ?_
        refine G.lvp [3, 4, 8] rfl ?_
        exact j_X11_moveWord_306 hres (by first | assumption | exact q_31 _ | rfl) (by first | assumption | exact q_31 _ | rfl) (by first | assumption | exact q_31 _ | rfl) (by first | assumption | exact q_31 _ | rfl) (by first | assumption | exact q_31 _ | rfl) (by first | assumption | exact q_31 _ | rfl) (by first | assumption | exact q_31 _ | rfl)
    · rw [if_neg c217] at hres
      refine G.aload_n (pc := 220) dm_X11_moveWord_220 rfl ?_
      refine G.iload_n (pc := 221) dm_X11_moveWord_221 rfl ?_
      refine G.iload (pc := 222) dm_X11_moveWord_222 rfl ?_
      refine G.iload (pc := 224) dm_X11_moveWord_224 rfl ?_
      refine G.iconst (pc := 226) (v := (2 : Int32)) dm_X11_moveWord_226 qi_2 ?_
      refine G.icmp_ne (pc := 227) (tgt := 235) dm_X11_moveWord_227 (by decide) (fun c227 => ?_) (fun c227 => ?_)
      · rw [if_neg c227] at hres
        refine G.iload (pc := 235) dm_X11_moveWord_235 rfl ?_
        refine G.sipush (pc := 237) (v := (255 : Int32)) dm_X11_moveWord_237 qs_255 ?_
        refine G.iload (pc := 240) dm_X11_moveWord_240 rfl ?_
        refine G.ishl (pc := 242) dm_X11_moveWord_242 ?_
        refine G.iconst (pc := 243) (v := (-1 : Int32)) dm_X11_moveWord_243 qi_m1 ?_
        refine G.ixor (pc := 244) dm_X11_moveWord_244 ?_
        refine G.iand (pc := 245) dm_X11_moveWord_245 ?_
        refine G.iload (pc := 246) dm_X11_moveWord_246 rfl ?_
        refine G.sipush (pc := 248) (v := (255 : Int32)) dm_X11_moveWord_248 qs_255 ?_
        refine G.iand (pc := 251) dm_X11_moveWord_251 ?_
        refine G.iload (pc := 252) dm_X11_moveWord_252 rfl ?_
        refine G.ishl (pc := 254) dm_X11_moveWord_254 ?_
        refine G.ior (pc := 255) dm_X11_moveWord_255 ?_
        refine G.lvp [3, 4, 8] rfl ?_
        exact j_X11_moveWord_256 hres (by first | assumption | exact q_31 _ | rfl) (by first | assumption | exact q_31 _ | rfl) (by first | assumption | exact q_31 _ | rfl) (by first | assumption | exact q_31 _ | rfl) (by first | assumption | exact q_31 _ | rfl) (by first | assumption | exact q_31 _ | rfl) (by first | assumption | exact q_31 _ | rfl)
      · rw [if_pos c227] at hres
        refine G.iload (pc := 230) dm_X11_moveWord_230 rfl ?_
        refine G.goto (pc := 232) (tgt := 256) dm_X11_moveWord_232 (by decide) ?_
        refine G.lvp [3, 4, 8] rfl ?_
        exact j_X11_moveWord_256 hres (by first | assumption | exact q_31 _ | rfl) (by first | assumption | exact q_31 _ | rfl) (by first | assumption | exact q_31 _ | rfl) (by first | assumption | exact q_31 _ | rfl) (by first | assumption | exact q_31 _ | rfl) (by first | assumption | exact q_31 _ | rfl) (by first | assumption | exact q_31 _ | rfl)
  · rw [if_pos c175] at hres
    refine G.aload_n (pc := 178) dm_X11_moveWord_178 rfl ?_
    refine G.iload_n (pc := 179) dm_X11_moveWord_179 rfl ?_
    obtain ⟨z9_0, z9_1, hz9⟩ : ∃ (z9_0 : Int32) (z9_1 : (Nat → Int32)), (z9_0, z9_1) = f_X11_stop l1 status := ⟨_, _, rfl⟩
    refine G.callV0 (pc := 180) (rest := []) (st1 := [.int z9_0]) dm_X11_moveWord_180 gc_X11_moveWord_299 (k_X11_stop (t := l1) (refusal := refusal) (wheel := wheel) (now := now) (length := length) (at_ := at_) (fault := fault) (faultLine := faultLine) (line := line) (words := words) (labels := labels) (targets := targets) (wrong := wrong) (unfit := unfit) (text := text) (code_ := code_) (label := label) (labelWord := labelWord) (target := target) (targetWord := targetWord) (targetLine := targetLine) (store := store) (common := common) (low := low) (high := high) (register := register) (address := address) (status := status) (did := did) (ready := ready) (timer := timer) (trace := trace) (by first | assumption | exact q_31 _ | rfl) hz9) rfl rfl rfl rfl rfl rfl rfl rfl ?_
    replace hres : (r_0, r_1, r_2, r_3, r_4, r_5, r_6, r_7, r_8) = f_X11_moveWord_c180 store common register address did ready trace z9_0 z9_1 := hres.trans (by rw [← hz9])
    rw [f_X11_moveWord_c180] at hres
    cases hres
    exact G.ireturn (pc := 183) dm_X11_moveWord_183 rfl rfl rfl
def f_X11_moveWord_138 (wheel : Int32) (now : Int32) (store : Nat → Int32) (common : Nat → Int32) (low : Nat → Int32) (high : Nat → Int32) (register : Nat → Int32) (address : Nat → Int32) (status : Nat → Int32) (did : Nat → Int32) (ready : Nat → Int32) (trace : Nat → Int32) (l1 : Int32) (l3 : Int32) (l4 : Int32) (l5 : Int32) (s0 : Int32) (l6 : Int32) : Int32 × (Nat → Int32) × (Nat → Int32) × (Nat → Int32) × (Nat → Int32) × (Nat → Int32) × (Nat → Int32) × (Nat → Int32) × (Nat → Int32) := (if l4 = (2 : Int32) then (f_X11_moveWord_172 wheel now store common low high register address status did ready trace l1 l3 l4 l6 ((register (Int32.toNatClampNeg (((16 : Int32) * l1) + l5))) + s0) l1 ((register (Int32.toNatClampNeg (((16 : Int32) * l1) + l5))) + s0) (4 : Int32)) else (f_X11_moveWord_172 wheel now store common low high register address status did ready trace l1 l3 l4 l6 ((register (Int32.toNatClampNeg (((16 : Int32) * l1) + l5))) + s0) l1 ((register (Int32.toNatClampNeg (((16 : Int32) * l1) + l5))) + s0) (1 : Int32)))
set_option maxRecDepth 20000 in
theorem j_X11_moveWord_138 {l1 : Int32} {l3 : Int32} {l4 : Int32} {l5 : Int32} {l6 : Int32} {s0 : Int32} {refusal : Int32} {wheel : Int32} {now : Int32} {length : Int32} {at_ : Int32} {fault : Int32} {faultLine : Int32} {line : Int32} {words : Int32} {labels : Int32} {targets : Int32} {wrong : Int32} {unfit : Int32} {text : Nat → Int32} {code_ : Nat → Int32} {label : Nat → Int64} {labelWord : Nat → Int32} {target : Nat → Int64} {targetWord : Nat → Int32} {targetLine : Nat → Int32} {store : Nat → Int32} {common : Nat → Int32} {low : Nat → Int32} {high : Nat → Int32} {register : Nat → Int32} {address : Nat → Int32} {status : Nat → Int32} {did : Nat → Int32} {ready : Nat → Int32} {timer : Nat → Int32} {trace : Nat → Int32} {r_0 : Int32} {r_1 : (Nat → Int32)} {r_2 : (Nat → Int32)} {r_3 : (Nat → Int32)} {r_4 : (Nat → Int32)} {r_5 : (Nat → Int32)} {r_6 : (Nat → Int32)} {r_7 : (Nat → Int32)} {r_8 : (Nat → Int32)} (hres : (r_0, r_1, r_2, r_3, r_4, r_5, r_6, r_7, r_8) = (f_X11_moveWord_138 wheel now store common low high register address status did ready trace l1 l3 l4 l5 s0 l6)) (ht : 0 ≤ l1.toInt ∧ l1.toInt < 4) (hdid : ∀ j, j < 4 → 0 ≤ (did j).toInt) (hlh : ∀ j, j < 4 → 0 ≤ (low j).toInt ∧ (low j).toInt ≤ (high j).toInt ∧ (high j).toInt ≤ 64) (hwh : 1 ≤ wheel.toInt ∧ wheel.toInt ≤ 8) (hnow : 0 ≤ now.toInt ∧ now.toInt ≤ 1100000) (h5 : 0 ≤ l5.toInt ∧ l5.toInt < 16) (h6 : 0 ≤ l6.toInt ∧ l6.toInt < 16) : G M_X11_moveWord 0 0 138 [(0, .ref 0), (1, .int l1), (3, .int l3), (4, .int l4), (5, .int l5), (6, .int l6)] [.int s0] (w_M refusal wheel now length at_ fault faultLine line words labels targets wrong unfit text code_ label labelWord target targetWord targetLine store common low high register address status did ready timer trace) (some (.int r_0)) (w_M refusal wheel now length at_ fault faultLine line words labels targets wrong unfit text code_ label labelWord target targetWord targetLine r_1 r_2 low high r_3 r_4 r_5 r_6 r_7 timer r_8) := by
  rw [f_X11_moveWord_138] at hres
  refine G.istore (pc := 138) (lv1 := [(8, .int s0), (0, .ref 0), (1, .int l1), (3, .int l3), (4, .int l4), (5, .int l5), (6, .int l6)]) dm_X11_moveWord_138 rfl rfl ?_
  refine G.aload_n (pc := 140) dm_X11_moveWord_140 rfl ?_
  refine G.getfield (pc := 141) dm_X11_moveWord_141 gf_X11_45 rfl rfl ?_
  refine G.bipush (pc := 144) (v := (16 : Int32)) dm_X11_moveWord_144 qb_16 ?_
  refine G.iload_n (pc := 146) dm_X11_moveWord_146 rfl ?_
  refine G.imul (pc := 147) dm_X11_moveWord_147 ?_
  refine G.iload (pc := 148) dm_X11_moveWord_148 rfl ?_
  refine G.iadd (pc := 150) dm_X11_moveWord_150 ?_
  refine G.iaload (pc := 151) dm_X11_moveWord_151 rfl (q_i16 ht h5) ?_
  refine G.iload (pc := 152) dm_X11_moveWord_152 rfl ?_
  refine G.iadd (pc := 154) dm_X11_moveWord_154 ?_
  refine G.istore (pc := 155) (lv1 := [(9, .int ((register (Int32.toNatClampNeg (((16 : Int32) * l1) + l5))) + s0)), (8, .int s0), (0, .ref 0), (1, .int l1), (3, .int l3), (4, .int l4), (5, .int l5), (6, .int l6)]) dm_X11_moveWord_155 rfl rfl ?_
  refine G.aload_n (pc := 157) dm_X11_moveWord_157 rfl ?_
  refine G.iload_n (pc := 158) dm_X11_moveWord_158 rfl ?_
  refine G.iload (pc := 159) dm_X11_moveWord_159 rfl ?_
  refine G.iload (pc := 161) dm_X11_moveWord_161 rfl ?_
  refine G.iconst (pc := 163) (v := (2 : Int32)) dm_X11_moveWord_163 qi_2 ?_
  refine G.icmp_ne (pc := 164) (tgt := 171) dm_X11_moveWord_164 (by decide) (fun c164 => ?_) (fun c164 => ?_)
  · rw [if_neg c164] at hres
    refine G.iconst (pc := 171) (v := (1 : Int32)) dm_X11_moveWord_171 qi_1 ?_
    refine G.lvp [2, 3, 4, 5, 7, 0] rfl ?_
    exact j_X11_moveWord_172 hres (by first | assumption | exact q_31 _ | rfl) (by first | assumption | exact q_31 _ | rfl) (by first | assumption | exact q_31 _ | rfl) (by first | assumption | exact q_31 _ | rfl) (by first | assumption | exact q_31 _ | rfl) (by first | assumption | exact q_31 _ | rfl) (by first | assumption | exact q_31 _ | rfl) (by first | assumption | exact q_31 _ | rfl)
  · rw [if_pos c164] at hres
    refine G.iconst (pc := 167) (v := (4 : Int32)) dm_X11_moveWord_167 qi_4 ?_
    refine G.goto (pc := 168) (tgt := 172) dm_X11_moveWord_168 (by decide) ?_
    refine G.lvp [2, 3, 4, 5, 7, 0] rfl ?_
    exact j_X11_moveWord_172 hres (by first | assumption | exact q_31 _ | rfl) (by first | assumption | exact q_31 _ | rfl) (by first | assumption | exact q_31 _ | rfl) (by first | assumption | exact q_31 _ | rfl) (by first | assumption | exact q_31 _ | rfl) (by first | assumption | exact q_31 _ | rfl) (by first | assumption | exact q_31 _ | rfl) (by first | assumption | exact q_31 _ | rfl)
def f_X11_moveWord_86 (wheel : Int32) (now : Int32) (store : Nat → Int32) (common : Nat → Int32) (low : Nat → Int32) (high : Nat → Int32) (register : Nat → Int32) (address : Nat → Int32) (status : Nat → Int32) (did : Nat → Int32) (ready : Nat → Int32) (trace : Nat → Int32) (l1 : Int32) (l2 : Int32) (l3 : Int32) (l4 : Int32) (l5 : Int32) (s0 : Int32) (l6 : Int32) : Int32 × (Nat → Int32) × (Nat → Int32) × (Nat → Int32) × (Nat → Int32) × (Nat → Int32) × (Nat → Int32) × (Nat → Int32) × (Nat → Int32) := (if s0 = 0 then (f_X11_moveWord_107 store common register address status did ready trace l1) else (if (15 : Int32) < l5 then (f_X11_moveWord_107 store common register address status did ready trace l1) else (if l6 ≤ (15 : Int32) then (if l3 = 0 then (f_X11_moveWord_138 wheel now store common low high register address status did ready trace l1 l3 l4 l5 (l2 >>> ((20 : Int32) &&& 31)) l6) else (f_X11_moveWord_138 wheel now store common low high register address status did ready trace l1 l3 l4 l5 (((l2 >>> ((25 : Int32) &&& 31)) <<< ((5 : Int32) &&& 31)) ||| ((l2 >>> ((7 : Int32) &&& 31)) &&& (31 : Int32))) l6)) else (f_X11_moveWord_107 store common register address status did ready trace l1))))
set_option maxRecDepth 20000 in
theorem j_X11_moveWord_86 {l1 : Int32} {l2 : Int32} {l3 : Int32} {l4 : Int32} {l5 : Int32} {l6 : Int32} {s0 : Int32} {refusal : Int32} {wheel : Int32} {now : Int32} {length : Int32} {at_ : Int32} {fault : Int32} {faultLine : Int32} {line : Int32} {words : Int32} {labels : Int32} {targets : Int32} {wrong : Int32} {unfit : Int32} {text : Nat → Int32} {code_ : Nat → Int32} {label : Nat → Int64} {labelWord : Nat → Int32} {target : Nat → Int64} {targetWord : Nat → Int32} {targetLine : Nat → Int32} {store : Nat → Int32} {common : Nat → Int32} {low : Nat → Int32} {high : Nat → Int32} {register : Nat → Int32} {address : Nat → Int32} {status : Nat → Int32} {did : Nat → Int32} {ready : Nat → Int32} {timer : Nat → Int32} {trace : Nat → Int32} {r_0 : Int32} {r_1 : (Nat → Int32)} {r_2 : (Nat → Int32)} {r_3 : (Nat → Int32)} {r_4 : (Nat → Int32)} {r_5 : (Nat → Int32)} {r_6 : (Nat → Int32)} {r_7 : (Nat → Int32)} {r_8 : (Nat → Int32)} (hres : (r_0, r_1, r_2, r_3, r_4, r_5, r_6, r_7, r_8) = (f_X11_moveWord_86 wheel now store common low high register address status did ready trace l1 l2 l3 l4 l5 s0 l6)) (ht : 0 ≤ l1.toInt ∧ l1.toInt < 4) (hdid : ∀ j, j < 4 → 0 ≤ (did j).toInt) (hlh : ∀ j, j < 4 → 0 ≤ (low j).toInt ∧ (low j).toInt ≤ (high j).toInt ∧ (high j).toInt ≤ 64) (hwh : 1 ≤ wheel.toInt ∧ wheel.toInt ≤ 8) (hnow : 0 ≤ now.toInt ∧ now.toInt ≤ 1100000) (h5 : 0 ≤ l5.toInt ∧ l5.toInt < 32) (h6 : 0 ≤ l6.toInt ∧ l6.toInt < 32) : G M_X11_moveWord 0 0 86 [(0, .ref 0), (1, .int l1), (2, .int l2), (3, .int l3), (4, .int l4), (5, .int l5), (6, .int l6)] [.int s0] (w_M refusal wheel now length at_ fault faultLine line words labels targets wrong unfit text code_ label labelWord target targetWord targetLine store common low high register address status did ready timer trace) (some (.int r_0)) (w_M refusal wheel now length at_ fault faultLine line words labels targets wrong unfit text code_ label labelWord target targetWord targetLine r_1 r_2 low high r_3 r_4 r_5 r_6 r_7 timer r_8) := by
  rw [f_X11_moveWord_86] at hres
  refine G.istore (pc := 86) (lv1 := [(7, .int s0), (0, .ref 0), (1, .int l1), (2, .int l2), (3, .int l3), (4, .int l4), (5, .int l5), (6, .int l6)]) dm_X11_moveWord_86 rfl rfl ?_
  refine G.iload (pc := 88) dm_X11_moveWord_88 rfl ?_
  refine G.if_eq (pc := 90) (tgt := 107) dm_X11_moveWord_90 (by decide) (fun c90 => ?_) (fun c90 => ?_)
  · rw [if_pos c90] at hres
    refine G.lvp [1, 2] rfl ?_
    exact j_X11_moveWord_107 hres (by first | assumption | exact q_31 _ | rfl)
  · rw [if_neg c90] at hres
    refine G.iload (pc := 93) dm_X11_moveWord_93 rfl ?_
    refine G.bipush (pc := 95) (v := (15 : Int32)) dm_X11_moveWord_95 qb_15 ?_
    refine G.icmp_gt (pc := 97) (tgt := 107) dm_X11_moveWord_97 (by decide) (fun c97 => ?_) (fun c97 => ?_)
    · rw [if_pos c97] at hres
      refine G.lvp [1, 2] rfl ?_
      exact j_X11_moveWord_107 hres (by first | assumption | exact q_31 _ | rfl)
    · rw [if_neg c97] at hres
      refine G.iload (pc := 100) dm_X11_moveWord_100 rfl ?_
      refine G.bipush (pc := 102) (v := (15 : Int32)) dm_X11_moveWord_102 qb_15 ?_
      refine G.icmp_le (pc := 104) (tgt := 113) dm_X11_moveWord_104 (by decide) (fun c104 => ?_) (fun c104 => ?_)
      · rw [if_pos c104] at hres
        have h5 := q_16 h5 c97
        have h6 := q_16' h6 c104
        refine G.iload_n (pc := 113) dm_X11_moveWord_113 rfl ?_
        refine G.if_eq (pc := 114) (tgt := 134) dm_X11_moveWord_114 (by decide) (fun c114 => ?_) (fun c114 => ?_)
        · rw [if_pos c114] at hres
          refine G.iload_n (pc := 134) dm_X11_moveWord_134 rfl ?_
          refine G.bipush (pc := 135) (v := (20 : Int32)) dm_X11_moveWord_135 qb_20 ?_
          refine G.ishr (pc := 137) dm_X11_moveWord_137 ?_
          refine G.lvp [1, 2, 4, 5, 6, 7] rfl ?_
          exact j_X11_moveWord_138 hres (by first | assumption | exact q_31 _ | rfl) (by first | assumption | exact q_31 _ | rfl) (by first | assumption | exact q_31 _ | rfl) (by first | assumption | exact q_31 _ | rfl) (by first | assumption | exact q_31 _ | rfl) (by first | assumption | exact q_31 _ | rfl) (by first | assumption | exact q_31 _ | rfl)
        · rw [if_neg c114] at hres
          refine G.iload_n (pc := 117) dm_X11_moveWord_117 rfl ?_
          refine G.bipush (pc := 118) (v := (25 : Int32)) dm_X11_moveWord_118 qb_25 ?_
          refine G.ishr (pc := 120) dm_X11_moveWord_120 ?_
          refine G.iconst (pc := 121) (v := (5 : Int32)) dm_X11_moveWord_121 qi_5 ?_
          refine G.ishl (pc := 122) dm_X11_moveWord_122 ?_
          refine G.iload_n (pc := 123) dm_X11_moveWord_123 rfl ?_
          refine G.bipush (pc := 124) (v := (7 : Int32)) dm_X11_moveWord_124 qb_7 ?_
          refine G.ishr (pc := 126) dm_X11_moveWord_126 ?_
          refine G.bipush (pc := 127) (v := (31 : Int32)) dm_X11_moveWord_127 qb_31 ?_
          refine G.iand (pc := 129) dm_X11_moveWord_129 ?_
          refine G.ior (pc := 130) dm_X11_moveWord_130 ?_
          refine G.goto (pc := 131) (tgt := 138) dm_X11_moveWord_131 (by decide) ?_
          refine G.lvp [1, 2, 4, 5, 6, 7] rfl ?_
          exact j_X11_moveWord_138 hres (by first | assumption | exact q_31 _ | rfl) (by first | assumption | exact q_31 _ | rfl) (by first | assumption | exact q_31 _ | rfl) (by first | assumption | exact q_31 _ | rfl) (by first | assumption | exact q_31 _ | rfl) (by first | assumption | exact q_31 _ | rfl) (by first | assumption | exact q_31 _ | rfl)
      · rw [if_neg c104] at hres
        refine G.lvp [1, 2] rfl ?_
        exact j_X11_moveWord_107 hres (by first | assumption | exact q_31 _ | rfl)
def f_X11_moveWord_39 (wheel : Int32) (now : Int32) (store : Nat → Int32) (common : Nat → Int32) (low : Nat → Int32) (high : Nat → Int32) (register : Nat → Int32) (address : Nat → Int32) (status : Nat → Int32) (did : Nat → Int32) (ready : Nat → Int32) (trace : Nat → Int32) (l1 : Int32) (l2 : Int32) (l3 : Int32) (l4 : Int32) (l5 : Int32) (s0 : Int32) : Int32 × (Nat → Int32) × (Nat → Int32) × (Nat → Int32) × (Nat → Int32) × (Nat → Int32) × (Nat → Int32) × (Nat → Int32) × (Nat → Int32) := (if l3 = 0 then (if l4 = (2 : Int32) then (f_X11_moveWord_86 wheel now store common low high register address status did ready trace l1 l2 l3 l4 l5 (1 : Int32) s0) else (if l4 = 0 then (f_X11_moveWord_86 wheel now store common low high register address status did ready trace l1 l2 l3 l4 l5 (1 : Int32) s0) else (if l4 = (4 : Int32) then (f_X11_moveWord_86 wheel now store common low high register address status did ready trace l1 l2 l3 l4 l5 (1 : Int32) s0) else (f_X11_moveWord_86 wheel now store common low high register address status did ready trace l1 l2 l3 l4 l5 (0 : Int32) s0)))) else (if l4 = (2 : Int32) then (f_X11_moveWord_86 wheel now store common low high register address status did ready trace l1 l2 l3 l4 l5 (1 : Int32) s0) else (if l4 = 0 then (f_X11_moveWord_86 wheel now store common low high register address status did ready trace l1 l2 l3 l4 l5 (1 : Int32) s0) else (f_X11_moveWord_86 wheel now store common low high register address status did ready trace l1 l2 l3 l4 l5 (0 : Int32) s0))))
set_option maxRecDepth 20000 in
theorem j_X11_moveWord_39 {l1 : Int32} {l2 : Int32} {l3 : Int32} {l4 : Int32} {l5 : Int32} {s0 : Int32} {refusal : Int32} {wheel : Int32} {now : Int32} {length : Int32} {at_ : Int32} {fault : Int32} {faultLine : Int32} {line : Int32} {words : Int32} {labels : Int32} {targets : Int32} {wrong : Int32} {unfit : Int32} {text : Nat → Int32} {code_ : Nat → Int32} {label : Nat → Int64} {labelWord : Nat → Int32} {target : Nat → Int64} {targetWord : Nat → Int32} {targetLine : Nat → Int32} {store : Nat → Int32} {common : Nat → Int32} {low : Nat → Int32} {high : Nat → Int32} {register : Nat → Int32} {address : Nat → Int32} {status : Nat → Int32} {did : Nat → Int32} {ready : Nat → Int32} {timer : Nat → Int32} {trace : Nat → Int32} {r_0 : Int32} {r_1 : (Nat → Int32)} {r_2 : (Nat → Int32)} {r_3 : (Nat → Int32)} {r_4 : (Nat → Int32)} {r_5 : (Nat → Int32)} {r_6 : (Nat → Int32)} {r_7 : (Nat → Int32)} {r_8 : (Nat → Int32)} (hres : (r_0, r_1, r_2, r_3, r_4, r_5, r_6, r_7, r_8) = (f_X11_moveWord_39 wheel now store common low high register address status did ready trace l1 l2 l3 l4 l5 s0)) (ht : 0 ≤ l1.toInt ∧ l1.toInt < 4) (hdid : ∀ j, j < 4 → 0 ≤ (did j).toInt) (hlh : ∀ j, j < 4 → 0 ≤ (low j).toInt ∧ (low j).toInt ≤ (high j).toInt ∧ (high j).toInt ≤ 64) (hwh : 1 ≤ wheel.toInt ∧ wheel.toInt ≤ 8) (hnow : 0 ≤ now.toInt ∧ now.toInt ≤ 1100000) (hs : 0 ≤ s0.toInt ∧ s0.toInt < 32) (h5 : 0 ≤ l5.toInt ∧ l5.toInt < 32) : G M_X11_moveWord 0 0 39 [(0, .ref 0), (1, .int l1), (2, .int l2), (3, .int l3), (4, .int l4), (5, .int l5)] [.int s0] (w_M refusal wheel now length at_ fault faultLine line words labels targets wrong unfit text code_ label labelWord target targetWord targetLine store common low high register address status did ready timer trace) (some (.int r_0)) (w_M refusal wheel now length at_ fault faultLine line words labels targets wrong unfit text code_ label labelWord target targetWord targetLine r_1 r_2 low high r_3 r_4 r_5 r_6 r_7 timer r_8) := by
  rw [f_X11_moveWord_39] at hres
  refine G.istore (pc := 39) (lv1 := [(6, .int s0), (0, .ref 0), (1, .int l1), (2, .int l2), (3, .int l3), (4, .int l4), (5, .int l5)]) dm_X11_moveWord_39 rfl rfl ?_
  refine G.iload_n (pc := 41) dm_X11_moveWord_41 rfl ?_
  refine G.if_eq (pc := 42) (tgt := 64) dm_X11_moveWord_42 (by decide) (fun c42 => ?_) (fun c42 => ?_)
  · rw [if_pos c42] at hres
    refine G.iload (pc := 64) dm_X11_moveWord_64 rfl ?_
    refine G.iconst (pc := 66) (v := (2 : Int32)) dm_X11_moveWord_66 qi_2 ?_
    refine G.icmp_eq (pc := 67) (tgt := 81) dm_X11_moveWord_67 (by decide) (fun c67 => ?_) (fun c67 => ?_)
    · rw [if_pos c67] at hres
      refine G.iconst (pc := 81) (v := (1 : Int32)) dm_X11_moveWord_81 qi_1 ?_
      refine G.goto (pc := 82) (tgt := 86) dm_X11_moveWord_82 (by decide) ?_
      refine G.lvp [1, 2, 3, 4, 5, 6, 0] rfl ?_
      exact j_X11_moveWord_86 hres (by first | assumption | exact q_31 _ | rfl) (by first | assumption | exact q_31 _ | rfl) (by first | assumption | exact q_31 _ | rfl) (by first | assumption | exact q_31 _ | rfl) (by first | assumption | exact q_31 _ | rfl) (by first | assumption | exact q_31 _ | rfl) (by first | assumption | exact q_31 _ | rfl)
    · rw [if_neg c67] at hres
      refine G.iload (pc := 70) dm_X11_moveWord_70 rfl ?_
      refine G.if_eq (pc := 72) (tgt := 81) dm_X11_moveWord_72 (by decide) (fun c72 => ?_) (fun c72 => ?_)
      · rw [if_pos c72] at hres
        refine G.iconst (pc := 81) (v := (1 : Int32)) dm_X11_moveWord_81 qi_1 ?_
        refine G.goto (pc := 82) (tgt := 86) dm_X11_moveWord_82 (by decide) ?_
        refine G.lvp [1, 2, 3, 4, 5, 6, 0] rfl ?_
        exact j_X11_moveWord_86 hres (by first | assumption | exact q_31 _ | rfl) (by first | assumption | exact q_31 _ | rfl) (by first | assumption | exact q_31 _ | rfl) (by first | assumption | exact q_31 _ | rfl) (by first | assumption | exact q_31 _ | rfl) (by first | assumption | exact q_31 _ | rfl) (by first | assumption | exact q_31 _ | rfl)
      · rw [if_neg c72] at hres
        refine G.iload (pc := 75) dm_X11_moveWord_75 rfl ?_
        refine G.iconst (pc := 77) (v := (4 : Int32)) dm_X11_moveWord_77 qi_4 ?_
        refine G.icmp_ne (pc := 78) (tgt := 85) dm_X11_moveWord_78 (by decide) (fun c78 => ?_) (fun c78 => ?_)
        · rw [if_neg c78] at hres
          refine G.iconst (pc := 85) (v := (0 : Int32)) dm_X11_moveWord_85 qi_0 ?_
          refine G.lvp [1, 2, 3, 4, 5, 6, 0] rfl ?_
          exact j_X11_moveWord_86 hres (by first | assumption | exact q_31 _ | rfl) (by first | assumption | exact q_31 _ | rfl) (by first | assumption | exact q_31 _ | rfl) (by first | assumption | exact q_31 _ | rfl) (by first | assumption | exact q_31 _ | rfl) (by first | assumption | exact q_31 _ | rfl) (by first | assumption | exact q_31 _ | rfl)
        · rw [if_pos c78] at hres
          refine G.iconst (pc := 81) (v := (1 : Int32)) dm_X11_moveWord_81 qi_1 ?_
          refine G.goto (pc := 82) (tgt := 86) dm_X11_moveWord_82 (by decide) ?_
          refine G.lvp [1, 2, 3, 4, 5, 6, 0] rfl ?_
          exact j_X11_moveWord_86 hres (by first | assumption | exact q_31 _ | rfl) (by first | assumption | exact q_31 _ | rfl) (by first | assumption | exact q_31 _ | rfl) (by first | assumption | exact q_31 _ | rfl) (by first | assumption | exact q_31 _ | rfl) (by first | assumption | exact q_31 _ | rfl) (by first | assumption | exact q_31 _ | rfl)
  · rw [if_neg c42] at hres
    refine G.iload (pc := 45) dm_X11_moveWord_45 rfl ?_
    refine G.iconst (pc := 47) (v := (2 : Int32)) dm_X11_moveWord_47 qi_2 ?_
    refine G.icmp_eq (pc := 48) (tgt := 56) dm_X11_moveWord_48 (by decide) (fun c48 => ?_) (fun c48 => ?_)
    · rw [if_pos c48] at hres
      refine G.iconst (pc := 56) (v := (1 : Int32)) dm_X11_moveWord_56 qi_1 ?_
      refine G.goto (pc := 57) (tgt := 86) dm_X11_moveWord_57 (by decide) ?_
      refine G.lvp [1, 2, 3, 4, 5, 6, 0] rfl ?_
      exact j_X11_moveWord_86 hres (by first | assumption | exact q_31 _ | rfl) (by first | assumption | exact q_31 _ | rfl) (by first | assumption | exact q_31 _ | rfl) (by first | assumption | exact q_31 _ | rfl) (by first | assumption | exact q_31 _ | rfl) (by first | assumption | exact q_31 _ | rfl) (by first | assumption | exact q_31 _ | rfl)
    · rw [if_neg c48] at hres
      refine G.iload (pc := 51) dm_X11_moveWord_51 rfl ?_
      refine G.if_ne (pc := 53) (tgt := 60) dm_X11_moveWord_53 (by decide) (fun c53 => ?_) (fun c53 => ?_)
      · rw [if_neg c53] at hres
        refine G.iconst (pc := 60) (v := (0 : Int32)) dm_X11_moveWord_60 qi_0 ?_
        refine G.goto (pc := 61) (tgt := 86) dm_X11_moveWord_61 (by decide) ?_
        refine G.lvp [1, 2, 3, 4, 5, 6, 0] rfl ?_
        exact j_X11_moveWord_86 hres (by first | assumption | exact q_31 _ | rfl) (by first | assumption | exact q_31 _ | rfl) (by first | assumption | exact q_31 _ | rfl) (by first | assumption | exact q_31 _ | rfl) (by first | assumption | exact q_31 _ | rfl) (by first | assumption | exact q_31 _ | rfl) (by first | assumption | exact q_31 _ | rfl)
      · rw [if_pos c53] at hres
        refine G.iconst (pc := 56) (v := (1 : Int32)) dm_X11_moveWord_56 qi_1 ?_
        refine G.goto (pc := 57) (tgt := 86) dm_X11_moveWord_57 (by decide) ?_
        refine G.lvp [1, 2, 3, 4, 5, 6, 0] rfl ?_
        exact j_X11_moveWord_86 hres (by first | assumption | exact q_31 _ | rfl) (by first | assumption | exact q_31 _ | rfl) (by first | assumption | exact q_31 _ | rfl) (by first | assumption | exact q_31 _ | rfl) (by first | assumption | exact q_31 _ | rfl) (by first | assumption | exact q_31 _ | rfl) (by first | assumption | exact q_31 _ | rfl)
def f_X11_moveWord (t : Int32) (w : Int32) (stores : Int32) (wheel : Int32) (now : Int32) (store : Nat → Int32) (common : Nat → Int32) (low : Nat → Int32) (high : Nat → Int32) (register : Nat → Int32) (address : Nat → Int32) (status : Nat → Int32) (did : Nat → Int32) (ready : Nat → Int32) (trace : Nat → Int32) : Int32 × (Nat → Int32) × (Nat → Int32) × (Nat → Int32) × (Nat → Int32) × (Nat → Int32) × (Nat → Int32) × (Nat → Int32) × (Nat → Int32) := (if stores = 0 then (f_X11_moveWord_39 wheel now store common low high register address status did ready trace t w stores ((w >>> ((12 : Int32) &&& 31)) &&& (7 : Int32)) ((w >>> ((15 : Int32) &&& 31)) &&& (31 : Int32)) ((w >>> ((7 : Int32) &&& 31)) &&& (31 : Int32))) else (f_X11_moveWord_39 wheel now store common low high register address status did ready trace t w stores ((w >>> ((12 : Int32) &&& 31)) &&& (7 : Int32)) ((w >>> ((15 : Int32) &&& 31)) &&& (31 : Int32)) ((w >>> ((20 : Int32) &&& 31)) &&& (31 : Int32))))
set_option maxRecDepth 20000 in
theorem k_X11_moveWord {t : Int32} {w : Int32} {stores : Int32} {refusal : Int32} {wheel : Int32} {now : Int32} {length : Int32} {at_ : Int32} {fault : Int32} {faultLine : Int32} {line : Int32} {words : Int32} {labels : Int32} {targets : Int32} {wrong : Int32} {unfit : Int32} {text : Nat → Int32} {code_ : Nat → Int32} {label : Nat → Int64} {labelWord : Nat → Int32} {target : Nat → Int64} {targetWord : Nat → Int32} {targetLine : Nat → Int32} {store : Nat → Int32} {common : Nat → Int32} {low : Nat → Int32} {high : Nat → Int32} {register : Nat → Int32} {address : Nat → Int32} {status : Nat → Int32} {did : Nat → Int32} {ready : Nat → Int32} {timer : Nat → Int32} {trace : Nat → Int32} (ht : 0 ≤ t.toInt ∧ t.toInt < 4) (hdid : ∀ j, j < 4 → 0 ≤ (did j).toInt) (hlh : ∀ j, j < 4 → 0 ≤ (low j).toInt ∧ (low j).toInt ≤ (high j).toInt ∧ (high j).toInt ≤ 64) (hwh : 1 ≤ wheel.toInt ∧ wheel.toInt ≤ 8) (hnow : 0 ≤ now.toInt ∧ now.toInt ≤ 1100000) {r_0 : Int32} {r_1 : (Nat → Int32)} {r_2 : (Nat → Int32)} {r_3 : (Nat → Int32)} {r_4 : (Nat → Int32)} {r_5 : (Nat → Int32)} {r_6 : (Nat → Int32)} {r_7 : (Nat → Int32)} {r_8 : (Nat → Int32)} (hres : (r_0, r_1, r_2, r_3, r_4, r_5, r_6, r_7, r_8) = f_X11_moveWord t w stores wheel now store common low high register address status did ready trace) : K M_X11_moveWord yX11_moveWord [.ref 0, .int t, .int w, .int stores] (w_M refusal wheel now length at_ fault faultLine line words labels targets wrong unfit text code_ label labelWord target targetWord targetLine store common low high register address status did ready timer trace) (some (.int r_0)) (w_M refusal wheel now length at_ fault faultLine line words labels targets wrong unfit text code_ label labelWord target targetWord targetLine r_1 r_2 low high r_3 r_4 r_5 r_6 r_7 timer r_8) := by
  refine K.of (lv := [(0, .ref 0), (1, .int t), (2, .int w), (3, .int stores)]) (by decide +kernel) rfl rfl rfl ?_
  rw [f_X11_moveWord] at hres
  refine G.iload_n (pc := 0) dm_X11_moveWord_0 rfl ?_
  refine G.bipush (pc := 1) (v := (12 : Int32)) dm_X11_moveWord_1 qb_12 ?_
  refine G.ishr (pc := 3) dm_X11_moveWord_3 ?_
  refine G.bipush (pc := 4) (v := (7 : Int32)) dm_X11_moveWord_4 qb_7 ?_
  refine G.iand (pc := 6) dm_X11_moveWord_6 ?_
  refine G.istore (pc := 7) (lv1 := [(4, .int ((w >>> ((12 : Int32) &&& 31)) &&& (7 : Int32))), (0, .ref 0), (1, .int t), (2, .int w), (3, .int stores)]) dm_X11_moveWord_7 rfl rfl ?_
  refine G.iload_n (pc := 9) dm_X11_moveWord_9 rfl ?_
  refine G.bipush (pc := 10) (v := (15 : Int32)) dm_X11_moveWord_10 qb_15 ?_
  refine G.ishr (pc := 12) dm_X11_moveWord_12 ?_
  refine G.bipush (pc := 13) (v := (31 : Int32)) dm_X11_moveWord_13 qb_31 ?_
  refine G.iand (pc := 15) dm_X11_moveWord_15 ?_
  refine G.istore (pc := 16) (lv1 := [(5, .int ((w >>> ((15 : Int32) &&& 31)) &&& (31 : Int32))), (4, .int ((w >>> ((12 : Int32) &&& 31)) &&& (7 : Int32))), (0, .ref 0), (1, .int t), (2, .int w), (3, .int stores)]) dm_X11_moveWord_16 rfl rfl ?_
  refine G.iload_n (pc := 18) dm_X11_moveWord_18 rfl ?_
  refine G.if_eq (pc := 19) (tgt := 32) dm_X11_moveWord_19 (by decide) (fun c19 => ?_) (fun c19 => ?_)
  · rw [if_pos c19] at hres
    refine G.iload_n (pc := 32) dm_X11_moveWord_32 rfl ?_
    refine G.bipush (pc := 33) (v := (7 : Int32)) dm_X11_moveWord_33 qb_7 ?_
    refine G.ishr (pc := 35) dm_X11_moveWord_35 ?_
    refine G.bipush (pc := 36) (v := (31 : Int32)) dm_X11_moveWord_36 qb_31 ?_
    refine G.iand (pc := 38) dm_X11_moveWord_38 ?_
    refine G.lvp [2, 3, 4, 5, 1, 0] rfl ?_
    exact j_X11_moveWord_39 hres (by first | assumption | exact q_31 _ | rfl) (by first | assumption | exact q_31 _ | rfl) (by first | assumption | exact q_31 _ | rfl) (by first | assumption | exact q_31 _ | rfl) (by first | assumption | exact q_31 _ | rfl) (by first | assumption | exact q_31 _ | rfl) (by first | assumption | exact q_31 _ | rfl)
  · rw [if_neg c19] at hres
    refine G.iload_n (pc := 22) dm_X11_moveWord_22 rfl ?_
    refine G.bipush (pc := 23) (v := (20 : Int32)) dm_X11_moveWord_23 qb_20 ?_
    refine G.ishr (pc := 25) dm_X11_moveWord_25 ?_
    refine G.bipush (pc := 26) (v := (31 : Int32)) dm_X11_moveWord_26 qb_31 ?_
    refine G.iand (pc := 28) dm_X11_moveWord_28 ?_
    refine G.goto (pc := 29) (tgt := 39) dm_X11_moveWord_29 (by decide) ?_
    refine G.lvp [2, 3, 4, 5, 1, 0] rfl ?_
    exact j_X11_moveWord_39 hres (by first | assumption | exact q_31 _ | rfl) (by first | assumption | exact q_31 _ | rfl) (by first | assumption | exact q_31 _ | rfl) (by first | assumption | exact q_31 _ | rfl) (by first | assumption | exact q_31 _ | rfl) (by first | assumption | exact q_31 _ | rfl) (by first | assumption | exact q_31 _ | rfl)
abbrev M_X11_calculate : g_M := (cX11_calculate, 13, RX11, (some .int), { frames := 2, cells := 0, slots := 0, locals := 44 }, 0, 0)
theorem dm_X11_calculate_0 : decode M_X11_calculate.1 0 = .ok (.iload_n 2, 1) := by decide +kernel
theorem dm_X11_calculate_1 : decode M_X11_calculate.1 1 = .ok (.bipush 12, 2) := by decide +kernel
theorem dm_X11_calculate_3 : decode M_X11_calculate.1 3 = .ok (.ishr, 1) := by decide +kernel
theorem dm_X11_calculate_4 : decode M_X11_calculate.1 4 = .ok (.bipush 7, 2) := by decide +kernel
theorem dm_X11_calculate_6 : decode M_X11_calculate.1 6 = .ok (.iand, 1) := by decide +kernel
theorem dm_X11_calculate_7 : decode M_X11_calculate.1 7 = .ok (.istore 4, 2) := by decide +kernel
theorem dm_X11_calculate_9 : decode M_X11_calculate.1 9 = .ok (.iload_n 2, 1) := by decide +kernel
theorem dm_X11_calculate_10 : decode M_X11_calculate.1 10 = .ok (.bipush 7, 2) := by decide +kernel
theorem dm_X11_calculate_12 : decode M_X11_calculate.1 12 = .ok (.ishr, 1) := by decide +kernel
theorem dm_X11_calculate_13 : decode M_X11_calculate.1 13 = .ok (.bipush 31, 2) := by decide +kernel
theorem dm_X11_calculate_15 : decode M_X11_calculate.1 15 = .ok (.iand, 1) := by decide +kernel
theorem dm_X11_calculate_16 : decode M_X11_calculate.1 16 = .ok (.istore 5, 2) := by decide +kernel
theorem dm_X11_calculate_18 : decode M_X11_calculate.1 18 = .ok (.iload_n 2, 1) := by decide +kernel
theorem dm_X11_calculate_19 : decode M_X11_calculate.1 19 = .ok (.bipush 15, 2) := by decide +kernel
theorem dm_X11_calculate_21 : decode M_X11_calculate.1 21 = .ok (.ishr, 1) := by decide +kernel
theorem dm_X11_calculate_22 : decode M_X11_calculate.1 22 = .ok (.bipush 31, 2) := by decide +kernel
theorem dm_X11_calculate_24 : decode M_X11_calculate.1 24 = .ok (.iand, 1) := by decide +kernel
theorem dm_X11_calculate_25 : decode M_X11_calculate.1 25 = .ok (.istore 6, 2) := by decide +kernel
theorem dm_X11_calculate_27 : decode M_X11_calculate.1 27 = .ok (.iload_n 2, 1) := by decide +kernel
theorem dm_X11_calculate_28 : decode M_X11_calculate.1 28 = .ok (.bipush 20, 2) := by decide +kernel
theorem dm_X11_calculate_30 : decode M_X11_calculate.1 30 = .ok (.ishr, 1) := by decide +kernel
theorem dm_X11_calculate_31 : decode M_X11_calculate.1 31 = .ok (.bipush 31, 2) := by decide +kernel
theorem dm_X11_calculate_33 : decode M_X11_calculate.1 33 = .ok (.iand, 1) := by decide +kernel
theorem dm_X11_calculate_34 : decode M_X11_calculate.1 34 = .ok (.istore 7, 2) := by decide +kernel
theorem dm_X11_calculate_36 : decode M_X11_calculate.1 36 = .ok (.iload_n 2, 1) := by decide +kernel
theorem dm_X11_calculate_37 : decode M_X11_calculate.1 37 = .ok (.bipush 25, 2) := by decide +kernel
theorem dm_X11_calculate_39 : decode M_X11_calculate.1 39 = .ok (.iushr, 1) := by decide +kernel
theorem dm_X11_calculate_40 : decode M_X11_calculate.1 40 = .ok (.istore 8, 2) := by decide +kernel
theorem dm_X11_calculate_42 : decode M_X11_calculate.1 42 = .ok (.iload 4, 2) := by decide +kernel
theorem dm_X11_calculate_44 : decode M_X11_calculate.1 44 = .ok (.iconst 1, 1) := by decide +kernel
theorem dm_X11_calculate_45 : decode M_X11_calculate.1 45 = .ok (.if_icmp .eq 9, 3) := by decide +kernel
theorem dm_X11_calculate_48 : decode M_X11_calculate.1 48 = .ok (.iload 4, 2) := by decide +kernel
theorem dm_X11_calculate_50 : decode M_X11_calculate.1 50 = .ok (.iconst 5, 1) := by decide +kernel
theorem dm_X11_calculate_51 : decode M_X11_calculate.1 51 = .ok (.if_icmp .ne 7, 3) := by decide +kernel
theorem dm_X11_calculate_54 : decode M_X11_calculate.1 54 = .ok (.iconst 1, 1) := by decide +kernel
theorem dm_X11_calculate_55 : decode M_X11_calculate.1 55 = .ok (.goto 4, 3) := by decide +kernel
theorem dm_X11_calculate_58 : decode M_X11_calculate.1 58 = .ok (.iconst 0, 1) := by decide +kernel
theorem dm_X11_calculate_59 : decode M_X11_calculate.1 59 = .ok (.istore 9, 2) := by decide +kernel
theorem dm_X11_calculate_61 : decode M_X11_calculate.1 61 = .ok (.iload 8, 2) := by decide +kernel
theorem dm_X11_calculate_63 : decode M_X11_calculate.1 63 = .ok (.bipush 32, 2) := by decide +kernel
theorem dm_X11_calculate_65 : decode M_X11_calculate.1 65 = .ok (.if_icmp .ne 22, 3) := by decide +kernel
theorem dm_X11_calculate_68 : decode M_X11_calculate.1 68 = .ok (.iload 4, 2) := by decide +kernel
theorem dm_X11_calculate_70 : decode M_X11_calculate.1 70 = .ok (.iconst 5, 1) := by decide +kernel
theorem dm_X11_calculate_71 : decode M_X11_calculate.1 71 = .ok (.if_icmp .eq 12, 3) := by decide +kernel
theorem dm_X11_calculate_74 : decode M_X11_calculate.1 74 = .ok (.iload_n 3, 1) := by decide +kernel
theorem dm_X11_calculate_75 : decode M_X11_calculate.1 75 = .ok (.ifCond .eq 12, 3) := by decide +kernel
theorem dm_X11_calculate_78 : decode M_X11_calculate.1 78 = .ok (.iload 4, 2) := by decide +kernel
theorem dm_X11_calculate_80 : decode M_X11_calculate.1 80 = .ok (.ifCond .ne 7, 3) := by decide +kernel
theorem dm_X11_calculate_83 : decode M_X11_calculate.1 83 = .ok (.iconst 1, 1) := by decide +kernel
theorem dm_X11_calculate_84 : decode M_X11_calculate.1 84 = .ok (.goto 4, 3) := by decide +kernel
theorem dm_X11_calculate_87 : decode M_X11_calculate.1 87 = .ok (.iconst 0, 1) := by decide +kernel
theorem dm_X11_calculate_88 : decode M_X11_calculate.1 88 = .ok (.istore 10, 2) := by decide +kernel
theorem dm_X11_calculate_90 : decode M_X11_calculate.1 90 = .ok (.iload_n 3, 1) := by decide +kernel
theorem dm_X11_calculate_91 : decode M_X11_calculate.1 91 = .ok (.ifCond .ne 8, 3) := by decide +kernel
theorem dm_X11_calculate_94 : decode M_X11_calculate.1 94 = .ok (.iload 9, 2) := by decide +kernel
theorem dm_X11_calculate_96 : decode M_X11_calculate.1 96 = .ok (.ifCond .eq 13, 3) := by decide +kernel
theorem dm_X11_calculate_99 : decode M_X11_calculate.1 99 = .ok (.iload 8, 2) := by decide +kernel
theorem dm_X11_calculate_101 : decode M_X11_calculate.1 101 = .ok (.ifCond .eq 8, 3) := by decide +kernel
theorem dm_X11_calculate_104 : decode M_X11_calculate.1 104 = .ok (.iload 10, 2) := by decide +kernel
theorem dm_X11_calculate_106 : decode M_X11_calculate.1 106 = .ok (.ifCond .eq 7, 3) := by decide +kernel
theorem dm_X11_calculate_109 : decode M_X11_calculate.1 109 = .ok (.iconst 1, 1) := by decide +kernel
theorem dm_X11_calculate_110 : decode M_X11_calculate.1 110 = .ok (.goto 4, 3) := by decide +kernel
theorem dm_X11_calculate_113 : decode M_X11_calculate.1 113 = .ok (.iconst 0, 1) := by decide +kernel
theorem dm_X11_calculate_114 : decode M_X11_calculate.1 114 = .ok (.istore 11, 2) := by decide +kernel
theorem dm_X11_calculate_116 : decode M_X11_calculate.1 116 = .ok (.iload 11, 2) := by decide +kernel
theorem dm_X11_calculate_118 : decode M_X11_calculate.1 118 = .ok (.ifCond .eq 28, 3) := by decide +kernel
theorem dm_X11_calculate_121 : decode M_X11_calculate.1 121 = .ok (.iload 5, 2) := by decide +kernel
theorem dm_X11_calculate_123 : decode M_X11_calculate.1 123 = .ok (.bipush 15, 2) := by decide +kernel
theorem dm_X11_calculate_125 : decode M_X11_calculate.1 125 = .ok (.if_icmp .gt 21, 3) := by decide +kernel
theorem dm_X11_calculate_128 : decode M_X11_calculate.1 128 = .ok (.iload 6, 2) := by decide +kernel
theorem dm_X11_calculate_130 : decode M_X11_calculate.1 130 = .ok (.bipush 15, 2) := by decide +kernel
theorem dm_X11_calculate_132 : decode M_X11_calculate.1 132 = .ok (.if_icmp .gt 14, 3) := by decide +kernel
theorem dm_X11_calculate_135 : decode M_X11_calculate.1 135 = .ok (.iload_n 3, 1) := by decide +kernel
theorem dm_X11_calculate_136 : decode M_X11_calculate.1 136 = .ok (.ifCond .eq 16, 3) := by decide +kernel
theorem dm_X11_calculate_139 : decode M_X11_calculate.1 139 = .ok (.iload 7, 2) := by decide +kernel
theorem dm_X11_calculate_141 : decode M_X11_calculate.1 141 = .ok (.bipush 15, 2) := by decide +kernel
theorem dm_X11_calculate_143 : decode M_X11_calculate.1 143 = .ok (.if_icmp .le 9, 3) := by decide +kernel
theorem dm_X11_calculate_146 : decode M_X11_calculate.1 146 = .ok (.aload_n 0, 1) := by decide +kernel
theorem dm_X11_calculate_147 : decode M_X11_calculate.1 147 = .ok (.iload_n 1, 1) := by decide +kernel
theorem dm_X11_calculate_148 : decode M_X11_calculate.1 148 = .ok (.invokevirtual 299, 3) := by decide +kernel
theorem dm_X11_calculate_151 : decode M_X11_calculate.1 151 = .ok (.ireturn, 1) := by decide +kernel
theorem dm_X11_calculate_152 : decode M_X11_calculate.1 152 = .ok (.iload_n 3, 1) := by decide +kernel
theorem dm_X11_calculate_153 : decode M_X11_calculate.1 153 = .ok (.ifCond .eq 18, 3) := by decide +kernel
theorem dm_X11_calculate_156 : decode M_X11_calculate.1 156 = .ok (.aload_n 0, 1) := by decide +kernel
theorem dm_X11_calculate_157 : decode M_X11_calculate.1 157 = .ok (.getfield 45, 3) := by decide +kernel
theorem dm_X11_calculate_160 : decode M_X11_calculate.1 160 = .ok (.bipush 16, 2) := by decide +kernel
theorem dm_X11_calculate_162 : decode M_X11_calculate.1 162 = .ok (.iload_n 1, 1) := by decide +kernel
theorem dm_X11_calculate_163 : decode M_X11_calculate.1 163 = .ok (.imul, 1) := by decide +kernel
theorem dm_X11_calculate_164 : decode M_X11_calculate.1 164 = .ok (.iload 7, 2) := by decide +kernel
theorem dm_X11_calculate_166 : decode M_X11_calculate.1 166 = .ok (.iadd, 1) := by decide +kernel
theorem dm_X11_calculate_167 : decode M_X11_calculate.1 167 = .ok (.iaload, 1) := by decide +kernel
theorem dm_X11_calculate_168 : decode M_X11_calculate.1 168 = .ok (.goto 17, 3) := by decide +kernel
theorem dm_X11_calculate_171 : decode M_X11_calculate.1 171 = .ok (.iload 9, 2) := by decide +kernel
theorem dm_X11_calculate_173 : decode M_X11_calculate.1 173 = .ok (.ifCond .eq 8, 3) := by decide +kernel
theorem dm_X11_calculate_176 : decode M_X11_calculate.1 176 = .ok (.iload 7, 2) := by decide +kernel
theorem dm_X11_calculate_178 : decode M_X11_calculate.1 178 = .ok (.goto 7, 3) := by decide +kernel
theorem dm_X11_calculate_181 : decode M_X11_calculate.1 181 = .ok (.iload_n 2, 1) := by decide +kernel
theorem dm_X11_calculate_182 : decode M_X11_calculate.1 182 = .ok (.bipush 20, 2) := by decide +kernel
theorem dm_X11_calculate_184 : decode M_X11_calculate.1 184 = .ok (.ishr, 1) := by decide +kernel
theorem dm_X11_calculate_185 : decode M_X11_calculate.1 185 = .ok (.istore 12, 2) := by decide +kernel
theorem dm_X11_calculate_187 : decode M_X11_calculate.1 187 = .ok (.aload_n 0, 1) := by decide +kernel
theorem dm_X11_calculate_188 : decode M_X11_calculate.1 188 = .ok (.iload_n 1, 1) := by decide +kernel
theorem dm_X11_calculate_189 : decode M_X11_calculate.1 189 = .ok (.iload 5, 2) := by decide +kernel
theorem dm_X11_calculate_191 : decode M_X11_calculate.1 191 = .ok (.iload 4, 2) := by decide +kernel
theorem dm_X11_calculate_193 : decode M_X11_calculate.1 193 = .ok (.iload 10, 2) := by decide +kernel
theorem dm_X11_calculate_195 : decode M_X11_calculate.1 195 = .ok (.aload_n 0, 1) := by decide +kernel
theorem dm_X11_calculate_196 : decode M_X11_calculate.1 196 = .ok (.getfield 45, 3) := by decide +kernel
theorem dm_X11_calculate_199 : decode M_X11_calculate.1 199 = .ok (.bipush 16, 2) := by decide +kernel
theorem dm_X11_calculate_201 : decode M_X11_calculate.1 201 = .ok (.iload_n 1, 1) := by decide +kernel
theorem dm_X11_calculate_202 : decode M_X11_calculate.1 202 = .ok (.imul, 1) := by decide +kernel
theorem dm_X11_calculate_203 : decode M_X11_calculate.1 203 = .ok (.iload 6, 2) := by decide +kernel
theorem dm_X11_calculate_205 : decode M_X11_calculate.1 205 = .ok (.iadd, 1) := by decide +kernel
theorem dm_X11_calculate_206 : decode M_X11_calculate.1 206 = .ok (.iaload, 1) := by decide +kernel
theorem dm_X11_calculate_207 : decode M_X11_calculate.1 207 = .ok (.iload 12, 2) := by decide +kernel
theorem dm_X11_calculate_209 : decode M_X11_calculate.1 209 = .ok (.invokestatic 323, 3) := by decide +kernel
theorem dm_X11_calculate_212 : decode M_X11_calculate.1 212 = .ok (.invokevirtual 313, 3) := by decide +kernel
theorem dm_X11_calculate_215 : decode M_X11_calculate.1 215 = .ok (.aload_n 0, 1) := by decide +kernel
theorem dm_X11_calculate_216 : decode M_X11_calculate.1 216 = .ok (.iload_n 1, 1) := by decide +kernel
theorem dm_X11_calculate_217 : decode M_X11_calculate.1 217 = .ok (.aload_n 0, 1) := by decide +kernel
theorem dm_X11_calculate_218 : decode M_X11_calculate.1 218 = .ok (.getfield 48, 3) := by decide +kernel
theorem dm_X11_calculate_221 : decode M_X11_calculate.1 221 = .ok (.iload_n 1, 1) := by decide +kernel
theorem dm_X11_calculate_222 : decode M_X11_calculate.1 222 = .ok (.iaload, 1) := by decide +kernel
theorem dm_X11_calculate_223 : decode M_X11_calculate.1 223 = .ok (.iconst 4, 1) := by decide +kernel
theorem dm_X11_calculate_224 : decode M_X11_calculate.1 224 = .ok (.iadd, 1) := by decide +kernel
theorem dm_X11_calculate_225 : decode M_X11_calculate.1 225 = .ok (.aload_n 0, 1) := by decide +kernel
theorem dm_X11_calculate_226 : decode M_X11_calculate.1 226 = .ok (.getfield 291, 3) := by decide +kernel
theorem dm_X11_calculate_229 : decode M_X11_calculate.1 229 = .ok (.iconst 4, 1) := by decide +kernel
theorem dm_X11_calculate_230 : decode M_X11_calculate.1 230 = .ok (.iadd, 1) := by decide +kernel
theorem dm_X11_calculate_231 : decode M_X11_calculate.1 231 = .ok (.invokevirtual 319, 3) := by decide +kernel
theorem dm_X11_calculate_234 : decode M_X11_calculate.1 234 = .ok (.ireturn, 1) := by decide +kernel
theorem gc_X11_calculate_299 : g_cv M_X11_calculate 299 M_X11_stop yX11_stop 1 := ⟨tw772, tw773, tw774, tw5, tw775, ⟨rfl, rfl, rfl, rfl⟩, gd_X11_stop, ⟨by decide, by decide⟩⟩
theorem gc_X11_calculate_323 : g_cs M_X11_calculate 323 M_X11_worked yX11_worked 4 := ⟨tw823, tw824, tw5, tw825, ⟨rfl, rfl, rfl, rfl⟩, gd_X11_worked, ⟨by decide, by decide⟩⟩
theorem gc_X11_calculate_313 : g_cv M_X11_calculate 313 M_X11_set yX11_set 3 := ⟨tw776, tw777, tw778, tw5, tw779, ⟨rfl, rfl, rfl, rfl⟩, gd_X11_set, ⟨by decide, by decide⟩⟩
theorem gc_X11_calculate_319 : g_cv M_X11_calculate 319 M_X11_done yX11_done 3 := ⟨tw780, tw781, tw782, tw5, tw783, ⟨rfl, rfl, rfl, rfl⟩, gd_X11_done, ⟨by decide, by decide⟩⟩
def f_X11_calculate_c148 (register : Nat → Int32) (address : Nat → Int32) (did : Nat → Int32) (ready : Nat → Int32) (trace : Nat → Int32) (z1_0 : Int32) (z1_1 : (Nat → Int32)) : Int32 × (Nat → Int32) × (Nat → Int32) × (Nat → Int32) × (Nat → Int32) × (Nat → Int32) × (Nat → Int32) := (z1_0, register, address, z1_1, did, ready, trace)
def f_X11_calculate_146 (register : Nat → Int32) (address : Nat → Int32) (status : Nat → Int32) (did : Nat → Int32) (ready : Nat → Int32) (trace : Nat → Int32) (l1 : Int32) : Int32 × (Nat → Int32) × (Nat → Int32) × (Nat → Int32) × (Nat → Int32) × (Nat → Int32) × (Nat → Int32) := (f_X11_calculate_c148 register address did ready trace (f_X11_stop l1 status).1 (f_X11_stop l1 status).2)
set_option maxRecDepth 20000 in
theorem j_X11_calculate_146 {l1 : Int32} {refusal : Int32} {wheel : Int32} {now : Int32} {length : Int32} {at_ : Int32} {fault : Int32} {faultLine : Int32} {line : Int32} {words : Int32} {labels : Int32} {targets : Int32} {wrong : Int32} {unfit : Int32} {text : Nat → Int32} {code_ : Nat → Int32} {label : Nat → Int64} {labelWord : Nat → Int32} {target : Nat → Int64} {targetWord : Nat → Int32} {targetLine : Nat → Int32} {store : Nat → Int32} {common : Nat → Int32} {low : Nat → Int32} {high : Nat → Int32} {register : Nat → Int32} {address : Nat → Int32} {status : Nat → Int32} {did : Nat → Int32} {ready : Nat → Int32} {timer : Nat → Int32} {trace : Nat → Int32} {r_0 : Int32} {r_1 : (Nat → Int32)} {r_2 : (Nat → Int32)} {r_3 : (Nat → Int32)} {r_4 : (Nat → Int32)} {r_5 : (Nat → Int32)} {r_6 : (Nat → Int32)} (hres : (r_0, r_1, r_2, r_3, r_4, r_5, r_6) = (f_X11_calculate_146 register address status did ready trace l1)) (ht : 0 ≤ l1.toInt ∧ l1.toInt < 4) : G M_X11_calculate 0 0 146 [(0, .ref 0), (1, .int l1)] [] (w_M refusal wheel now length at_ fault faultLine line words labels targets wrong unfit text code_ label labelWord target targetWord targetLine store common low high register address status did ready timer trace) (some (.int r_0)) (w_M refusal wheel now length at_ fault faultLine line words labels targets wrong unfit text code_ label labelWord target targetWord targetLine store common low high r_1 r_2 r_3 r_4 r_5 timer r_6) := by
  rw [f_X11_calculate_146] at hres
  refine G.aload_n (pc := 146) dm_X11_calculate_146 rfl ?_
  refine G.iload_n (pc := 147) dm_X11_calculate_147 rfl ?_
  obtain ⟨z1_0, z1_1, hz1⟩ : ∃ (z1_0 : Int32) (z1_1 : (Nat → Int32)), (z1_0, z1_1) = f_X11_stop l1 status := ⟨_, _, rfl⟩
  refine G.callV0 (pc := 148) (rest := []) (st1 := [.int z1_0]) dm_X11_calculate_148 gc_X11_calculate_299 (k_X11_stop (t := l1) (refusal := refusal) (wheel := wheel) (now := now) (length := length) (at_ := at_) (fault := fault) (faultLine := faultLine) (line := line) (words := words) (labels := labels) (targets := targets) (wrong := wrong) (unfit := unfit) (text := text) (code_ := code_) (label := label) (labelWord := labelWord) (target := target) (targetWord := targetWord) (targetLine := targetLine) (store := store) (common := common) (low := low) (high := high) (register := register) (address := address) (status := status) (did := did) (ready := ready) (timer := timer) (trace := trace) (by first | assumption | exact q_31 _) hz1) rfl rfl rfl rfl rfl rfl rfl rfl ?_
  replace hres : (r_0, r_1, r_2, r_3, r_4, r_5, r_6) = f_X11_calculate_c148 register address did ready trace z1_0 z1_1 := hres.trans (by rw [← hz1])
  rw [f_X11_calculate_c148] at hres
  cases hres
  exact G.ireturn (pc := 151) dm_X11_calculate_151 rfl rfl rfl
def f_X11_calculate_c231 (status : Nat → Int32) (z3_0 : (Nat → Int32)) (z4_0 : Int32) (z4_1 : (Nat → Int32)) (z4_2 : (Nat → Int32)) (z4_3 : (Nat → Int32)) (z4_4 : (Nat → Int32)) : Int32 × (Nat → Int32) × (Nat → Int32) × (Nat → Int32) × (Nat → Int32) × (Nat → Int32) × (Nat → Int32) := (z4_0, z3_0, z4_1, status, z4_2, z4_3, z4_4)
def f_X11_calculate_c212 (now : Int32) (address : Nat → Int32) (status : Nat → Int32) (did : Nat → Int32) (ready : Nat → Int32) (trace : Nat → Int32) (l1 : Int32) (z3_0 : (Nat → Int32)) : Int32 × (Nat → Int32) × (Nat → Int32) × (Nat → Int32) × (Nat → Int32) × (Nat → Int32) × (Nat → Int32) := (f_X11_calculate_c231 status z3_0 (f_X11_done l1 ((address (Int32.toNatClampNeg l1)) + (4 : Int32)) (now + (4 : Int32)) now address did ready trace).1 (f_X11_done l1 ((address (Int32.toNatClampNeg l1)) + (4 : Int32)) (now + (4 : Int32)) now address did ready trace).2.1 (f_X11_done l1 ((address (Int32.toNatClampNeg l1)) + (4 : Int32)) (now + (4 : Int32)) now address did ready trace).2.2.1 (f_X11_done l1 ((address (Int32.toNatClampNeg l1)) + (4 : Int32)) (now + (4 : Int32)) now address did ready trace).2.2.2.1 (f_X11_done l1 ((address (Int32.toNatClampNeg l1)) + (4 : Int32)) (now + (4 : Int32)) now address did ready trace).2.2.2.2)
def f_X11_calculate_c209 (now : Int32) (register : Nat → Int32) (address : Nat → Int32) (status : Nat → Int32) (did : Nat → Int32) (ready : Nat → Int32) (trace : Nat → Int32) (l1 : Int32) (l5 : Int32) (z2_0 : Int32) : Int32 × (Nat → Int32) × (Nat → Int32) × (Nat → Int32) × (Nat → Int32) × (Nat → Int32) × (Nat → Int32) := (f_X11_calculate_c212 now address status did ready trace l1 (f_X11_set l1 l5 z2_0 register))
def f_X11_calculate_185 (now : Int32) (register : Nat → Int32) (address : Nat → Int32) (status : Nat → Int32) (did : Nat → Int32) (ready : Nat → Int32) (trace : Nat → Int32) (l1 : Int32) (l4 : Int32) (l5 : Int32) (l6 : Int32) (s0 : Int32) (l10 : Int32) : Int32 × (Nat → Int32) × (Nat → Int32) × (Nat → Int32) × (Nat → Int32) × (Nat → Int32) × (Nat → Int32) := (f_X11_calculate_c209 now register address status did ready trace l1 l5 (f_X11_worked l4 l10 (register (Int32.toNatClampNeg (((16 : Int32) * l1) + l6))) s0))
set_option maxRecDepth 20000 in
theorem j_X11_calculate_185 {l1 : Int32} {l4 : Int32} {l5 : Int32} {l6 : Int32} {l10 : Int32} {s0 : Int32} {refusal : Int32} {wheel : Int32} {now : Int32} {length : Int32} {at_ : Int32} {fault : Int32} {faultLine : Int32} {line : Int32} {words : Int32} {labels : Int32} {targets : Int32} {wrong : Int32} {unfit : Int32} {text : Nat → Int32} {code_ : Nat → Int32} {label : Nat → Int64} {labelWord : Nat → Int32} {target : Nat → Int64} {targetWord : Nat → Int32} {targetLine : Nat → Int32} {store : Nat → Int32} {common : Nat → Int32} {low : Nat → Int32} {high : Nat → Int32} {register : Nat → Int32} {address : Nat → Int32} {status : Nat → Int32} {did : Nat → Int32} {ready : Nat → Int32} {timer : Nat → Int32} {trace : Nat → Int32} {r_0 : Int32} {r_1 : (Nat → Int32)} {r_2 : (Nat → Int32)} {r_3 : (Nat → Int32)} {r_4 : (Nat → Int32)} {r_5 : (Nat → Int32)} {r_6 : (Nat → Int32)} (hres : (r_0, r_1, r_2, r_3, r_4, r_5, r_6) = (f_X11_calculate_185 now register address status did ready trace l1 l4 l5 l6 s0 l10)) (ht : 0 ≤ l1.toInt ∧ l1.toInt < 4) (hdid : ∀ j, j < 4 → 0 ≤ (did j).toInt) (h5 : 0 ≤ l5.toInt ∧ l5.toInt < 16) (h6 : 0 ≤ l6.toInt ∧ l6.toInt < 16) : G M_X11_calculate 0 0 185 [(0, .ref 0), (1, .int l1), (4, .int l4), (5, .int l5), (6, .int l6), (10, .int l10)] [.int s0] (w_M refusal wheel now length at_ fault faultLine line words labels targets wrong unfit text code_ label labelWord target targetWord targetLine store common low high register address status did ready timer trace) (some (.int r_0)) (w_M refusal wheel now length at_ fault faultLine line words labels targets wrong unfit text code_ label labelWord target targetWord targetLine store common low high r_1 r_2 r_3 r_4 r_5 timer r_6) := by
  rw [f_X11_calculate_185] at hres
  refine G.istore (pc := 185) (lv1 := [(12, .int s0), (0, .ref 0), (1, .int l1), (4, .int l4), (5, .int l5), (6, .int l6), (10, .int l10)]) dm_X11_calculate_185 rfl rfl ?_
  refine G.aload_n (pc := 187) dm_X11_calculate_187 rfl ?_
  refine G.iload_n (pc := 188) dm_X11_calculate_188 rfl ?_
  refine G.iload (pc := 189) dm_X11_calculate_189 rfl ?_
  refine G.iload (pc := 191) dm_X11_calculate_191 rfl ?_
  refine G.iload (pc := 193) dm_X11_calculate_193 rfl ?_
  refine G.aload_n (pc := 195) dm_X11_calculate_195 rfl ?_
  refine G.getfield (pc := 196) dm_X11_calculate_196 gf_X11_45 rfl rfl ?_
  refine G.bipush (pc := 199) (v := (16 : Int32)) dm_X11_calculate_199 qb_16 ?_
  refine G.iload_n (pc := 201) dm_X11_calculate_201 rfl ?_
  refine G.imul (pc := 202) dm_X11_calculate_202 ?_
  refine G.iload (pc := 203) dm_X11_calculate_203 rfl ?_
  refine G.iadd (pc := 205) dm_X11_calculate_205 ?_
  refine G.iaload (pc := 206) dm_X11_calculate_206 rfl (q_i16 ht h6) ?_
  refine G.iload (pc := 207) dm_X11_calculate_207 rfl ?_
  obtain ⟨z2_0, hz2⟩ : ∃ (z2_0 : Int32), z2_0 = f_X11_worked l4 l10 (register (Int32.toNatClampNeg (((16 : Int32) * l1) + l6))) s0 := ⟨_, rfl⟩
  refine G.callS (pc := 209) (rest := [.int l5, .int l1, .ref 0]) (st1 := [.int z2_0, .int l5, .int l1, .ref 0]) (ws1 := (w_M refusal wheel now length at_ fault faultLine line words labels targets wrong unfit text code_ label labelWord target targetWord targetLine store common low high register address status did ready timer trace)) [] dm_X11_calculate_209 gc_X11_calculate_323 (k_X11_worked (f := l4) (other := l10) (a := (register (Int32.toNatClampNeg (((16 : Int32) * l1) + l6)))) (b := s0) hz2) rfl rfl rfl rfl rfl rfl rfl rfl ?_
  replace hres : (r_0, r_1, r_2, r_3, r_4, r_5, r_6) = f_X11_calculate_c209 now register address status did ready trace l1 l5 z2_0 := hres.trans (by rw [← hz2])
  rw [f_X11_calculate_c209] at hres
  obtain ⟨z3_0, hz3⟩ : ∃ (z3_0 : (Nat → Int32)), z3_0 = f_X11_set l1 l5 z2_0 register := ⟨_, rfl⟩
  refine G.callV0 (pc := 212) (rest := []) (st1 := []) dm_X11_calculate_212 gc_X11_calculate_313 (k_X11_set (t := l1) (r := l5) (v := z2_0) (refusal := refusal) (wheel := wheel) (now := now) (length := length) (at_ := at_) (fault := fault) (faultLine := faultLine) (line := line) (words := words) (labels := labels) (targets := targets) (wrong := wrong) (unfit := unfit) (text := text) (code_ := code_) (label := label) (labelWord := labelWord) (target := target) (targetWord := targetWord) (targetLine := targetLine) (store := store) (common := common) (low := low) (high := high) (register := register) (address := address) (status := status) (did := did) (ready := ready) (timer := timer) (trace := trace) (by first | assumption | exact q_31 _) (by first | assumption | exact q_31 _) hz3) rfl rfl rfl rfl rfl rfl rfl rfl ?_
  replace hres : (r_0, r_1, r_2, r_3, r_4, r_5, r_6) = f_X11_calculate_c212 now address status did ready trace l1 z3_0 := hres.trans (by rw [← hz3])
  rw [f_X11_calculate_c212] at hres
  refine G.aload_n (pc := 215) dm_X11_calculate_215 rfl ?_
  refine G.iload_n (pc := 216) dm_X11_calculate_216 rfl ?_
  refine G.aload_n (pc := 217) dm_X11_calculate_217 rfl ?_
  refine G.getfield (pc := 218) dm_X11_calculate_218 gf_X11_48 rfl rfl ?_
  refine G.iload_n (pc := 221) dm_X11_calculate_221 rfl ?_
  refine G.iaload (pc := 222) dm_X11_calculate_222 rfl (q_t ht) ?_
  refine G.iconst (pc := 223) (v := (4 : Int32)) dm_X11_calculate_223 qi_4 ?_
  refine G.iadd (pc := 224) dm_X11_calculate_224 ?_
  refine G.aload_n (pc := 225) dm_X11_calculate_225 rfl ?_
  refine G.getfield (pc := 226) dm_X11_calculate_226 gf_X11_291 rfl rfl ?_
  refine G.iconst (pc := 229) (v := (4 : Int32)) dm_X11_calculate_229 qi_4 ?_
  refine G.iadd (pc := 230) dm_X11_calculate_230 ?_
  obtain ⟨z4_0, z4_1, z4_2, z4_3, z4_4, hz4⟩ : ∃ (z4_0 : Int32) (z4_1 : (Nat → Int32)) (z4_2 : (Nat → Int32)) (z4_3 : (Nat → Int32)) (z4_4 : (Nat → Int32)), (z4_0, z4_1, z4_2, z4_3, z4_4) = f_X11_done l1 ((address (Int32.toNatClampNeg l1)) + (4 : Int32)) (now + (4 : Int32)) now address did ready trace := ⟨_, _, _, _, _, rfl⟩
  refine G.callV0 (pc := 231) (rest := []) (st1 := [.int z4_0]) dm_X11_calculate_231 gc_X11_calculate_319 (k_X11_done (t := l1) (a := ((address (Int32.toNatClampNeg l1)) + (4 : Int32))) (when := (now + (4 : Int32))) (refusal := refusal) (wheel := wheel) (now := now) (length := length) (at_ := at_) (fault := fault) (faultLine := faultLine) (line := line) (words := words) (labels := labels) (targets := targets) (wrong := wrong) (unfit := unfit) (text := text) (code_ := code_) (label := label) (labelWord := labelWord) (target := target) (targetWord := targetWord) (targetLine := targetLine) (store := store) (common := common) (low := low) (high := high) (register := z3_0) (address := address) (status := status) (did := did) (ready := ready) (timer := timer) (trace := trace) (by first | assumption | exact q_31 _) (by first | assumption | exact q_31 _) hz4) rfl rfl rfl rfl rfl rfl rfl rfl ?_
  replace hres : (r_0, r_1, r_2, r_3, r_4, r_5, r_6) = f_X11_calculate_c231 status z3_0 z4_0 z4_1 z4_2 z4_3 z4_4 := hres.trans (by rw [← hz4])
  rw [f_X11_calculate_c231] at hres
  cases hres
  exact G.ireturn (pc := 234) dm_X11_calculate_234 rfl rfl rfl
def f_X11_calculate_152 (now : Int32) (register : Nat → Int32) (address : Nat → Int32) (status : Nat → Int32) (did : Nat → Int32) (ready : Nat → Int32) (trace : Nat → Int32) (l1 : Int32) (l2 : Int32) (l3 : Int32) (l4 : Int32) (l5 : Int32) (l6 : Int32) (l7 : Int32) (l9 : Int32) (l10 : Int32) : Int32 × (Nat → Int32) × (Nat → Int32) × (Nat → Int32) × (Nat → Int32) × (Nat → Int32) × (Nat → Int32) := (if l3 = 0 then (if l9 = 0 then (f_X11_calculate_185 now register address status did ready trace l1 l4 l5 l6 (l2 >>> ((20 : Int32) &&& 31)) l10) else (f_X11_calculate_185 now register address status did ready trace l1 l4 l5 l6 l7 l10)) else (f_X11_calculate_185 now register address status did ready trace l1 l4 l5 l6 (register (Int32.toNatClampNeg (((16 : Int32) * l1) + l7))) l10))
set_option maxRecDepth 20000 in
theorem j_X11_calculate_152 {l1 : Int32} {l2 : Int32} {l3 : Int32} {l4 : Int32} {l5 : Int32} {l6 : Int32} {l7 : Int32} {l9 : Int32} {l10 : Int32} {refusal : Int32} {wheel : Int32} {now : Int32} {length : Int32} {at_ : Int32} {fault : Int32} {faultLine : Int32} {line : Int32} {words : Int32} {labels : Int32} {targets : Int32} {wrong : Int32} {unfit : Int32} {text : Nat → Int32} {code_ : Nat → Int32} {label : Nat → Int64} {labelWord : Nat → Int32} {target : Nat → Int64} {targetWord : Nat → Int32} {targetLine : Nat → Int32} {store : Nat → Int32} {common : Nat → Int32} {low : Nat → Int32} {high : Nat → Int32} {register : Nat → Int32} {address : Nat → Int32} {status : Nat → Int32} {did : Nat → Int32} {ready : Nat → Int32} {timer : Nat → Int32} {trace : Nat → Int32} {r_0 : Int32} {r_1 : (Nat → Int32)} {r_2 : (Nat → Int32)} {r_3 : (Nat → Int32)} {r_4 : (Nat → Int32)} {r_5 : (Nat → Int32)} {r_6 : (Nat → Int32)} (hres : (r_0, r_1, r_2, r_3, r_4, r_5, r_6) = (f_X11_calculate_152 now register address status did ready trace l1 l2 l3 l4 l5 l6 l7 l9 l10)) (ht : 0 ≤ l1.toInt ∧ l1.toInt < 4) (hdid : ∀ j, j < 4 → 0 ≤ (did j).toInt) (h5 : 0 ≤ l5.toInt ∧ l5.toInt < 16) (h6 : 0 ≤ l6.toInt ∧ l6.toInt < 16) (h7 : 0 ≤ l7.toInt ∧ l7.toInt < 32 ∧ (¬ l3 = 0 → l7.toInt < 16)) : G M_X11_calculate 0 0 152 [(0, .ref 0), (1, .int l1), (2, .int l2), (3, .int l3), (4, .int l4), (5, .int l5), (6, .int l6), (7, .int l7), (9, .int l9), (10, .int l10)] [] (w_M refusal wheel now length at_ fault faultLine line words labels targets wrong unfit text code_ label labelWord target targetWord targetLine store common low high register address status did ready timer trace) (some (.int r_0)) (w_M refusal wheel now length at_ fault faultLine line words labels targets wrong unfit text code_ label labelWord target targetWord targetLine store common low high r_1 r_2 r_3 r_4 r_5 timer r_6) := by
  rw [f_X11_calculate_152] at hres
  refine G.iload_n (pc := 152) dm_X11_calculate_152 rfl ?_
  refine G.if_eq (pc := 153) (tgt := 171) dm_X11_calculate_153 (by decide) (fun c153 => ?_) (fun c153 => ?_)
  · rw [if_pos c153] at hres
    refine G.iload (pc := 171) dm_X11_calculate_171 rfl ?_
    refine G.if_eq (pc := 173) (tgt := 181) dm_X11_calculate_173 (by decide) (fun c173 => ?_) (fun c173 => ?_)
    · rw [if_pos c173] at hres
      refine G.iload_n (pc := 181) dm_X11_calculate_181 rfl ?_
      refine G.bipush (pc := 182) (v := (20 : Int32)) dm_X11_calculate_182 qb_20 ?_
      refine G.ishr (pc := 184) dm_X11_calculate_184 ?_
      refine G.lvp [0, 1, 4, 5, 6, 9] rfl ?_
      exact j_X11_calculate_185 hres (by first | assumption | exact q_31 _) (by first | assumption | exact q_31 _) (by first | assumption | exact q_31 _) (by first | assumption | exact q_31 _)
    · rw [if_neg c173] at hres
      refine G.iload (pc := 176) dm_X11_calculate_176 rfl ?_
      refine G.goto (pc := 178) (tgt := 185) dm_X11_calculate_178 (by decide) ?_
      refine G.lvp [0, 1, 4, 5, 6, 9] rfl ?_
      exact j_X11_calculate_185 hres (by first | assumption | exact q_31 _) (by first | assumption | exact q_31 _) (by first | assumption | exact q_31 _) (by first | assumption | exact q_31 _)
  · rw [if_neg c153] at hres
    refine G.aload_n (pc := 156) dm_X11_calculate_156 rfl ?_
    refine G.getfield (pc := 157) dm_X11_calculate_157 gf_X11_45 rfl rfl ?_
    refine G.bipush (pc := 160) (v := (16 : Int32)) dm_X11_calculate_160 qb_16 ?_
    refine G.iload_n (pc := 162) dm_X11_calculate_162 rfl ?_
    refine G.imul (pc := 163) dm_X11_calculate_163 ?_
    refine G.iload (pc := 164) dm_X11_calculate_164 rfl ?_
    refine G.iadd (pc := 166) dm_X11_calculate_166 ?_
    refine G.iaload (pc := 167) dm_X11_calculate_167 rfl (q_i16 ht ⟨h7.1, h7.2.2 c153⟩) ?_
    refine G.goto (pc := 168) (tgt := 185) dm_X11_calculate_168 (by decide) ?_
    refine G.lvp [0, 1, 4, 5, 6, 9] rfl ?_
    exact j_X11_calculate_185 hres (by first | assumption | exact q_31 _) (by first | assumption | exact q_31 _) (by first | assumption | exact q_31 _) (by first | assumption | exact q_31 _)
def f_X11_calculate_114 (now : Int32) (register : Nat → Int32) (address : Nat → Int32) (status : Nat → Int32) (did : Nat → Int32) (ready : Nat → Int32) (trace : Nat → Int32) (l1 : Int32) (l2 : Int32) (l3 : Int32) (l4 : Int32) (l5 : Int32) (l6 : Int32) (l7 : Int32) (s0 : Int32) (l9 : Int32) (l10 : Int32) : Int32 × (Nat → Int32) × (Nat → Int32) × (Nat → Int32) × (Nat → Int32) × (Nat → Int32) × (Nat → Int32) := (if s0 = 0 then (f_X11_calculate_146 register address status did ready trace l1) else (if (15 : Int32) < l5 then (f_X11_calculate_146 register address status did ready trace l1) else (if (15 : Int32) < l6 then (f_X11_calculate_146 register address status did ready trace l1) else (if l3 = 0 then (f_X11_calculate_152 now register address status did ready trace l1 l2 l3 l4 l5 l6 l7 l9 l10) else (if l7 ≤ (15 : Int32) then (f_X11_calculate_152 now register address status did ready trace l1 l2 l3 l4 l5 l6 l7 l9 l10) else (f_X11_calculate_146 register address status did ready trace l1))))))
set_option maxRecDepth 20000 in
theorem j_X11_calculate_114 {l1 : Int32} {l2 : Int32} {l3 : Int32} {l4 : Int32} {l5 : Int32} {l6 : Int32} {l7 : Int32} {l9 : Int32} {l10 : Int32} {s0 : Int32} {refusal : Int32} {wheel : Int32} {now : Int32} {length : Int32} {at_ : Int32} {fault : Int32} {faultLine : Int32} {line : Int32} {words : Int32} {labels : Int32} {targets : Int32} {wrong : Int32} {unfit : Int32} {text : Nat → Int32} {code_ : Nat → Int32} {label : Nat → Int64} {labelWord : Nat → Int32} {target : Nat → Int64} {targetWord : Nat → Int32} {targetLine : Nat → Int32} {store : Nat → Int32} {common : Nat → Int32} {low : Nat → Int32} {high : Nat → Int32} {register : Nat → Int32} {address : Nat → Int32} {status : Nat → Int32} {did : Nat → Int32} {ready : Nat → Int32} {timer : Nat → Int32} {trace : Nat → Int32} {r_0 : Int32} {r_1 : (Nat → Int32)} {r_2 : (Nat → Int32)} {r_3 : (Nat → Int32)} {r_4 : (Nat → Int32)} {r_5 : (Nat → Int32)} {r_6 : (Nat → Int32)} (hres : (r_0, r_1, r_2, r_3, r_4, r_5, r_6) = (f_X11_calculate_114 now register address status did ready trace l1 l2 l3 l4 l5 l6 l7 s0 l9 l10)) (ht : 0 ≤ l1.toInt ∧ l1.toInt < 4) (hdid : ∀ j, j < 4 → 0 ≤ (did j).toInt) (h5 : 0 ≤ l5.toInt ∧ l5.toInt < 32) (h6 : 0 ≤ l6.toInt ∧ l6.toInt < 32) (h7 : 0 ≤ l7.toInt ∧ l7.toInt < 32) : G M_X11_calculate 0 0 114 [(0, .ref 0), (1, .int l1), (2, .int l2), (3, .int l3), (4, .int l4), (5, .int l5), (6, .int l6), (7, .int l7), (9, .int l9), (10, .int l10)] [.int s0] (w_M refusal wheel now length at_ fault faultLine line words labels targets wrong unfit text code_ label labelWord target targetWord targetLine store common low high register address status did ready timer trace) (some (.int r_0)) (w_M refusal wheel now length at_ fault faultLine line words labels targets wrong unfit text code_ label labelWord target targetWord targetLine store common low high r_1 r_2 r_3 r_4 r_5 timer r_6) := by
  rw [f_X11_calculate_114] at hres
  refine G.istore (pc := 114) (lv1 := [(11, .int s0), (0, .ref 0), (1, .int l1), (2, .int l2), (3, .int l3), (4, .int l4), (5, .int l5), (6, .int l6), (7, .int l7), (9, .int l9), (10, .int l10)]) dm_X11_calculate_114 rfl rfl ?_
  refine G.iload (pc := 116) dm_X11_calculate_116 rfl ?_
  refine G.if_eq (pc := 118) (tgt := 146) dm_X11_calculate_118 (by decide) (fun c118 => ?_) (fun c118 => ?_)
  · rw [if_pos c118] at hres
    refine G.lvp [1, 2] rfl ?_
    exact j_X11_calculate_146 hres (by first | assumption | exact q_31 _)
  · rw [if_neg c118] at hres
    refine G.iload (pc := 121) dm_X11_calculate_121 rfl ?_
    refine G.bipush (pc := 123) (v := (15 : Int32)) dm_X11_calculate_123 qb_15 ?_
    refine G.icmp_gt (pc := 125) (tgt := 146) dm_X11_calculate_125 (by decide) (fun c125 => ?_) (fun c125 => ?_)
    · rw [if_pos c125] at hres
      refine G.lvp [1, 2] rfl ?_
      exact j_X11_calculate_146 hres (by first | assumption | exact q_31 _)
    · rw [if_neg c125] at hres
      refine G.iload (pc := 128) dm_X11_calculate_128 rfl ?_
      refine G.bipush (pc := 130) (v := (15 : Int32)) dm_X11_calculate_130 qb_15 ?_
      refine G.icmp_gt (pc := 132) (tgt := 146) dm_X11_calculate_132 (by decide) (fun c132 => ?_) (fun c132 => ?_)
      · rw [if_pos c132] at hres
        refine G.lvp [1, 2] rfl ?_
        exact j_X11_calculate_146 hres (by first | assumption | exact q_31 _)
      · rw [if_neg c132] at hres
        have h5 := q_16 h5 c125
        have h6 := q_16 h6 c132
        refine G.iload_n (pc := 135) dm_X11_calculate_135 rfl ?_
        refine G.if_eq (pc := 136) (tgt := 152) dm_X11_calculate_136 (by decide) (fun c136 => ?_) (fun c136 => ?_)
        · rw [if_pos c136] at hres
          refine G.lvp [1, 2, 3, 4, 5, 6, 7, 8, 9, 10] rfl ?_
          exact j_X11_calculate_152 hres ht hdid h5 h6 ⟨h7.1, h7.2, fun h => absurd c136 h⟩
        · rw [if_neg c136] at hres
          refine G.iload (pc := 139) dm_X11_calculate_139 rfl ?_
          refine G.bipush (pc := 141) (v := (15 : Int32)) dm_X11_calculate_141 qb_15 ?_
          refine G.icmp_le (pc := 143) (tgt := 152) dm_X11_calculate_143 (by decide) (fun c143 => ?_) (fun c143 => ?_)
          · rw [if_pos c143] at hres
            refine G.lvp [1, 2, 3, 4, 5, 6, 7, 8, 9, 10] rfl ?_
            exact j_X11_calculate_152 hres ht hdid h5 h6 ⟨h7.1, h7.2, fun _ => (q_16' h7 c143).2⟩
          · rw [if_neg c143] at hres
            refine G.lvp [1, 2] rfl ?_
            exact j_X11_calculate_146 hres (by first | assumption | exact q_31 _)
def f_X11_calculate_99 (now : Int32) (register : Nat → Int32) (address : Nat → Int32) (status : Nat → Int32) (did : Nat → Int32) (ready : Nat → Int32) (trace : Nat → Int32) (l1 : Int32) (l2 : Int32) (l3 : Int32) (l4 : Int32) (l5 : Int32) (l6 : Int32) (l7 : Int32) (l8 : Int32) (l9 : Int32) (l10 : Int32) : Int32 × (Nat → Int32) × (Nat → Int32) × (Nat → Int32) × (Nat → Int32) × (Nat → Int32) × (Nat → Int32) := (if l8 = 0 then (f_X11_calculate_114 now register address status did ready trace l1 l2 l3 l4 l5 l6 l7 (1 : Int32) l9 l10) else (if l10 = 0 then (f_X11_calculate_114 now register address status did ready trace l1 l2 l3 l4 l5 l6 l7 (0 : Int32) l9 l10) else (f_X11_calculate_114 now register address status did ready trace l1 l2 l3 l4 l5 l6 l7 (1 : Int32) l9 l10)))
set_option maxRecDepth 20000 in
theorem j_X11_calculate_99 {l1 : Int32} {l2 : Int32} {l3 : Int32} {l4 : Int32} {l5 : Int32} {l6 : Int32} {l7 : Int32} {l8 : Int32} {l9 : Int32} {l10 : Int32} {refusal : Int32} {wheel : Int32} {now : Int32} {length : Int32} {at_ : Int32} {fault : Int32} {faultLine : Int32} {line : Int32} {words : Int32} {labels : Int32} {targets : Int32} {wrong : Int32} {unfit : Int32} {text : Nat → Int32} {code_ : Nat → Int32} {label : Nat → Int64} {labelWord : Nat → Int32} {target : Nat → Int64} {targetWord : Nat → Int32} {targetLine : Nat → Int32} {store : Nat → Int32} {common : Nat → Int32} {low : Nat → Int32} {high : Nat → Int32} {register : Nat → Int32} {address : Nat → Int32} {status : Nat → Int32} {did : Nat → Int32} {ready : Nat → Int32} {timer : Nat → Int32} {trace : Nat → Int32} {r_0 : Int32} {r_1 : (Nat → Int32)} {r_2 : (Nat → Int32)} {r_3 : (Nat → Int32)} {r_4 : (Nat → Int32)} {r_5 : (Nat → Int32)} {r_6 : (Nat → Int32)} (hres : (r_0, r_1, r_2, r_3, r_4, r_5, r_6) = (f_X11_calculate_99 now register address status did ready trace l1 l2 l3 l4 l5 l6 l7 l8 l9 l10)) (ht : 0 ≤ l1.toInt ∧ l1.toInt < 4) (hdid : ∀ j, j < 4 → 0 ≤ (did j).toInt) (h5 : 0 ≤ l5.toInt ∧ l5.toInt < 32) (h6 : 0 ≤ l6.toInt ∧ l6.toInt < 32) (h7 : 0 ≤ l7.toInt ∧ l7.toInt < 32) : G M_X11_calculate 0 0 99 [(0, .ref 0), (1, .int l1), (2, .int l2), (3, .int l3), (4, .int l4), (5, .int l5), (6, .int l6), (7, .int l7), (8, .int l8), (9, .int l9), (10, .int l10)] [] (w_M refusal wheel now length at_ fault faultLine line words labels targets wrong unfit text code_ label labelWord target targetWord targetLine store common low high register address status did ready timer trace) (some (.int r_0)) (w_M refusal wheel now length at_ fault faultLine line words labels targets wrong unfit text code_ label labelWord target targetWord targetLine store common low high r_1 r_2 r_3 r_4 r_5 timer r_6) := by
  rw [f_X11_calculate_99] at hres
  refine G.iload (pc := 99) dm_X11_calculate_99 rfl ?_
  refine G.if_eq (pc := 101) (tgt := 109) dm_X11_calculate_101 (by decide) (fun c101 => ?_) (fun c101 => ?_)
  · rw [if_pos c101] at hres
    refine G.iconst (pc := 109) (v := (1 : Int32)) dm_X11_calculate_109 qi_1 ?_
    refine G.goto (pc := 110) (tgt := 114) dm_X11_calculate_110 (by decide) ?_
    refine G.lvp [0, 1, 2, 3, 4, 5, 6, 7, 9, 10] rfl ?_
    exact j_X11_calculate_114 hres (by first | assumption | exact q_31 _) (by first | assumption | exact q_31 _) (by first | assumption | exact q_31 _) (by first | assumption | exact q_31 _) (by first | assumption | exact q_31 _)
  · rw [if_neg c101] at hres
    refine G.iload (pc := 104) dm_X11_calculate_104 rfl ?_
    refine G.if_eq (pc := 106) (tgt := 113) dm_X11_calculate_106 (by decide) (fun c106 => ?_) (fun c106 => ?_)
    · rw [if_pos c106] at hres
      refine G.iconst (pc := 113) (v := (0 : Int32)) dm_X11_calculate_113 qi_0 ?_
      refine G.lvp [0, 1, 2, 3, 4, 5, 6, 7, 9, 10] rfl ?_
      exact j_X11_calculate_114 hres (by first | assumption | exact q_31 _) (by first | assumption | exact q_31 _) (by first | assumption | exact q_31 _) (by first | assumption | exact q_31 _) (by first | assumption | exact q_31 _)
    · rw [if_neg c106] at hres
      refine G.iconst (pc := 109) (v := (1 : Int32)) dm_X11_calculate_109 qi_1 ?_
      refine G.goto (pc := 110) (tgt := 114) dm_X11_calculate_110 (by decide) ?_
      refine G.lvp [0, 1, 2, 3, 4, 5, 6, 7, 9, 10] rfl ?_
      exact j_X11_calculate_114 hres (by first | assumption | exact q_31 _) (by first | assumption | exact q_31 _) (by first | assumption | exact q_31 _) (by first | assumption | exact q_31 _) (by first | assumption | exact q_31 _)
def f_X11_calculate_88 (now : Int32) (register : Nat → Int32) (address : Nat → Int32) (status : Nat → Int32) (did : Nat → Int32) (ready : Nat → Int32) (trace : Nat → Int32) (l1 : Int32) (l2 : Int32) (l3 : Int32) (l4 : Int32) (l5 : Int32) (l6 : Int32) (l7 : Int32) (l8 : Int32) (s0 : Int32) (l9 : Int32) : Int32 × (Nat → Int32) × (Nat → Int32) × (Nat → Int32) × (Nat → Int32) × (Nat → Int32) × (Nat → Int32) := (if l3 = 0 then (if l9 = 0 then (f_X11_calculate_114 now register address status did ready trace l1 l2 l3 l4 l5 l6 l7 (1 : Int32) l9 s0) else (f_X11_calculate_99 now register address status did ready trace l1 l2 l3 l4 l5 l6 l7 l8 l9 s0)) else (f_X11_calculate_99 now register address status did ready trace l1 l2 l3 l4 l5 l6 l7 l8 l9 s0))
set_option maxRecDepth 20000 in
theorem j_X11_calculate_88 {l1 : Int32} {l2 : Int32} {l3 : Int32} {l4 : Int32} {l5 : Int32} {l6 : Int32} {l7 : Int32} {l8 : Int32} {l9 : Int32} {s0 : Int32} {refusal : Int32} {wheel : Int32} {now : Int32} {length : Int32} {at_ : Int32} {fault : Int32} {faultLine : Int32} {line : Int32} {words : Int32} {labels : Int32} {targets : Int32} {wrong : Int32} {unfit : Int32} {text : Nat → Int32} {code_ : Nat → Int32} {label : Nat → Int64} {labelWord : Nat → Int32} {target : Nat → Int64} {targetWord : Nat → Int32} {targetLine : Nat → Int32} {store : Nat → Int32} {common : Nat → Int32} {low : Nat → Int32} {high : Nat → Int32} {register : Nat → Int32} {address : Nat → Int32} {status : Nat → Int32} {did : Nat → Int32} {ready : Nat → Int32} {timer : Nat → Int32} {trace : Nat → Int32} {r_0 : Int32} {r_1 : (Nat → Int32)} {r_2 : (Nat → Int32)} {r_3 : (Nat → Int32)} {r_4 : (Nat → Int32)} {r_5 : (Nat → Int32)} {r_6 : (Nat → Int32)} (hres : (r_0, r_1, r_2, r_3, r_4, r_5, r_6) = (f_X11_calculate_88 now register address status did ready trace l1 l2 l3 l4 l5 l6 l7 l8 s0 l9)) (ht : 0 ≤ l1.toInt ∧ l1.toInt < 4) (hdid : ∀ j, j < 4 → 0 ≤ (did j).toInt) (h5 : 0 ≤ l5.toInt ∧ l5.toInt < 32) (h6 : 0 ≤ l6.toInt ∧ l6.toInt < 32) (h7 : 0 ≤ l7.toInt ∧ l7.toInt < 32) : G M_X11_calculate 0 0 88 [(0, .ref 0), (1, .int l1), (2, .int l2), (3, .int l3), (4, .int l4), (5, .int l5), (6, .int l6), (7, .int l7), (8, .int l8), (9, .int l9)] [.int s0] (w_M refusal wheel now length at_ fault faultLine line words labels targets wrong unfit text code_ label labelWord target targetWord targetLine store common low high register address status did ready timer trace) (some (.int r_0)) (w_M refusal wheel now length at_ fault faultLine line words labels targets wrong unfit text code_ label labelWord target targetWord targetLine store common low high r_1 r_2 r_3 r_4 r_5 timer r_6) := by
  rw [f_X11_calculate_88] at hres
  refine G.istore (pc := 88) (lv1 := [(10, .int s0), (0, .ref 0), (1, .int l1), (2, .int l2), (3, .int l3), (4, .int l4), (5, .int l5), (6, .int l6), (7, .int l7), (8, .int l8), (9, .int l9)]) dm_X11_calculate_88 rfl rfl ?_
  refine G.iload_n (pc := 90) dm_X11_calculate_90 rfl ?_
  refine G.if_ne (pc := 91) (tgt := 99) dm_X11_calculate_91 (by decide) (fun c91 => ?_) (fun c91 => ?_)
  · rw [if_neg c91] at hres
    refine G.lvp [1, 2, 3, 4, 5, 6, 7, 8, 9, 10, 0] rfl ?_
    exact j_X11_calculate_99 hres (by first | assumption | exact q_31 _) (by first | assumption | exact q_31 _) (by first | assumption | exact q_31 _) (by first | assumption | exact q_31 _) (by first | assumption | exact q_31 _)
  · rw [if_pos c91] at hres
    refine G.iload (pc := 94) dm_X11_calculate_94 rfl ?_
    refine G.if_eq (pc := 96) (tgt := 109) dm_X11_calculate_96 (by decide) (fun c96 => ?_) (fun c96 => ?_)
    · rw [if_pos c96] at hres
      refine G.iconst (pc := 109) (v := (1 : Int32)) dm_X11_calculate_109 qi_1 ?_
      refine G.goto (pc := 110) (tgt := 114) dm_X11_calculate_110 (by decide) ?_
      refine G.lvp [1, 2, 3, 4, 5, 6, 7, 8, 10, 0] rfl ?_
      exact j_X11_calculate_114 hres (by first | assumption | exact q_31 _) (by first | assumption | exact q_31 _) (by first | assumption | exact q_31 _) (by first | assumption | exact q_31 _) (by first | assumption | exact q_31 _)
    · rw [if_neg c96] at hres
      refine G.lvp [1, 2, 3, 4, 5, 6, 7, 8, 9, 10, 0] rfl ?_
      exact j_X11_calculate_99 hres (by first | assumption | exact q_31 _) (by first | assumption | exact q_31 _) (by first | assumption | exact q_31 _) (by first | assumption | exact q_31 _) (by first | assumption | exact q_31 _)
def f_X11_calculate_87 (now : Int32) (register : Nat → Int32) (address : Nat → Int32) (status : Nat → Int32) (did : Nat → Int32) (ready : Nat → Int32) (trace : Nat → Int32) (l1 : Int32) (l2 : Int32) (l3 : Int32) (l4 : Int32) (l5 : Int32) (l6 : Int32) (l7 : Int32) (l8 : Int32) (l9 : Int32) : Int32 × (Nat → Int32) × (Nat → Int32) × (Nat → Int32) × (Nat → Int32) × (Nat → Int32) × (Nat → Int32) := (f_X11_calculate_88 now register address status did ready trace l1 l2 l3 l4 l5 l6 l7 l8 (0 : Int32) l9)
set_option maxRecDepth 20000 in
theorem j_X11_calculate_87 {l1 : Int32} {l2 : Int32} {l3 : Int32} {l4 : Int32} {l5 : Int32} {l6 : Int32} {l7 : Int32} {l8 : Int32} {l9 : Int32} {refusal : Int32} {wheel : Int32} {now : Int32} {length : Int32} {at_ : Int32} {fault : Int32} {faultLine : Int32} {line : Int32} {words : Int32} {labels : Int32} {targets : Int32} {wrong : Int32} {unfit : Int32} {text : Nat → Int32} {code_ : Nat → Int32} {label : Nat → Int64} {labelWord : Nat → Int32} {target : Nat → Int64} {targetWord : Nat → Int32} {targetLine : Nat → Int32} {store : Nat → Int32} {common : Nat → Int32} {low : Nat → Int32} {high : Nat → Int32} {register : Nat → Int32} {address : Nat → Int32} {status : Nat → Int32} {did : Nat → Int32} {ready : Nat → Int32} {timer : Nat → Int32} {trace : Nat → Int32} {r_0 : Int32} {r_1 : (Nat → Int32)} {r_2 : (Nat → Int32)} {r_3 : (Nat → Int32)} {r_4 : (Nat → Int32)} {r_5 : (Nat → Int32)} {r_6 : (Nat → Int32)} (hres : (r_0, r_1, r_2, r_3, r_4, r_5, r_6) = (f_X11_calculate_87 now register address status did ready trace l1 l2 l3 l4 l5 l6 l7 l8 l9)) (ht : 0 ≤ l1.toInt ∧ l1.toInt < 4) (hdid : ∀ j, j < 4 → 0 ≤ (did j).toInt) (h5 : 0 ≤ l5.toInt ∧ l5.toInt < 32) (h6 : 0 ≤ l6.toInt ∧ l6.toInt < 32) (h7 : 0 ≤ l7.toInt ∧ l7.toInt < 32) : G M_X11_calculate 0 0 87 [(0, .ref 0), (1, .int l1), (2, .int l2), (3, .int l3), (4, .int l4), (5, .int l5), (6, .int l6), (7, .int l7), (8, .int l8), (9, .int l9)] [] (w_M refusal wheel now length at_ fault faultLine line words labels targets wrong unfit text code_ label labelWord target targetWord targetLine store common low high register address status did ready timer trace) (some (.int r_0)) (w_M refusal wheel now length at_ fault faultLine line words labels targets wrong unfit text code_ label labelWord target targetWord targetLine store common low high r_1 r_2 r_3 r_4 r_5 timer r_6) := by
  rw [f_X11_calculate_87] at hres
  refine G.iconst (pc := 87) (v := (0 : Int32)) dm_X11_calculate_87 qi_0 ?_
  exact j_X11_calculate_88 hres (by first | assumption | exact q_31 _) (by first | assumption | exact q_31 _) (by first | assumption | exact q_31 _) (by first | assumption | exact q_31 _) (by first | assumption | exact q_31 _)
def f_X11_calculate_59 (now : Int32) (register : Nat → Int32) (address : Nat → Int32) (status : Nat → Int32) (did : Nat → Int32) (ready : Nat → Int32) (trace : Nat → Int32) (l1 : Int32) (l2 : Int32) (l3 : Int32) (l4 : Int32) (l5 : Int32) (l6 : Int32) (l7 : Int32) (l8 : Int32) (s0 : Int32) : Int32 × (Nat → Int32) × (Nat → Int32) × (Nat → Int32) × (Nat → Int32) × (Nat → Int32) × (Nat → Int32) := (if l8 = (32 : Int32) then (if l4 = (5 : Int32) then (f_X11_calculate_88 now register address status did ready trace l1 l2 l3 l4 l5 l6 l7 l8 (1 : Int32) s0) else (if l3 = 0 then (f_X11_calculate_87 now register address status did ready trace l1 l2 l3 l4 l5 l6 l7 l8 s0) else (if l4 = 0 then (f_X11_calculate_88 now register address status did ready trace l1 l2 l3 l4 l5 l6 l7 l8 (1 : Int32) s0) else (f_X11_calculate_87 now register address status did ready trace l1 l2 l3 l4 l5 l6 l7 l8 s0)))) else (f_X11_calculate_87 now register address status did ready trace l1 l2 l3 l4 l5 l6 l7 l8 s0))
set_option maxRecDepth 20000 in
theorem j_X11_calculate_59 {l1 : Int32} {l2 : Int32} {l3 : Int32} {l4 : Int32} {l5 : Int32} {l6 : Int32} {l7 : Int32} {l8 : Int32} {s0 : Int32} {refusal : Int32} {wheel : Int32} {now : Int32} {length : Int32} {at_ : Int32} {fault : Int32} {faultLine : Int32} {line : Int32} {words : Int32} {labels : Int32} {targets : Int32} {wrong : Int32} {unfit : Int32} {text : Nat → Int32} {code_ : Nat → Int32} {label : Nat → Int64} {labelWord : Nat → Int32} {target : Nat → Int64} {targetWord : Nat → Int32} {targetLine : Nat → Int32} {store : Nat → Int32} {common : Nat → Int32} {low : Nat → Int32} {high : Nat → Int32} {register : Nat → Int32} {address : Nat → Int32} {status : Nat → Int32} {did : Nat → Int32} {ready : Nat → Int32} {timer : Nat → Int32} {trace : Nat → Int32} {r_0 : Int32} {r_1 : (Nat → Int32)} {r_2 : (Nat → Int32)} {r_3 : (Nat → Int32)} {r_4 : (Nat → Int32)} {r_5 : (Nat → Int32)} {r_6 : (Nat → Int32)} (hres : (r_0, r_1, r_2, r_3, r_4, r_5, r_6) = (f_X11_calculate_59 now register address status did ready trace l1 l2 l3 l4 l5 l6 l7 l8 s0)) (ht : 0 ≤ l1.toInt ∧ l1.toInt < 4) (hdid : ∀ j, j < 4 → 0 ≤ (did j).toInt) (h5 : 0 ≤ l5.toInt ∧ l5.toInt < 32) (h6 : 0 ≤ l6.toInt ∧ l6.toInt < 32) (h7 : 0 ≤ l7.toInt ∧ l7.toInt < 32) : G M_X11_calculate 0 0 59 [(0, .ref 0), (1, .int l1), (2, .int l2), (3, .int l3), (4, .int l4), (5, .int l5), (6, .int l6), (7, .int l7), (8, .int l8)] [.int s0] (w_M refusal wheel now length at_ fault faultLine line words labels targets wrong unfit text code_ label labelWord target targetWord targetLine store common low high register address status did ready timer trace) (some (.int r_0)) (w_M refusal wheel now length at_ fault faultLine line words labels targets wrong unfit text code_ label labelWord target targetWord targetLine store common low high r_1 r_2 r_3 r_4 r_5 timer r_6) := by
  rw [f_X11_calculate_59] at hres
  refine G.istore (pc := 59) (lv1 := [(9, .int s0), (0, .ref 0), (1, .int l1), (2, .int l2), (3, .int l3), (4, .int l4), (5, .int l5), (6, .int l6), (7, .int l7), (8, .int l8)]) dm_X11_calculate_59 rfl rfl ?_
  refine G.iload (pc := 61) dm_X11_calculate_61 rfl ?_
  refine G.bipush (pc := 63) (v := (32 : Int32)) dm_X11_calculate_63 qb_32 ?_
  refine G.icmp_ne (pc := 65) (tgt := 87) dm_X11_calculate_65 (by decide) (fun c65 => ?_) (fun c65 => ?_)
  · rw [if_neg c65] at hres
    refine G.lvp [1, 2, 3, 4, 5, 6, 7, 8, 9, 0] rfl ?_
    exact j_X11_calculate_87 hres (by first | assumption | exact q_31 _) (by first | assumption | exact q_31 _) (by first | assumption | exact q_31 _) (by first | assumption | exact q_31 _) (by first | assumption | exact q_31 _)
  · rw [if_pos c65] at hres
    refine G.iload (pc := 68) dm_X11_calculate_68 rfl ?_
    refine G.iconst (pc := 70) (v := (5 : Int32)) dm_X11_calculate_70 qi_5 ?_
    refine G.icmp_eq (pc := 71) (tgt := 83) dm_X11_calculate_71 (by decide) (fun c71 => ?_) (fun c71 => ?_)
    · rw [if_pos c71] at hres
      refine G.iconst (pc := 83) (v := (1 : Int32)) dm_X11_calculate_83 qi_1 ?_
      refine G.goto (pc := 84) (tgt := 88) dm_X11_calculate_84 (by decide) ?_
      refine G.lvp [1, 2, 3, 4, 5, 6, 7, 8, 9, 0] rfl ?_
      exact j_X11_calculate_88 hres (by first | assumption | exact q_31 _) (by first | assumption | exact q_31 _) (by first | assumption | exact q_31 _) (by first | assumption | exact q_31 _) (by first | assumption | exact q_31 _)
    · rw [if_neg c71] at hres
      refine G.iload_n (pc := 74) dm_X11_calculate_74 rfl ?_
      refine G.if_eq (pc := 75) (tgt := 87) dm_X11_calculate_75 (by decide) (fun c75 => ?_) (fun c75 => ?_)
      · rw [if_pos c75] at hres
        refine G.lvp [1, 2, 3, 4, 5, 6, 7, 8, 9, 0] rfl ?_
        exact j_X11_calculate_87 hres (by first | assumption | exact q_31 _) (by first | assumption | exact q_31 _) (by first | assumption | exact q_31 _) (by first | assumption | exact q_31 _) (by first | assumption | exact q_31 _)
      · rw [if_neg c75] at hres
        refine G.iload (pc := 78) dm_X11_calculate_78 rfl ?_
        refine G.if_ne (pc := 80) (tgt := 87) dm_X11_calculate_80 (by decide) (fun c80 => ?_) (fun c80 => ?_)
        · rw [if_neg c80] at hres
          refine G.lvp [1, 2, 3, 4, 5, 6, 7, 8, 9, 0] rfl ?_
          exact j_X11_calculate_87 hres (by first | assumption | exact q_31 _) (by first | assumption | exact q_31 _) (by first | assumption | exact q_31 _) (by first | assumption | exact q_31 _) (by first | assumption | exact q_31 _)
        · rw [if_pos c80] at hres
          refine G.iconst (pc := 83) (v := (1 : Int32)) dm_X11_calculate_83 qi_1 ?_
          refine G.goto (pc := 84) (tgt := 88) dm_X11_calculate_84 (by decide) ?_
          refine G.lvp [1, 2, 3, 4, 5, 6, 7, 8, 9, 0] rfl ?_
          exact j_X11_calculate_88 hres (by first | assumption | exact q_31 _) (by first | assumption | exact q_31 _) (by first | assumption | exact q_31 _) (by first | assumption | exact q_31 _) (by first | assumption | exact q_31 _)
def f_X11_calculate (t : Int32) (w : Int32) (plain : Int32) (now : Int32) (register : Nat → Int32) (address : Nat → Int32) (status : Nat → Int32) (did : Nat → Int32) (ready : Nat → Int32) (trace : Nat → Int32) : Int32 × (Nat → Int32) × (Nat → Int32) × (Nat → Int32) × (Nat → Int32) × (Nat → Int32) × (Nat → Int32) := (if ((w >>> ((12 : Int32) &&& 31)) &&& (7 : Int32)) = (1 : Int32) then (f_X11_calculate_59 now register address status did ready trace t w plain ((w >>> ((12 : Int32) &&& 31)) &&& (7 : Int32)) ((w >>> ((7 : Int32) &&& 31)) &&& (31 : Int32)) ((w >>> ((15 : Int32) &&& 31)) &&& (31 : Int32)) ((w >>> ((20 : Int32) &&& 31)) &&& (31 : Int32)) (g_ushr w (25 : Int32)) (1 : Int32)) else (if ((w >>> ((12 : Int32) &&& 31)) &&& (7 : Int32)) = (5 : Int32) then (f_X11_calculate_59 now register address status did ready trace t w plain ((w >>> ((12 : Int32) &&& 31)) &&& (7 : Int32)) ((w >>> ((7 : Int32) &&& 31)) &&& (31 : Int32)) ((w >>> ((15 : Int32) &&& 31)) &&& (31 : Int32)) ((w >>> ((20 : Int32) &&& 31)) &&& (31 : Int32)) (g_ushr w (25 : Int32)) (1 : Int32)) else (f_X11_calculate_59 now register address status did ready trace t w plain ((w >>> ((12 : Int32) &&& 31)) &&& (7 : Int32)) ((w >>> ((7 : Int32) &&& 31)) &&& (31 : Int32)) ((w >>> ((15 : Int32) &&& 31)) &&& (31 : Int32)) ((w >>> ((20 : Int32) &&& 31)) &&& (31 : Int32)) (g_ushr w (25 : Int32)) (0 : Int32))))
set_option maxRecDepth 20000 in
theorem k_X11_calculate {t : Int32} {w : Int32} {plain : Int32} {refusal : Int32} {wheel : Int32} {now : Int32} {length : Int32} {at_ : Int32} {fault : Int32} {faultLine : Int32} {line : Int32} {words : Int32} {labels : Int32} {targets : Int32} {wrong : Int32} {unfit : Int32} {text : Nat → Int32} {code_ : Nat → Int32} {label : Nat → Int64} {labelWord : Nat → Int32} {target : Nat → Int64} {targetWord : Nat → Int32} {targetLine : Nat → Int32} {store : Nat → Int32} {common : Nat → Int32} {low : Nat → Int32} {high : Nat → Int32} {register : Nat → Int32} {address : Nat → Int32} {status : Nat → Int32} {did : Nat → Int32} {ready : Nat → Int32} {timer : Nat → Int32} {trace : Nat → Int32} (ht : 0 ≤ t.toInt ∧ t.toInt < 4) (hdid : ∀ j, j < 4 → 0 ≤ (did j).toInt) {r_0 : Int32} {r_1 : (Nat → Int32)} {r_2 : (Nat → Int32)} {r_3 : (Nat → Int32)} {r_4 : (Nat → Int32)} {r_5 : (Nat → Int32)} {r_6 : (Nat → Int32)} (hres : (r_0, r_1, r_2, r_3, r_4, r_5, r_6) = f_X11_calculate t w plain now register address status did ready trace) : K M_X11_calculate yX11_calculate [.ref 0, .int t, .int w, .int plain] (w_M refusal wheel now length at_ fault faultLine line words labels targets wrong unfit text code_ label labelWord target targetWord targetLine store common low high register address status did ready timer trace) (some (.int r_0)) (w_M refusal wheel now length at_ fault faultLine line words labels targets wrong unfit text code_ label labelWord target targetWord targetLine store common low high r_1 r_2 r_3 r_4 r_5 timer r_6) := by
  refine K.of (lv := [(0, .ref 0), (1, .int t), (2, .int w), (3, .int plain)]) (by decide +kernel) rfl rfl rfl ?_
  rw [f_X11_calculate] at hres
  refine G.iload_n (pc := 0) dm_X11_calculate_0 rfl ?_
  refine G.bipush (pc := 1) (v := (12 : Int32)) dm_X11_calculate_1 qb_12 ?_
  refine G.ishr (pc := 3) dm_X11_calculate_3 ?_
  refine G.bipush (pc := 4) (v := (7 : Int32)) dm_X11_calculate_4 qb_7 ?_
  refine G.iand (pc := 6) dm_X11_calculate_6 ?_
  refine G.istore (pc := 7) (lv1 := [(4, .int ((w >>> ((12 : Int32) &&& 31)) &&& (7 : Int32))), (0, .ref 0), (1, .int t), (2, .int w), (3, .int plain)]) dm_X11_calculate_7 rfl rfl ?_
  refine G.iload_n (pc := 9) dm_X11_calculate_9 rfl ?_
  refine G.bipush (pc := 10) (v := (7 : Int32)) dm_X11_calculate_10 qb_7 ?_
  refine G.ishr (pc := 12) dm_X11_calculate_12 ?_
  refine G.bipush (pc := 13) (v := (31 : Int32)) dm_X11_calculate_13 qb_31 ?_
  refine G.iand (pc := 15) dm_X11_calculate_15 ?_
  refine G.istore (pc := 16) (lv1 := [(5, .int ((w >>> ((7 : Int32) &&& 31)) &&& (31 : Int32))), (4, .int ((w >>> ((12 : Int32) &&& 31)) &&& (7 : Int32))), (0, .ref 0), (1, .int t), (2, .int w), (3, .int plain)]) dm_X11_calculate_16 rfl rfl ?_
  refine G.iload_n (pc := 18) dm_X11_calculate_18 rfl ?_
  refine G.bipush (pc := 19) (v := (15 : Int32)) dm_X11_calculate_19 qb_15 ?_
  refine G.ishr (pc := 21) dm_X11_calculate_21 ?_
  refine G.bipush (pc := 22) (v := (31 : Int32)) dm_X11_calculate_22 qb_31 ?_
  refine G.iand (pc := 24) dm_X11_calculate_24 ?_
  refine G.istore (pc := 25) (lv1 := [(6, .int ((w >>> ((15 : Int32) &&& 31)) &&& (31 : Int32))), (5, .int ((w >>> ((7 : Int32) &&& 31)) &&& (31 : Int32))), (4, .int ((w >>> ((12 : Int32) &&& 31)) &&& (7 : Int32))), (0, .ref 0), (1, .int t), (2, .int w), (3, .int plain)]) dm_X11_calculate_25 rfl rfl ?_
  refine G.iload_n (pc := 27) dm_X11_calculate_27 rfl ?_
  refine G.bipush (pc := 28) (v := (20 : Int32)) dm_X11_calculate_28 qb_20 ?_
  refine G.ishr (pc := 30) dm_X11_calculate_30 ?_
  refine G.bipush (pc := 31) (v := (31 : Int32)) dm_X11_calculate_31 qb_31 ?_
  refine G.iand (pc := 33) dm_X11_calculate_33 ?_
  refine G.istore (pc := 34) (lv1 := [(7, .int ((w >>> ((20 : Int32) &&& 31)) &&& (31 : Int32))), (6, .int ((w >>> ((15 : Int32) &&& 31)) &&& (31 : Int32))), (5, .int ((w >>> ((7 : Int32) &&& 31)) &&& (31 : Int32))), (4, .int ((w >>> ((12 : Int32) &&& 31)) &&& (7 : Int32))), (0, .ref 0), (1, .int t), (2, .int w), (3, .int plain)]) dm_X11_calculate_34 rfl rfl ?_
  refine G.iload_n (pc := 36) dm_X11_calculate_36 rfl ?_
  refine G.bipush (pc := 37) (v := (25 : Int32)) dm_X11_calculate_37 qb_25 ?_
  refine G.iushr (pc := 39) dm_X11_calculate_39 ?_
  refine G.istore (pc := 40) (lv1 := [(8, .int (g_ushr w (25 : Int32))), (7, .int ((w >>> ((20 : Int32) &&& 31)) &&& (31 : Int32))), (6, .int ((w >>> ((15 : Int32) &&& 31)) &&& (31 : Int32))), (5, .int ((w >>> ((7 : Int32) &&& 31)) &&& (31 : Int32))), (4, .int ((w >>> ((12 : Int32) &&& 31)) &&& (7 : Int32))), (0, .ref 0), (1, .int t), (2, .int w), (3, .int plain)]) dm_X11_calculate_40 rfl rfl ?_
  refine G.iload (pc := 42) dm_X11_calculate_42 rfl ?_
  refine G.iconst (pc := 44) (v := (1 : Int32)) dm_X11_calculate_44 qi_1 ?_
  refine G.icmp_eq (pc := 45) (tgt := 54) dm_X11_calculate_45 (by decide) (fun c45 => ?_) (fun c45 => ?_)
  · rw [if_pos c45] at hres
    refine G.iconst (pc := 54) (v := (1 : Int32)) dm_X11_calculate_54 qi_1 ?_
    refine G.goto (pc := 55) (tgt := 59) dm_X11_calculate_55 (by decide) ?_
    refine G.lvp [5, 6, 7, 8, 4, 3, 2, 1, 0] rfl ?_
    exact j_X11_calculate_59 hres (by first | assumption | exact q_31 _) (by first | assumption | exact q_31 _) (by first | assumption | exact q_31 _) (by first | assumption | exact q_31 _) (by first | assumption | exact q_31 _)
  · rw [if_neg c45] at hres
    refine G.iload (pc := 48) dm_X11_calculate_48 rfl ?_
    refine G.iconst (pc := 50) (v := (5 : Int32)) dm_X11_calculate_50 qi_5 ?_
    refine G.icmp_ne (pc := 51) (tgt := 58) dm_X11_calculate_51 (by decide) (fun c51 => ?_) (fun c51 => ?_)
    · rw [if_neg c51] at hres
      refine G.iconst (pc := 58) (v := (0 : Int32)) dm_X11_calculate_58 qi_0 ?_
      refine G.lvp [5, 6, 7, 8, 4, 3, 2, 1, 0] rfl ?_
      exact j_X11_calculate_59 hres (by first | assumption | exact q_31 _) (by first | assumption | exact q_31 _) (by first | assumption | exact q_31 _) (by first | assumption | exact q_31 _) (by first | assumption | exact q_31 _)
    · rw [if_pos c51] at hres
      refine G.iconst (pc := 54) (v := (1 : Int32)) dm_X11_calculate_54 qi_1 ?_
      refine G.goto (pc := 55) (tgt := 59) dm_X11_calculate_55 (by decide) ?_
      refine G.lvp [5, 6, 7, 8, 4, 3, 2, 1, 0] rfl ?_
      exact j_X11_calculate_59 hres (by first | assumption | exact q_31 _) (by first | assumption | exact q_31 _) (by first | assumption | exact q_31 _) (by first | assumption | exact q_31 _) (by first | assumption | exact q_31 _)
abbrev M_X11_jump : g_M := (cX11_jump, 8, RX11, (some .int), { frames := 1, cells := 0, slots := 0, locals := 24 }, 0, 0)
theorem dm_X11_jump_0 : decode M_X11_jump.1 0 = .ok (.iload_n 2, 1) := by decide +kernel
theorem dm_X11_jump_1 : decode M_X11_jump.1 1 = .ok (.bipush 7, 2) := by decide +kernel
theorem dm_X11_jump_3 : decode M_X11_jump.1 3 = .ok (.ishr, 1) := by decide +kernel
theorem dm_X11_jump_4 : decode M_X11_jump.1 4 = .ok (.bipush 31, 2) := by decide +kernel
theorem dm_X11_jump_6 : decode M_X11_jump.1 6 = .ok (.iand, 1) := by decide +kernel
theorem dm_X11_jump_7 : decode M_X11_jump.1 7 = .ok (.istore 4, 2) := by decide +kernel
theorem dm_X11_jump_9 : decode M_X11_jump.1 9 = .ok (.iload_n 2, 1) := by decide +kernel
theorem dm_X11_jump_10 : decode M_X11_jump.1 10 = .ok (.bipush 15, 2) := by decide +kernel
theorem dm_X11_jump_12 : decode M_X11_jump.1 12 = .ok (.ishr, 1) := by decide +kernel
theorem dm_X11_jump_13 : decode M_X11_jump.1 13 = .ok (.bipush 31, 2) := by decide +kernel
theorem dm_X11_jump_15 : decode M_X11_jump.1 15 = .ok (.iand, 1) := by decide +kernel
theorem dm_X11_jump_16 : decode M_X11_jump.1 16 = .ok (.istore 5, 2) := by decide +kernel
theorem dm_X11_jump_18 : decode M_X11_jump.1 18 = .ok (.iload 4, 2) := by decide +kernel
theorem dm_X11_jump_20 : decode M_X11_jump.1 20 = .ok (.bipush 15, 2) := by decide +kernel
theorem dm_X11_jump_22 : decode M_X11_jump.1 22 = .ok (.if_icmp .gt 24, 3) := by decide +kernel
theorem dm_X11_jump_25 : decode M_X11_jump.1 25 = .ok (.iload_n 3, 1) := by decide +kernel
theorem dm_X11_jump_26 : decode M_X11_jump.1 26 = .ok (.ifCond .eq 26, 3) := by decide +kernel
theorem dm_X11_jump_29 : decode M_X11_jump.1 29 = .ok (.iload 5, 2) := by decide +kernel
theorem dm_X11_jump_31 : decode M_X11_jump.1 31 = .ok (.bipush 15, 2) := by decide +kernel
theorem dm_X11_jump_33 : decode M_X11_jump.1 33 = .ok (.if_icmp .gt 13, 3) := by decide +kernel
theorem dm_X11_jump_36 : decode M_X11_jump.1 36 = .ok (.iload_n 2, 1) := by decide +kernel
theorem dm_X11_jump_37 : decode M_X11_jump.1 37 = .ok (.bipush 12, 2) := by decide +kernel
theorem dm_X11_jump_39 : decode M_X11_jump.1 39 = .ok (.ishr, 1) := by decide +kernel
theorem dm_X11_jump_40 : decode M_X11_jump.1 40 = .ok (.bipush 7, 2) := by decide +kernel
theorem dm_X11_jump_42 : decode M_X11_jump.1 42 = .ok (.iand, 1) := by decide +kernel
theorem dm_X11_jump_43 : decode M_X11_jump.1 43 = .ok (.ifCond .eq 9, 3) := by decide +kernel
theorem dm_X11_jump_46 : decode M_X11_jump.1 46 = .ok (.aload_n 0, 1) := by decide +kernel
theorem dm_X11_jump_47 : decode M_X11_jump.1 47 = .ok (.iload_n 1, 1) := by decide +kernel
theorem dm_X11_jump_48 : decode M_X11_jump.1 48 = .ok (.invokevirtual 299, 3) := by decide +kernel
theorem dm_X11_jump_51 : decode M_X11_jump.1 51 = .ok (.ireturn, 1) := by decide +kernel
theorem dm_X11_jump_52 : decode M_X11_jump.1 52 = .ok (.iload_n 2, 1) := by decide +kernel
theorem dm_X11_jump_53 : decode M_X11_jump.1 53 = .ok (.bipush 21, 2) := by decide +kernel
theorem dm_X11_jump_55 : decode M_X11_jump.1 55 = .ok (.ishr, 1) := by decide +kernel
theorem dm_X11_jump_56 : decode M_X11_jump.1 56 = .ok (.sipush 1023, 3) := by decide +kernel
theorem dm_X11_jump_59 : decode M_X11_jump.1 59 = .ok (.iand, 1) := by decide +kernel
theorem dm_X11_jump_60 : decode M_X11_jump.1 60 = .ok (.iconst 1, 1) := by decide +kernel
theorem dm_X11_jump_61 : decode M_X11_jump.1 61 = .ok (.ishl, 1) := by decide +kernel
theorem dm_X11_jump_62 : decode M_X11_jump.1 62 = .ok (.iload_n 2, 1) := by decide +kernel
theorem dm_X11_jump_63 : decode M_X11_jump.1 63 = .ok (.bipush 20, 2) := by decide +kernel
theorem dm_X11_jump_65 : decode M_X11_jump.1 65 = .ok (.ishr, 1) := by decide +kernel
theorem dm_X11_jump_66 : decode M_X11_jump.1 66 = .ok (.iconst 1, 1) := by decide +kernel
theorem dm_X11_jump_67 : decode M_X11_jump.1 67 = .ok (.iand, 1) := by decide +kernel
theorem dm_X11_jump_68 : decode M_X11_jump.1 68 = .ok (.bipush 11, 2) := by decide +kernel
theorem dm_X11_jump_70 : decode M_X11_jump.1 70 = .ok (.ishl, 1) := by decide +kernel
theorem dm_X11_jump_71 : decode M_X11_jump.1 71 = .ok (.ior, 1) := by decide +kernel
theorem dm_X11_jump_72 : decode M_X11_jump.1 72 = .ok (.iload_n 2, 1) := by decide +kernel
theorem dm_X11_jump_73 : decode M_X11_jump.1 73 = .ok (.bipush 12, 2) := by decide +kernel
theorem dm_X11_jump_75 : decode M_X11_jump.1 75 = .ok (.ishr, 1) := by decide +kernel
theorem dm_X11_jump_76 : decode M_X11_jump.1 76 = .ok (.sipush 255, 3) := by decide +kernel
theorem dm_X11_jump_79 : decode M_X11_jump.1 79 = .ok (.iand, 1) := by decide +kernel
theorem dm_X11_jump_80 : decode M_X11_jump.1 80 = .ok (.bipush 12, 2) := by decide +kernel
theorem dm_X11_jump_82 : decode M_X11_jump.1 82 = .ok (.ishl, 1) := by decide +kernel
theorem dm_X11_jump_83 : decode M_X11_jump.1 83 = .ok (.ior, 1) := by decide +kernel
theorem dm_X11_jump_84 : decode M_X11_jump.1 84 = .ok (.iload_n 2, 1) := by decide +kernel
theorem dm_X11_jump_85 : decode M_X11_jump.1 85 = .ok (.bipush 31, 2) := by decide +kernel
theorem dm_X11_jump_87 : decode M_X11_jump.1 87 = .ok (.ishr, 1) := by decide +kernel
theorem dm_X11_jump_88 : decode M_X11_jump.1 88 = .ok (.bipush 20, 2) := by decide +kernel
theorem dm_X11_jump_90 : decode M_X11_jump.1 90 = .ok (.ishl, 1) := by decide +kernel
theorem dm_X11_jump_91 : decode M_X11_jump.1 91 = .ok (.ior, 1) := by decide +kernel
theorem dm_X11_jump_92 : decode M_X11_jump.1 92 = .ok (.istore 6, 2) := by decide +kernel
theorem dm_X11_jump_94 : decode M_X11_jump.1 94 = .ok (.iload_n 3, 1) := by decide +kernel
theorem dm_X11_jump_95 : decode M_X11_jump.1 95 = .ok (.ifCond .eq 26, 3) := by decide +kernel
theorem dm_X11_jump_98 : decode M_X11_jump.1 98 = .ok (.aload_n 0, 1) := by decide +kernel
theorem dm_X11_jump_99 : decode M_X11_jump.1 99 = .ok (.getfield 45, 3) := by decide +kernel
theorem dm_X11_jump_102 : decode M_X11_jump.1 102 = .ok (.bipush 16, 2) := by decide +kernel
theorem dm_X11_jump_104 : decode M_X11_jump.1 104 = .ok (.iload_n 1, 1) := by decide +kernel
theorem dm_X11_jump_105 : decode M_X11_jump.1 105 = .ok (.imul, 1) := by decide +kernel
theorem dm_X11_jump_106 : decode M_X11_jump.1 106 = .ok (.iload 5, 2) := by decide +kernel
theorem dm_X11_jump_108 : decode M_X11_jump.1 108 = .ok (.iadd, 1) := by decide +kernel
theorem dm_X11_jump_109 : decode M_X11_jump.1 109 = .ok (.iaload, 1) := by decide +kernel
theorem dm_X11_jump_110 : decode M_X11_jump.1 110 = .ok (.iload_n 2, 1) := by decide +kernel
theorem dm_X11_jump_111 : decode M_X11_jump.1 111 = .ok (.bipush 20, 2) := by decide +kernel
theorem dm_X11_jump_113 : decode M_X11_jump.1 113 = .ok (.ishr, 1) := by decide +kernel
theorem dm_X11_jump_114 : decode M_X11_jump.1 114 = .ok (.iadd, 1) := by decide +kernel
theorem dm_X11_jump_115 : decode M_X11_jump.1 115 = .ok (.bipush (-2), 2) := by decide +kernel
theorem dm_X11_jump_117 : decode M_X11_jump.1 117 = .ok (.iand, 1) := by decide +kernel
theorem dm_X11_jump_118 : decode M_X11_jump.1 118 = .ok (.goto 12, 3) := by decide +kernel
theorem dm_X11_jump_121 : decode M_X11_jump.1 121 = .ok (.aload_n 0, 1) := by decide +kernel
theorem dm_X11_jump_122 : decode M_X11_jump.1 122 = .ok (.getfield 48, 3) := by decide +kernel
theorem dm_X11_jump_125 : decode M_X11_jump.1 125 = .ok (.iload_n 1, 1) := by decide +kernel
theorem dm_X11_jump_126 : decode M_X11_jump.1 126 = .ok (.iaload, 1) := by decide +kernel
theorem dm_X11_jump_127 : decode M_X11_jump.1 127 = .ok (.iload 6, 2) := by decide +kernel
theorem dm_X11_jump_129 : decode M_X11_jump.1 129 = .ok (.iadd, 1) := by decide +kernel
theorem dm_X11_jump_130 : decode M_X11_jump.1 130 = .ok (.istore 7, 2) := by decide +kernel
theorem dm_X11_jump_132 : decode M_X11_jump.1 132 = .ok (.aload_n 0, 1) := by decide +kernel
theorem dm_X11_jump_133 : decode M_X11_jump.1 133 = .ok (.iload_n 1, 1) := by decide +kernel
theorem dm_X11_jump_134 : decode M_X11_jump.1 134 = .ok (.iload 4, 2) := by decide +kernel
theorem dm_X11_jump_136 : decode M_X11_jump.1 136 = .ok (.aload_n 0, 1) := by decide +kernel
theorem dm_X11_jump_137 : decode M_X11_jump.1 137 = .ok (.getfield 48, 3) := by decide +kernel
theorem dm_X11_jump_140 : decode M_X11_jump.1 140 = .ok (.iload_n 1, 1) := by decide +kernel
theorem dm_X11_jump_141 : decode M_X11_jump.1 141 = .ok (.iaload, 1) := by decide +kernel
theorem dm_X11_jump_142 : decode M_X11_jump.1 142 = .ok (.iconst 4, 1) := by decide +kernel
theorem dm_X11_jump_143 : decode M_X11_jump.1 143 = .ok (.iadd, 1) := by decide +kernel
theorem dm_X11_jump_144 : decode M_X11_jump.1 144 = .ok (.invokevirtual 313, 3) := by decide +kernel
theorem dm_X11_jump_147 : decode M_X11_jump.1 147 = .ok (.aload_n 0, 1) := by decide +kernel
theorem dm_X11_jump_148 : decode M_X11_jump.1 148 = .ok (.iload_n 1, 1) := by decide +kernel
theorem dm_X11_jump_149 : decode M_X11_jump.1 149 = .ok (.iload 7, 2) := by decide +kernel
theorem dm_X11_jump_151 : decode M_X11_jump.1 151 = .ok (.aload_n 0, 1) := by decide +kernel
theorem dm_X11_jump_152 : decode M_X11_jump.1 152 = .ok (.getfield 291, 3) := by decide +kernel
theorem dm_X11_jump_155 : decode M_X11_jump.1 155 = .ok (.iconst 4, 1) := by decide +kernel
theorem dm_X11_jump_156 : decode M_X11_jump.1 156 = .ok (.iadd, 1) := by decide +kernel
theorem dm_X11_jump_157 : decode M_X11_jump.1 157 = .ok (.invokevirtual 319, 3) := by decide +kernel
theorem dm_X11_jump_160 : decode M_X11_jump.1 160 = .ok (.ireturn, 1) := by decide +kernel
theorem gc_X11_jump_299 : g_cv M_X11_jump 299 M_X11_stop yX11_stop 1 := ⟨tw772, tw773, tw774, tw5, tw775, ⟨rfl, rfl, rfl, rfl⟩, gd_X11_stop, ⟨by decide, by decide⟩⟩
theorem gc_X11_jump_313 : g_cv M_X11_jump 313 M_X11_set yX11_set 3 := ⟨tw776, tw777, tw778, tw5, tw779, ⟨rfl, rfl, rfl, rfl⟩, gd_X11_set, ⟨by decide, by decide⟩⟩
theorem gc_X11_jump_319 : g_cv M_X11_jump 319 M_X11_done yX11_done 3 := ⟨tw780, tw781, tw782, tw5, tw783, ⟨rfl, rfl, rfl, rfl⟩, gd_X11_done, ⟨by decide, by decide⟩⟩
def f_X11_jump_c48 (register : Nat → Int32) (address : Nat → Int32) (did : Nat → Int32) (ready : Nat → Int32) (trace : Nat → Int32) (z1_0 : Int32) (z1_1 : (Nat → Int32)) : Int32 × (Nat → Int32) × (Nat → Int32) × (Nat → Int32) × (Nat → Int32) × (Nat → Int32) × (Nat → Int32) := (z1_0, register, address, z1_1, did, ready, trace)
def f_X11_jump_46 (register : Nat → Int32) (address : Nat → Int32) (status : Nat → Int32) (did : Nat → Int32) (ready : Nat → Int32) (trace : Nat → Int32) (l1 : Int32) : Int32 × (Nat → Int32) × (Nat → Int32) × (Nat → Int32) × (Nat → Int32) × (Nat → Int32) × (Nat → Int32) := (f_X11_jump_c48 register address did ready trace (f_X11_stop l1 status).1 (f_X11_stop l1 status).2)
set_option maxRecDepth 20000 in
theorem j_X11_jump_46 {l1 : Int32} {refusal : Int32} {wheel : Int32} {now : Int32} {length : Int32} {at_ : Int32} {fault : Int32} {faultLine : Int32} {line : Int32} {words : Int32} {labels : Int32} {targets : Int32} {wrong : Int32} {unfit : Int32} {text : Nat → Int32} {code_ : Nat → Int32} {label : Nat → Int64} {labelWord : Nat → Int32} {target : Nat → Int64} {targetWord : Nat → Int32} {targetLine : Nat → Int32} {store : Nat → Int32} {common : Nat → Int32} {low : Nat → Int32} {high : Nat → Int32} {register : Nat → Int32} {address : Nat → Int32} {status : Nat → Int32} {did : Nat → Int32} {ready : Nat → Int32} {timer : Nat → Int32} {trace : Nat → Int32} {r_0 : Int32} {r_1 : (Nat → Int32)} {r_2 : (Nat → Int32)} {r_3 : (Nat → Int32)} {r_4 : (Nat → Int32)} {r_5 : (Nat → Int32)} {r_6 : (Nat → Int32)} (hres : (r_0, r_1, r_2, r_3, r_4, r_5, r_6) = (f_X11_jump_46 register address status did ready trace l1)) (ht : 0 ≤ l1.toInt ∧ l1.toInt < 4) : G M_X11_jump 0 0 46 [(0, .ref 0), (1, .int l1)] [] (w_M refusal wheel now length at_ fault faultLine line words labels targets wrong unfit text code_ label labelWord target targetWord targetLine store common low high register address status did ready timer trace) (some (.int r_0)) (w_M refusal wheel now length at_ fault faultLine line words labels targets wrong unfit text code_ label labelWord target targetWord targetLine store common low high r_1 r_2 r_3 r_4 r_5 timer r_6) := by
  rw [f_X11_jump_46] at hres
  refine G.aload_n (pc := 46) dm_X11_jump_46 rfl ?_
  refine G.iload_n (pc := 47) dm_X11_jump_47 rfl ?_
  obtain ⟨z1_0, z1_1, hz1⟩ : ∃ (z1_0 : Int32) (z1_1 : (Nat → Int32)), (z1_0, z1_1) = f_X11_stop l1 status := ⟨_, _, rfl⟩
  refine G.callV0 (pc := 48) (rest := []) (st1 := [.int z1_0]) dm_X11_jump_48 gc_X11_jump_299 (k_X11_stop (t := l1) (refusal := refusal) (wheel := wheel) (now := now) (length := length) (at_ := at_) (fault := fault) (faultLine := faultLine) (line := line) (words := words) (labels := labels) (targets := targets) (wrong := wrong) (unfit := unfit) (text := text) (code_ := code_) (label := label) (labelWord := labelWord) (target := target) (targetWord := targetWord) (targetLine := targetLine) (store := store) (common := common) (low := low) (high := high) (register := register) (address := address) (status := status) (did := did) (ready := ready) (timer := timer) (trace := trace) (by first | assumption | exact q_31 _) hz1) rfl rfl rfl rfl rfl rfl rfl rfl ?_
  replace hres : (r_0, r_1, r_2, r_3, r_4, r_5, r_6) = f_X11_jump_c48 register address did ready trace z1_0 z1_1 := hres.trans (by rw [← hz1])
  rw [f_X11_jump_c48] at hres
  cases hres
  exact G.ireturn (pc := 51) dm_X11_jump_51 rfl rfl rfl
def f_X11_jump_c157 (status : Nat → Int32) (z2_0 : (Nat → Int32)) (z3_0 : Int32) (z3_1 : (Nat → Int32)) (z3_2 : (Nat → Int32)) (z3_3 : (Nat → Int32)) (z3_4 : (Nat → Int32)) : Int32 × (Nat → Int32) × (Nat → Int32) × (Nat → Int32) × (Nat → Int32) × (Nat → Int32) × (Nat → Int32) := (z3_0, z2_0, z3_1, status, z3_2, z3_3, z3_4)
def f_X11_jump_c144 (now : Int32) (address : Nat → Int32) (status : Nat → Int32) (did : Nat → Int32) (ready : Nat → Int32) (trace : Nat → Int32) (l1 : Int32) (s0 : Int32) (z2_0 : (Nat → Int32)) : Int32 × (Nat → Int32) × (Nat → Int32) × (Nat → Int32) × (Nat → Int32) × (Nat → Int32) × (Nat → Int32) := (f_X11_jump_c157 status z2_0 (f_X11_done l1 s0 (now + (4 : Int32)) now address did ready trace).1 (f_X11_done l1 s0 (now + (4 : Int32)) now address did ready trace).2.1 (f_X11_done l1 s0 (now + (4 : Int32)) now address did ready trace).2.2.1 (f_X11_done l1 s0 (now + (4 : Int32)) now address did ready trace).2.2.2.1 (f_X11_done l1 s0 (now + (4 : Int32)) now address did ready trace).2.2.2.2)
def f_X11_jump_130 (now : Int32) (register : Nat → Int32) (address : Nat → Int32) (status : Nat → Int32) (did : Nat → Int32) (ready : Nat → Int32) (trace : Nat → Int32) (l1 : Int32) (l4 : Int32) (s0 : Int32) : Int32 × (Nat → Int32) × (Nat → Int32) × (Nat → Int32) × (Nat → Int32) × (Nat → Int32) × (Nat → Int32) := (f_X11_jump_c144 now address status did ready trace l1 s0 (f_X11_set l1 l4 ((address (Int32.toNatClampNeg l1)) + (4 : Int32)) register))
set_option maxRecDepth 20000 in
theorem j_X11_jump_130 {l1 : Int32} {l4 : Int32} {s0 : Int32} {refusal : Int32} {wheel : Int32} {now : Int32} {length : Int32} {at_ : Int32} {fault : Int32} {faultLine : Int32} {line : Int32} {words : Int32} {labels : Int32} {targets : Int32} {wrong : Int32} {unfit : Int32} {text : Nat → Int32} {code_ : Nat → Int32} {label : Nat → Int64} {labelWord : Nat → Int32} {target : Nat → Int64} {targetWord : Nat → Int32} {targetLine : Nat → Int32} {store : Nat → Int32} {common : Nat → Int32} {low : Nat → Int32} {high : Nat → Int32} {register : Nat → Int32} {address : Nat → Int32} {status : Nat → Int32} {did : Nat → Int32} {ready : Nat → Int32} {timer : Nat → Int32} {trace : Nat → Int32} {r_0 : Int32} {r_1 : (Nat → Int32)} {r_2 : (Nat → Int32)} {r_3 : (Nat → Int32)} {r_4 : (Nat → Int32)} {r_5 : (Nat → Int32)} {r_6 : (Nat → Int32)} (hres : (r_0, r_1, r_2, r_3, r_4, r_5, r_6) = (f_X11_jump_130 now register address status did ready trace l1 l4 s0)) (ht : 0 ≤ l1.toInt ∧ l1.toInt < 4) (hdid : ∀ j, j < 4 → 0 ≤ (did j).toInt) (h4 : 0 ≤ l4.toInt ∧ l4.toInt < 16) : G M_X11_jump 0 0 130 [(0, .ref 0), (1, .int l1), (4, .int l4)] [.int s0] (w_M refusal wheel now length at_ fault faultLine line words labels targets wrong unfit text code_ label labelWord target targetWord targetLine store common low high register address status did ready timer trace) (some (.int r_0)) (w_M refusal wheel now length at_ fault faultLine line words labels targets wrong unfit text code_ label labelWord target targetWord targetLine store common low high r_1 r_2 r_3 r_4 r_5 timer r_6) := by
  rw [f_X11_jump_130] at hres
  refine G.istore (pc := 130) (lv1 := [(7, .int s0), (0, .ref 0), (1, .int l1), (4, .int l4)]) dm_X11_jump_130 rfl rfl ?_
  refine G.aload_n (pc := 132) dm_X11_jump_132 rfl ?_
  refine G.iload_n (pc := 133) dm_X11_jump_133 rfl ?_
  refine G.iload (pc := 134) dm_X11_jump_134 rfl ?_
  refine G.aload_n (pc := 136) dm_X11_jump_136 rfl ?_
  refine G.getfield (pc := 137) dm_X11_jump_137 gf_X11_48 rfl rfl ?_
  refine G.iload_n (pc := 140) dm_X11_jump_140 rfl ?_
  refine G.iaload (pc := 141) dm_X11_jump_141 rfl (q_t ht) ?_
  refine G.iconst (pc := 142) (v := (4 : Int32)) dm_X11_jump_142 qi_4 ?_
  refine G.iadd (pc := 143) dm_X11_jump_143 ?_
  obtain ⟨z2_0, hz2⟩ : ∃ (z2_0 : (Nat → Int32)), z2_0 = f_X11_set l1 l4 ((address (Int32.toNatClampNeg l1)) + (4 : Int32)) register := ⟨_, rfl⟩
  refine G.callV0 (pc := 144) (rest := []) (st1 := []) dm_X11_jump_144 gc_X11_jump_313 (k_X11_set (t := l1) (r := l4) (v := ((address (Int32.toNatClampNeg l1)) + (4 : Int32))) (refusal := refusal) (wheel := wheel) (now := now) (length := length) (at_ := at_) (fault := fault) (faultLine := faultLine) (line := line) (words := words) (labels := labels) (targets := targets) (wrong := wrong) (unfit := unfit) (text := text) (code_ := code_) (label := label) (labelWord := labelWord) (target := target) (targetWord := targetWord) (targetLine := targetLine) (store := store) (common := common) (low := low) (high := high) (register := register) (address := address) (status := status) (did := did) (ready := ready) (timer := timer) (trace := trace) (by first | assumption | exact q_31 _) (by first | assumption | exact q_31 _) hz2) rfl rfl rfl rfl rfl rfl rfl rfl ?_
  replace hres : (r_0, r_1, r_2, r_3, r_4, r_5, r_6) = f_X11_jump_c144 now address status did ready trace l1 s0 z2_0 := hres.trans (by rw [← hz2])
  rw [f_X11_jump_c144] at hres
  refine G.aload_n (pc := 147) dm_X11_jump_147 rfl ?_
  refine G.iload_n (pc := 148) dm_X11_jump_148 rfl ?_
  refine G.iload (pc := 149) dm_X11_jump_149 rfl ?_
  refine G.aload_n (pc := 151) dm_X11_jump_151 rfl ?_
  refine G.getfield (pc := 152) dm_X11_jump_152 gf_X11_291 rfl rfl ?_
  refine G.iconst (pc := 155) (v := (4 : Int32)) dm_X11_jump_155 qi_4 ?_
  refine G.iadd (pc := 156) dm_X11_jump_156 ?_
  obtain ⟨z3_0, z3_1, z3_2, z3_3, z3_4, hz3⟩ : ∃ (z3_0 : Int32) (z3_1 : (Nat → Int32)) (z3_2 : (Nat → Int32)) (z3_3 : (Nat → Int32)) (z3_4 : (Nat → Int32)), (z3_0, z3_1, z3_2, z3_3, z3_4) = f_X11_done l1 s0 (now + (4 : Int32)) now address did ready trace := ⟨_, _, _, _, _, rfl⟩
  refine G.callV0 (pc := 157) (rest := []) (st1 := [.int z3_0]) dm_X11_jump_157 gc_X11_jump_319 (k_X11_done (t := l1) (a := s0) (when := (now + (4 : Int32))) (refusal := refusal) (wheel := wheel) (now := now) (length := length) (at_ := at_) (fault := fault) (faultLine := faultLine) (line := line) (words := words) (labels := labels) (targets := targets) (wrong := wrong) (unfit := unfit) (text := text) (code_ := code_) (label := label) (labelWord := labelWord) (target := target) (targetWord := targetWord) (targetLine := targetLine) (store := store) (common := common) (low := low) (high := high) (register := z2_0) (address := address) (status := status) (did := did) (ready := ready) (timer := timer) (trace := trace) (by first | assumption | exact q_31 _) (by first | assumption | exact q_31 _) hz3) rfl rfl rfl rfl rfl rfl rfl rfl ?_
  replace hres : (r_0, r_1, r_2, r_3, r_4, r_5, r_6) = f_X11_jump_c157 status z2_0 z3_0 z3_1 z3_2 z3_3 z3_4 := hres.trans (by rw [← hz3])
  rw [f_X11_jump_c157] at hres
  cases hres
  exact G.ireturn (pc := 160) dm_X11_jump_160 rfl rfl rfl
def f_X11_jump_52 (now : Int32) (register : Nat → Int32) (address : Nat → Int32) (status : Nat → Int32) (did : Nat → Int32) (ready : Nat → Int32) (trace : Nat → Int32) (l1 : Int32) (l2 : Int32) (l3 : Int32) (l4 : Int32) (l5 : Int32) : Int32 × (Nat → Int32) × (Nat → Int32) × (Nat → Int32) × (Nat → Int32) × (Nat → Int32) × (Nat → Int32) := (if l3 = 0 then (f_X11_jump_130 now register address status did ready trace l1 l4 ((address (Int32.toNatClampNeg l1)) + ((((((l2 >>> ((21 : Int32) &&& 31)) &&& (1023 : Int32)) <<< ((1 : Int32) &&& 31)) ||| (((l2 >>> ((20 : Int32) &&& 31)) &&& (1 : Int32)) <<< ((11 : Int32) &&& 31))) ||| (((l2 >>> ((12 : Int32) &&& 31)) &&& (255 : Int32)) <<< ((12 : Int32) &&& 31))) ||| ((l2 >>> ((31 : Int32) &&& 31)) <<< ((20 : Int32) &&& 31))))) else (f_X11_jump_130 now register address status did ready trace l1 l4 (((register (Int32.toNatClampNeg (((16 : Int32) * l1) + l5))) + (l2 >>> ((20 : Int32) &&& 31))) &&& (-2 : Int32))))
set_option maxRecDepth 20000 in
theorem j_X11_jump_52 {l1 : Int32} {l2 : Int32} {l3 : Int32} {l4 : Int32} {l5 : Int32} {refusal : Int32} {wheel : Int32} {now : Int32} {length : Int32} {at_ : Int32} {fault : Int32} {faultLine : Int32} {line : Int32} {words : Int32} {labels : Int32} {targets : Int32} {wrong : Int32} {unfit : Int32} {text : Nat → Int32} {code_ : Nat → Int32} {label : Nat → Int64} {labelWord : Nat → Int32} {target : Nat → Int64} {targetWord : Nat → Int32} {targetLine : Nat → Int32} {store : Nat → Int32} {common : Nat → Int32} {low : Nat → Int32} {high : Nat → Int32} {register : Nat → Int32} {address : Nat → Int32} {status : Nat → Int32} {did : Nat → Int32} {ready : Nat → Int32} {timer : Nat → Int32} {trace : Nat → Int32} {r_0 : Int32} {r_1 : (Nat → Int32)} {r_2 : (Nat → Int32)} {r_3 : (Nat → Int32)} {r_4 : (Nat → Int32)} {r_5 : (Nat → Int32)} {r_6 : (Nat → Int32)} (hres : (r_0, r_1, r_2, r_3, r_4, r_5, r_6) = (f_X11_jump_52 now register address status did ready trace l1 l2 l3 l4 l5)) (ht : 0 ≤ l1.toInt ∧ l1.toInt < 4) (hdid : ∀ j, j < 4 → 0 ≤ (did j).toInt) (h4 : 0 ≤ l4.toInt ∧ l4.toInt < 16) (h5 : 0 ≤ l5.toInt ∧ l5.toInt < 32 ∧ (¬ l3 = 0 → l5.toInt < 16)) : G M_X11_jump 0 0 52 [(0, .ref 0), (1, .int l1), (2, .int l2), (3, .int l3), (4, .int l4), (5, .int l5)] [] (w_M refusal wheel now length at_ fault faultLine line words labels targets wrong unfit text code_ label labelWord target targetWord targetLine store common low high register address status did ready timer trace) (some (.int r_0)) (w_M refusal wheel now length at_ fault faultLine line words labels targets wrong unfit text code_ label labelWord target targetWord targetLine store common low high r_1 r_2 r_3 r_4 r_5 timer r_6) := by
  rw [f_X11_jump_52] at hres
  refine G.iload_n (pc := 52) dm_X11_jump_52 rfl ?_
  refine G.bipush (pc := 53) (v := (21 : Int32)) dm_X11_jump_53 qb_21 ?_
  refine G.ishr (pc := 55) dm_X11_jump_55 ?_
  refine G.sipush (pc := 56) (v := (1023 : Int32)) dm_X11_jump_56 qs_1023 ?_
  refine G.iand (pc := 59) dm_X11_jump_59 ?_
  refine G.iconst (pc := 60) (v := (1 : Int32)) dm_X11_jump_60 qi_1 ?_
  refine G.ishl (pc := 61) dm_X11_jump_61 ?_
  refine G.iload_n (pc := 62) dm_X11_jump_62 rfl ?_
  refine G.bipush (pc := 63) (v := (20 : Int32)) dm_X11_jump_63 qb_20 ?_
  refine G.ishr (pc := 65) dm_X11_jump_65 ?_
  refine G.iconst (pc := 66) (v := (1 : Int32)) dm_X11_jump_66 qi_1 ?_
  refine G.iand (pc := 67) dm_X11_jump_67 ?_
  refine G.bipush (pc := 68) (v := (11 : Int32)) dm_X11_jump_68 qb_11 ?_
  refine G.ishl (pc := 70) dm_X11_jump_70 ?_
  refine G.ior (pc := 71) dm_X11_jump_71 ?_
  refine G.iload_n (pc := 72) dm_X11_jump_72 rfl ?_
  refine G.bipush (pc := 73) (v := (12 : Int32)) dm_X11_jump_73 qb_12 ?_
  refine G.ishr (pc := 75) dm_X11_jump_75 ?_
  refine G.sipush (pc := 76) (v := (255 : Int32)) dm_X11_jump_76 qs_255 ?_
  refine G.iand (pc := 79) dm_X11_jump_79 ?_
  refine G.bipush (pc := 80) (v := (12 : Int32)) dm_X11_jump_80 qb_12 ?_
  refine G.ishl (pc := 82) dm_X11_jump_82 ?_
  refine G.ior (pc := 83) dm_X11_jump_83 ?_
  refine G.iload_n (pc := 84) dm_X11_jump_84 rfl ?_
  refine G.bipush (pc := 85) (v := (31 : Int32)) dm_X11_jump_85 qb_31 ?_
  refine G.ishr (pc := 87) dm_X11_jump_87 ?_
  refine G.bipush (pc := 88) (v := (20 : Int32)) dm_X11_jump_88 qb_20 ?_
  refine G.ishl (pc := 90) dm_X11_jump_90 ?_
  refine G.ior (pc := 91) dm_X11_jump_91 ?_
  refine G.istore (pc := 92) (lv1 := [(6, .int ((((((l2 >>> ((21 : Int32) &&& 31)) &&& (1023 : Int32)) <<< ((1 : Int32) &&& 31)) ||| (((l2 >>> ((20 : Int32) &&& 31)) &&& (1 : Int32)) <<< ((11 : Int32) &&& 31))) ||| (((l2 >>> ((12 : Int32) &&& 31)) &&& (255 : Int32)) <<< ((12 : Int32) &&& 31))) ||| ((l2 >>> ((31 : Int32) &&& 31)) <<< ((20 : Int32) &&& 31)))), (0, .ref 0), (1, .int l1), (2, .int l2), (3, .int l3), (4, .int l4), (5, .int l5)]) dm_X11_jump_92 rfl rfl ?_
  refine G.iload_n (pc := 94) dm_X11_jump_94 rfl ?_
  refine G.if_eq (pc := 95) (tgt := 121) dm_X11_jump_95 (by decide) (fun c95 => ?_) (fun c95 => ?_)
  · rw [if_pos c95] at hres
    refine G.aload_n (pc := 121) dm_X11_jump_121 rfl ?_
    refine G.getfield (pc := 122) dm_X11_jump_122 gf_X11_48 rfl rfl ?_
    refine G.iload_n (pc := 125) dm_X11_jump_125 rfl ?_
    refine G.iaload (pc := 126) dm_X11_jump_126 rfl (q_t ht) ?_
    refine G.iload (pc := 127) dm_X11_jump_127 rfl ?_
    refine G.iadd (pc := 129) dm_X11_jump_129 ?_
    refine G.lvp [1, 2, 5] rfl ?_
    exact j_X11_jump_130 hres (by first | assumption | exact q_31 _) (by first | assumption | exact q_31 _) (by first | assumption | exact q_31 _)
  · rw [if_neg c95] at hres
    refine G.aload_n (pc := 98) dm_X11_jump_98 rfl ?_
    refine G.getfield (pc := 99) dm_X11_jump_99 gf_X11_45 rfl rfl ?_
    refine G.bipush (pc := 102) (v := (16 : Int32)) dm_X11_jump_102 qb_16 ?_
    refine G.iload_n (pc := 104) dm_X11_jump_104 rfl ?_
    refine G.imul (pc := 105) dm_X11_jump_105 ?_
    refine G.iload (pc := 106) dm_X11_jump_106 rfl ?_
    refine G.iadd (pc := 108) dm_X11_jump_108 ?_
    refine G.iaload (pc := 109) dm_X11_jump_109 rfl (q_i16 ht ⟨h5.1, h5.2.2 c95⟩) ?_
    refine G.iload_n (pc := 110) dm_X11_jump_110 rfl ?_
    refine G.bipush (pc := 111) (v := (20 : Int32)) dm_X11_jump_111 qb_20 ?_
    refine G.ishr (pc := 113) dm_X11_jump_113 ?_
    refine G.iadd (pc := 114) dm_X11_jump_114 ?_
    refine G.bipush (pc := 115) (v := (-2 : Int32)) dm_X11_jump_115 qb_m2 ?_
    refine G.iand (pc := 117) dm_X11_jump_117 ?_
    refine G.goto (pc := 118) (tgt := 130) dm_X11_jump_118 (by decide) ?_
    refine G.lvp [1, 2, 5] rfl ?_
    exact j_X11_jump_130 hres (by first | assumption | exact q_31 _) (by first | assumption | exact q_31 _) (by first | assumption | exact q_31 _)
def f_X11_jump (t : Int32) (w : Int32) (far : Int32) (now : Int32) (register : Nat → Int32) (address : Nat → Int32) (status : Nat → Int32) (did : Nat → Int32) (ready : Nat → Int32) (trace : Nat → Int32) : Int32 × (Nat → Int32) × (Nat → Int32) × (Nat → Int32) × (Nat → Int32) × (Nat → Int32) × (Nat → Int32) := (if (15 : Int32) < ((w >>> ((7 : Int32) &&& 31)) &&& (31 : Int32)) then (f_X11_jump_46 register address status did ready trace t) else (if far = 0 then (f_X11_jump_52 now register address status did ready trace t w far ((w >>> ((7 : Int32) &&& 31)) &&& (31 : Int32)) ((w >>> ((15 : Int32) &&& 31)) &&& (31 : Int32))) else (if (15 : Int32) < ((w >>> ((15 : Int32) &&& 31)) &&& (31 : Int32)) then (f_X11_jump_46 register address status did ready trace t) else (if ((w >>> ((12 : Int32) &&& 31)) &&& (7 : Int32)) = 0 then (f_X11_jump_52 now register address status did ready trace t w far ((w >>> ((7 : Int32) &&& 31)) &&& (31 : Int32)) ((w >>> ((15 : Int32) &&& 31)) &&& (31 : Int32))) else (f_X11_jump_46 register address status did ready trace t)))))
set_option maxRecDepth 20000 in
theorem k_X11_jump {t : Int32} {w : Int32} {far : Int32} {refusal : Int32} {wheel : Int32} {now : Int32} {length : Int32} {at_ : Int32} {fault : Int32} {faultLine : Int32} {line : Int32} {words : Int32} {labels : Int32} {targets : Int32} {wrong : Int32} {unfit : Int32} {text : Nat → Int32} {code_ : Nat → Int32} {label : Nat → Int64} {labelWord : Nat → Int32} {target : Nat → Int64} {targetWord : Nat → Int32} {targetLine : Nat → Int32} {store : Nat → Int32} {common : Nat → Int32} {low : Nat → Int32} {high : Nat → Int32} {register : Nat → Int32} {address : Nat → Int32} {status : Nat → Int32} {did : Nat → Int32} {ready : Nat → Int32} {timer : Nat → Int32} {trace : Nat → Int32} (ht : 0 ≤ t.toInt ∧ t.toInt < 4) (hdid : ∀ j, j < 4 → 0 ≤ (did j).toInt) {r_0 : Int32} {r_1 : (Nat → Int32)} {r_2 : (Nat → Int32)} {r_3 : (Nat → Int32)} {r_4 : (Nat → Int32)} {r_5 : (Nat → Int32)} {r_6 : (Nat → Int32)} (hres : (r_0, r_1, r_2, r_3, r_4, r_5, r_6) = f_X11_jump t w far now register address status did ready trace) : K M_X11_jump yX11_jump [.ref 0, .int t, .int w, .int far] (w_M refusal wheel now length at_ fault faultLine line words labels targets wrong unfit text code_ label labelWord target targetWord targetLine store common low high register address status did ready timer trace) (some (.int r_0)) (w_M refusal wheel now length at_ fault faultLine line words labels targets wrong unfit text code_ label labelWord target targetWord targetLine store common low high r_1 r_2 r_3 r_4 r_5 timer r_6) := by
  refine K.of (lv := [(0, .ref 0), (1, .int t), (2, .int w), (3, .int far)]) (by decide +kernel) rfl rfl rfl ?_
  rw [f_X11_jump] at hres
  refine G.iload_n (pc := 0) dm_X11_jump_0 rfl ?_
  refine G.bipush (pc := 1) (v := (7 : Int32)) dm_X11_jump_1 qb_7 ?_
  refine G.ishr (pc := 3) dm_X11_jump_3 ?_
  refine G.bipush (pc := 4) (v := (31 : Int32)) dm_X11_jump_4 qb_31 ?_
  refine G.iand (pc := 6) dm_X11_jump_6 ?_
  refine G.istore (pc := 7) (lv1 := [(4, .int ((w >>> ((7 : Int32) &&& 31)) &&& (31 : Int32))), (0, .ref 0), (1, .int t), (2, .int w), (3, .int far)]) dm_X11_jump_7 rfl rfl ?_
  refine G.iload_n (pc := 9) dm_X11_jump_9 rfl ?_
  refine G.bipush (pc := 10) (v := (15 : Int32)) dm_X11_jump_10 qb_15 ?_
  refine G.ishr (pc := 12) dm_X11_jump_12 ?_
  refine G.bipush (pc := 13) (v := (31 : Int32)) dm_X11_jump_13 qb_31 ?_
  refine G.iand (pc := 15) dm_X11_jump_15 ?_
  refine G.istore (pc := 16) (lv1 := [(5, .int ((w >>> ((15 : Int32) &&& 31)) &&& (31 : Int32))), (4, .int ((w >>> ((7 : Int32) &&& 31)) &&& (31 : Int32))), (0, .ref 0), (1, .int t), (2, .int w), (3, .int far)]) dm_X11_jump_16 rfl rfl ?_
  refine G.iload (pc := 18) dm_X11_jump_18 rfl ?_
  refine G.bipush (pc := 20) (v := (15 : Int32)) dm_X11_jump_20 qb_15 ?_
  refine G.icmp_gt (pc := 22) (tgt := 46) dm_X11_jump_22 (by decide) (fun c22 => ?_) (fun c22 => ?_)
  · rw [if_pos c22] at hres
    refine G.lvp [2, 3] rfl ?_
    exact j_X11_jump_46 hres (by first | assumption | exact q_31 _)
  · rw [if_neg c22] at hres
    refine G.iload_n (pc := 25) dm_X11_jump_25 rfl ?_
    refine G.if_eq (pc := 26) (tgt := 52) dm_X11_jump_26 (by decide) (fun c26 => ?_) (fun c26 => ?_)
    · rw [if_pos c26] at hres
      refine G.lvp [2, 3, 4, 5, 1, 0] rfl ?_
      exact j_X11_jump_52 hres ht hdid (q_16 (q_31 _) c22) ⟨(q_31 _).1, (q_31 _).2, fun h => absurd c26 h⟩
    · rw [if_neg c26] at hres
      refine G.iload (pc := 29) dm_X11_jump_29 rfl ?_
      refine G.bipush (pc := 31) (v := (15 : Int32)) dm_X11_jump_31 qb_15 ?_
      refine G.icmp_gt (pc := 33) (tgt := 46) dm_X11_jump_33 (by decide) (fun c33 => ?_) (fun c33 => ?_)
      · rw [if_pos c33] at hres
        refine G.lvp [2, 3] rfl ?_
        exact j_X11_jump_46 hres (by first | assumption | exact q_31 _)
      · rw [if_neg c33] at hres
        refine G.iload_n (pc := 36) dm_X11_jump_36 rfl ?_
        refine G.bipush (pc := 37) (v := (12 : Int32)) dm_X11_jump_37 qb_12 ?_
        refine G.ishr (pc := 39) dm_X11_jump_39 ?_
        refine G.bipush (pc := 40) (v := (7 : Int32)) dm_X11_jump_40 qb_7 ?_
        refine G.iand (pc := 42) dm_X11_jump_42 ?_
        refine G.if_eq (pc := 43) (tgt := 52) dm_X11_jump_43 (by decide) (fun c43 => ?_) (fun c43 => ?_)
        · rw [if_pos c43] at hres
          refine G.lvp [2, 3, 4, 5, 1, 0] rfl ?_
          exact j_X11_jump_52 hres ht hdid (q_16 (q_31 _) c22) ⟨(q_31 _).1, (q_31 _).2, fun _ => (q_16 (q_31 _) c33).2⟩
        · rw [if_neg c43] at hres
          refine G.lvp [2, 3] rfl ?_
          exact j_X11_jump_46 hres (by first | assumption | exact q_31 _)
abbrev M_X11_branch : g_M := (cX11_branch, 8, RX11, (some .int), { frames := 2, cells := 0, slots := 0, locals := 44 }, 0, 0)
theorem dm_X11_branch_0 : decode M_X11_branch.1 0 = .ok (.iload_n 2, 1) := by decide +kernel
theorem dm_X11_branch_1 : decode M_X11_branch.1 1 = .ok (.bipush 12, 2) := by decide +kernel
theorem dm_X11_branch_3 : decode M_X11_branch.1 3 = .ok (.ishr, 1) := by decide +kernel
theorem dm_X11_branch_4 : decode M_X11_branch.1 4 = .ok (.bipush 7, 2) := by decide +kernel
theorem dm_X11_branch_6 : decode M_X11_branch.1 6 = .ok (.iand, 1) := by decide +kernel
theorem dm_X11_branch_7 : decode M_X11_branch.1 7 = .ok (.istore_n 3, 1) := by decide +kernel
theorem dm_X11_branch_8 : decode M_X11_branch.1 8 = .ok (.iload_n 2, 1) := by decide +kernel
theorem dm_X11_branch_9 : decode M_X11_branch.1 9 = .ok (.bipush 15, 2) := by decide +kernel
theorem dm_X11_branch_11 : decode M_X11_branch.1 11 = .ok (.ishr, 1) := by decide +kernel
theorem dm_X11_branch_12 : decode M_X11_branch.1 12 = .ok (.bipush 31, 2) := by decide +kernel
theorem dm_X11_branch_14 : decode M_X11_branch.1 14 = .ok (.iand, 1) := by decide +kernel
theorem dm_X11_branch_15 : decode M_X11_branch.1 15 = .ok (.istore 4, 2) := by decide +kernel
theorem dm_X11_branch_17 : decode M_X11_branch.1 17 = .ok (.iload_n 2, 1) := by decide +kernel
theorem dm_X11_branch_18 : decode M_X11_branch.1 18 = .ok (.bipush 20, 2) := by decide +kernel
theorem dm_X11_branch_20 : decode M_X11_branch.1 20 = .ok (.ishr, 1) := by decide +kernel
theorem dm_X11_branch_21 : decode M_X11_branch.1 21 = .ok (.bipush 31, 2) := by decide +kernel
theorem dm_X11_branch_23 : decode M_X11_branch.1 23 = .ok (.iand, 1) := by decide +kernel
theorem dm_X11_branch_24 : decode M_X11_branch.1 24 = .ok (.istore 5, 2) := by decide +kernel
theorem dm_X11_branch_26 : decode M_X11_branch.1 26 = .ok (.iload_n 3, 1) := by decide +kernel
theorem dm_X11_branch_27 : decode M_X11_branch.1 27 = .ok (.iconst 2, 1) := by decide +kernel
theorem dm_X11_branch_28 : decode M_X11_branch.1 28 = .ok (.if_icmp .eq 22, 3) := by decide +kernel
theorem dm_X11_branch_31 : decode M_X11_branch.1 31 = .ok (.iload_n 3, 1) := by decide +kernel
theorem dm_X11_branch_32 : decode M_X11_branch.1 32 = .ok (.iconst 3, 1) := by decide +kernel
theorem dm_X11_branch_33 : decode M_X11_branch.1 33 = .ok (.if_icmp .eq 17, 3) := by decide +kernel
theorem dm_X11_branch_36 : decode M_X11_branch.1 36 = .ok (.iload 4, 2) := by decide +kernel
theorem dm_X11_branch_38 : decode M_X11_branch.1 38 = .ok (.bipush 15, 2) := by decide +kernel
theorem dm_X11_branch_40 : decode M_X11_branch.1 40 = .ok (.if_icmp .gt 10, 3) := by decide +kernel
theorem dm_X11_branch_43 : decode M_X11_branch.1 43 = .ok (.iload 5, 2) := by decide +kernel
theorem dm_X11_branch_45 : decode M_X11_branch.1 45 = .ok (.bipush 15, 2) := by decide +kernel
theorem dm_X11_branch_47 : decode M_X11_branch.1 47 = .ok (.if_icmp .le 9, 3) := by decide +kernel
theorem dm_X11_branch_50 : decode M_X11_branch.1 50 = .ok (.aload_n 0, 1) := by decide +kernel
theorem dm_X11_branch_51 : decode M_X11_branch.1 51 = .ok (.iload_n 1, 1) := by decide +kernel
theorem dm_X11_branch_52 : decode M_X11_branch.1 52 = .ok (.invokevirtual 299, 3) := by decide +kernel
theorem dm_X11_branch_55 : decode M_X11_branch.1 55 = .ok (.ireturn, 1) := by decide +kernel
theorem dm_X11_branch_56 : decode M_X11_branch.1 56 = .ok (.iload_n 2, 1) := by decide +kernel
theorem dm_X11_branch_57 : decode M_X11_branch.1 57 = .ok (.bipush 8, 2) := by decide +kernel
theorem dm_X11_branch_59 : decode M_X11_branch.1 59 = .ok (.ishr, 1) := by decide +kernel
theorem dm_X11_branch_60 : decode M_X11_branch.1 60 = .ok (.bipush 15, 2) := by decide +kernel
theorem dm_X11_branch_62 : decode M_X11_branch.1 62 = .ok (.iand, 1) := by decide +kernel
theorem dm_X11_branch_63 : decode M_X11_branch.1 63 = .ok (.iconst 1, 1) := by decide +kernel
theorem dm_X11_branch_64 : decode M_X11_branch.1 64 = .ok (.ishl, 1) := by decide +kernel
theorem dm_X11_branch_65 : decode M_X11_branch.1 65 = .ok (.iload_n 2, 1) := by decide +kernel
theorem dm_X11_branch_66 : decode M_X11_branch.1 66 = .ok (.bipush 25, 2) := by decide +kernel
theorem dm_X11_branch_68 : decode M_X11_branch.1 68 = .ok (.ishr, 1) := by decide +kernel
theorem dm_X11_branch_69 : decode M_X11_branch.1 69 = .ok (.bipush 63, 2) := by decide +kernel
theorem dm_X11_branch_71 : decode M_X11_branch.1 71 = .ok (.iand, 1) := by decide +kernel
theorem dm_X11_branch_72 : decode M_X11_branch.1 72 = .ok (.iconst 5, 1) := by decide +kernel
theorem dm_X11_branch_73 : decode M_X11_branch.1 73 = .ok (.ishl, 1) := by decide +kernel
theorem dm_X11_branch_74 : decode M_X11_branch.1 74 = .ok (.ior, 1) := by decide +kernel
theorem dm_X11_branch_75 : decode M_X11_branch.1 75 = .ok (.iload_n 2, 1) := by decide +kernel
theorem dm_X11_branch_76 : decode M_X11_branch.1 76 = .ok (.bipush 7, 2) := by decide +kernel
theorem dm_X11_branch_78 : decode M_X11_branch.1 78 = .ok (.ishr, 1) := by decide +kernel
theorem dm_X11_branch_79 : decode M_X11_branch.1 79 = .ok (.iconst 1, 1) := by decide +kernel
theorem dm_X11_branch_80 : decode M_X11_branch.1 80 = .ok (.iand, 1) := by decide +kernel
theorem dm_X11_branch_81 : decode M_X11_branch.1 81 = .ok (.bipush 11, 2) := by decide +kernel
theorem dm_X11_branch_83 : decode M_X11_branch.1 83 = .ok (.ishl, 1) := by decide +kernel
theorem dm_X11_branch_84 : decode M_X11_branch.1 84 = .ok (.ior, 1) := by decide +kernel
theorem dm_X11_branch_85 : decode M_X11_branch.1 85 = .ok (.iload_n 2, 1) := by decide +kernel
theorem dm_X11_branch_86 : decode M_X11_branch.1 86 = .ok (.bipush 31, 2) := by decide +kernel
theorem dm_X11_branch_88 : decode M_X11_branch.1 88 = .ok (.ishr, 1) := by decide +kernel
theorem dm_X11_branch_89 : decode M_X11_branch.1 89 = .ok (.bipush 12, 2) := by decide +kernel
theorem dm_X11_branch_91 : decode M_X11_branch.1 91 = .ok (.ishl, 1) := by decide +kernel
theorem dm_X11_branch_92 : decode M_X11_branch.1 92 = .ok (.ior, 1) := by decide +kernel
theorem dm_X11_branch_93 : decode M_X11_branch.1 93 = .ok (.istore 6, 2) := by decide +kernel
theorem dm_X11_branch_95 : decode M_X11_branch.1 95 = .ok (.iload_n 3, 1) := by decide +kernel
theorem dm_X11_branch_96 : decode M_X11_branch.1 96 = .ok (.aload_n 0, 1) := by decide +kernel
theorem dm_X11_branch_97 : decode M_X11_branch.1 97 = .ok (.getfield 45, 3) := by decide +kernel
theorem dm_X11_branch_100 : decode M_X11_branch.1 100 = .ok (.bipush 16, 2) := by decide +kernel
theorem dm_X11_branch_102 : decode M_X11_branch.1 102 = .ok (.iload_n 1, 1) := by decide +kernel
theorem dm_X11_branch_103 : decode M_X11_branch.1 103 = .ok (.imul, 1) := by decide +kernel
theorem dm_X11_branch_104 : decode M_X11_branch.1 104 = .ok (.iload 4, 2) := by decide +kernel
theorem dm_X11_branch_106 : decode M_X11_branch.1 106 = .ok (.iadd, 1) := by decide +kernel
theorem dm_X11_branch_107 : decode M_X11_branch.1 107 = .ok (.iaload, 1) := by decide +kernel
theorem dm_X11_branch_108 : decode M_X11_branch.1 108 = .ok (.aload_n 0, 1) := by decide +kernel
theorem dm_X11_branch_109 : decode M_X11_branch.1 109 = .ok (.getfield 45, 3) := by decide +kernel
theorem dm_X11_branch_112 : decode M_X11_branch.1 112 = .ok (.bipush 16, 2) := by decide +kernel
theorem dm_X11_branch_114 : decode M_X11_branch.1 114 = .ok (.iload_n 1, 1) := by decide +kernel
theorem dm_X11_branch_115 : decode M_X11_branch.1 115 = .ok (.imul, 1) := by decide +kernel
theorem dm_X11_branch_116 : decode M_X11_branch.1 116 = .ok (.iload 5, 2) := by decide +kernel
theorem dm_X11_branch_118 : decode M_X11_branch.1 118 = .ok (.iadd, 1) := by decide +kernel
theorem dm_X11_branch_119 : decode M_X11_branch.1 119 = .ok (.iaload, 1) := by decide +kernel
theorem dm_X11_branch_120 : decode M_X11_branch.1 120 = .ok (.invokestatic 327, 3) := by decide +kernel
theorem dm_X11_branch_123 : decode M_X11_branch.1 123 = .ok (.istore 7, 2) := by decide +kernel
theorem dm_X11_branch_125 : decode M_X11_branch.1 125 = .ok (.aload_n 0, 1) := by decide +kernel
theorem dm_X11_branch_126 : decode M_X11_branch.1 126 = .ok (.iload_n 1, 1) := by decide +kernel
theorem dm_X11_branch_127 : decode M_X11_branch.1 127 = .ok (.aload_n 0, 1) := by decide +kernel
theorem dm_X11_branch_128 : decode M_X11_branch.1 128 = .ok (.getfield 48, 3) := by decide +kernel
theorem dm_X11_branch_131 : decode M_X11_branch.1 131 = .ok (.iload_n 1, 1) := by decide +kernel
theorem dm_X11_branch_132 : decode M_X11_branch.1 132 = .ok (.iaload, 1) := by decide +kernel
theorem dm_X11_branch_133 : decode M_X11_branch.1 133 = .ok (.iload 7, 2) := by decide +kernel
theorem dm_X11_branch_135 : decode M_X11_branch.1 135 = .ok (.ifCond .eq 8, 3) := by decide +kernel
theorem dm_X11_branch_138 : decode M_X11_branch.1 138 = .ok (.iload 6, 2) := by decide +kernel
theorem dm_X11_branch_140 : decode M_X11_branch.1 140 = .ok (.goto 4, 3) := by decide +kernel
theorem dm_X11_branch_143 : decode M_X11_branch.1 143 = .ok (.iconst 4, 1) := by decide +kernel
theorem dm_X11_branch_144 : decode M_X11_branch.1 144 = .ok (.iadd, 1) := by decide +kernel
theorem dm_X11_branch_145 : decode M_X11_branch.1 145 = .ok (.aload_n 0, 1) := by decide +kernel
theorem dm_X11_branch_146 : decode M_X11_branch.1 146 = .ok (.getfield 291, 3) := by decide +kernel
theorem dm_X11_branch_149 : decode M_X11_branch.1 149 = .ok (.iconst 4, 1) := by decide +kernel
theorem dm_X11_branch_150 : decode M_X11_branch.1 150 = .ok (.iadd, 1) := by decide +kernel
theorem dm_X11_branch_151 : decode M_X11_branch.1 151 = .ok (.invokevirtual 319, 3) := by decide +kernel
theorem dm_X11_branch_154 : decode M_X11_branch.1 154 = .ok (.ireturn, 1) := by decide +kernel
theorem gc_X11_branch_299 : g_cv M_X11_branch 299 M_X11_stop yX11_stop 1 := ⟨tw772, tw773, tw774, tw5, tw775, ⟨rfl, rfl, rfl, rfl⟩, gd_X11_stop, ⟨by decide, by decide⟩⟩
theorem gc_X11_branch_327 : g_cs M_X11_branch 327 M_X11_goes yX11_goes 3 := ⟨tw792, tw793, tw5, tw794, ⟨rfl, rfl, rfl, rfl⟩, gd_X11_goes, ⟨by decide, by decide⟩⟩
theorem gc_X11_branch_319 : g_cv M_X11_branch 319 M_X11_done yX11_done 3 := ⟨tw780, tw781, tw782, tw5, tw783, ⟨rfl, rfl, rfl, rfl⟩, gd_X11_done, ⟨by decide, by decide⟩⟩
def f_X11_branch_c52 (address : Nat → Int32) (did : Nat → Int32) (ready : Nat → Int32) (trace : Nat → Int32) (z1_0 : Int32) (z1_1 : (Nat → Int32)) : Int32 × (Nat → Int32) × (Nat → Int32) × (Nat → Int32) × (Nat → Int32) × (Nat → Int32) := (z1_0, address, z1_1, did, ready, trace)
def f_X11_branch_50 (address : Nat → Int32) (status : Nat → Int32) (did : Nat → Int32) (ready : Nat → Int32) (trace : Nat → Int32) (l1 : Int32) : Int32 × (Nat → Int32) × (Nat → Int32) × (Nat → Int32) × (Nat → Int32) × (Nat → Int32) := (f_X11_branch_c52 address did ready trace (f_X11_stop l1 status).1 (f_X11_stop l1 status).2)
set_option maxRecDepth 20000 in
theorem j_X11_branch_50 {l1 : Int32} {refusal : Int32} {wheel : Int32} {now : Int32} {length : Int32} {at_ : Int32} {fault : Int32} {faultLine : Int32} {line : Int32} {words : Int32} {labels : Int32} {targets : Int32} {wrong : Int32} {unfit : Int32} {text : Nat → Int32} {code_ : Nat → Int32} {label : Nat → Int64} {labelWord : Nat → Int32} {target : Nat → Int64} {targetWord : Nat → Int32} {targetLine : Nat → Int32} {store : Nat → Int32} {common : Nat → Int32} {low : Nat → Int32} {high : Nat → Int32} {register : Nat → Int32} {address : Nat → Int32} {status : Nat → Int32} {did : Nat → Int32} {ready : Nat → Int32} {timer : Nat → Int32} {trace : Nat → Int32} {r_0 : Int32} {r_1 : (Nat → Int32)} {r_2 : (Nat → Int32)} {r_3 : (Nat → Int32)} {r_4 : (Nat → Int32)} {r_5 : (Nat → Int32)} (hres : (r_0, r_1, r_2, r_3, r_4, r_5) = (f_X11_branch_50 address status did ready trace l1)) (ht : 0 ≤ l1.toInt ∧ l1.toInt < 4) : G M_X11_branch 0 0 50 [(0, .ref 0), (1, .int l1)] [] (w_M refusal wheel now length at_ fault faultLine line words labels targets wrong unfit text code_ label labelWord target targetWord targetLine store common low high register address status did ready timer trace) (some (.int r_0)) (w_M refusal wheel now length at_ fault faultLine line words labels targets wrong unfit text code_ label labelWord target targetWord targetLine store common low high register r_1 r_2 r_3 r_4 timer r_5) := by
  rw [f_X11_branch_50] at hres
  refine G.aload_n (pc := 50) dm_X11_branch_50 rfl ?_
  refine G.iload_n (pc := 51) dm_X11_branch_51 rfl ?_
  obtain ⟨z1_0, z1_1, hz1⟩ : ∃ (z1_0 : Int32) (z1_1 : (Nat → Int32)), (z1_0, z1_1) = f_X11_stop l1 status := ⟨_, _, rfl⟩
  refine G.callV0 (pc := 52) (rest := []) (st1 := [.int z1_0]) dm_X11_branch_52 gc_X11_branch_299 (k_X11_stop (t := l1) (refusal := refusal) (wheel := wheel) (now := now) (length := length) (at_ := at_) (fault := fault) (faultLine := faultLine) (line := line) (words := words) (labels := labels) (targets := targets) (wrong := wrong) (unfit := unfit) (text := text) (code_ := code_) (label := label) (labelWord := labelWord) (target := target) (targetWord := targetWord) (targetLine := targetLine) (store := store) (common := common) (low := low) (high := high) (register := register) (address := address) (status := status) (did := did) (ready := ready) (timer := timer) (trace := trace) (by first | assumption | exact q_31 _) hz1) rfl rfl rfl rfl rfl rfl rfl rfl ?_
  replace hres : (r_0, r_1, r_2, r_3, r_4, r_5) = f_X11_branch_c52 address did ready trace z1_0 z1_1 := hres.trans (by rw [← hz1])
  rw [f_X11_branch_c52] at hres
  cases hres
  exact G.ireturn (pc := 55) dm_X11_branch_55 rfl rfl rfl
def f_X11_branch_c151 (status : Nat → Int32) (z3_0 : Int32) (z3_1 : (Nat → Int32)) (z3_2 : (Nat → Int32)) (z3_3 : (Nat → Int32)) (z3_4 : (Nat → Int32)) : Int32 × (Nat → Int32) × (Nat → Int32) × (Nat → Int32) × (Nat → Int32) × (Nat → Int32) := (z3_0, z3_1, status, z3_2, z3_3, z3_4)
def f_X11_branch_144 (now : Int32) (address : Nat → Int32) (status : Nat → Int32) (did : Nat → Int32) (ready : Nat → Int32) (trace : Nat → Int32) (s1 : Int32) (s2 : Int32) (s3 : Int32) : Int32 × (Nat → Int32) × (Nat → Int32) × (Nat → Int32) × (Nat → Int32) × (Nat → Int32) := (f_X11_branch_c151 status (f_X11_done s1 (s2 + s3) (now + (4 : Int32)) now address did ready trace).1 (f_X11_done s1 (s2 + s3) (now + (4 : Int32)) now address did ready trace).2.1 (f_X11_done s1 (s2 + s3) (now + (4 : Int32)) now address did ready trace).2.2.1 (f_X11_done s1 (s2 + s3) (now + (4 : Int32)) now address did ready trace).2.2.2.1 (f_X11_done s1 (s2 + s3) (now + (4 : Int32)) now address did ready trace).2.2.2.2)
set_option maxRecDepth 20000 in
theorem j_X11_branch_144 {s1 : Int32} {s2 : Int32} {s3 : Int32} {refusal : Int32} {wheel : Int32} {now : Int32} {length : Int32} {at_ : Int32} {fault : Int32} {faultLine : Int32} {line : Int32} {words : Int32} {labels : Int32} {targets : Int32} {wrong : Int32} {unfit : Int32} {text : Nat → Int32} {code_ : Nat → Int32} {label : Nat → Int64} {labelWord : Nat → Int32} {target : Nat → Int64} {targetWord : Nat → Int32} {targetLine : Nat → Int32} {store : Nat → Int32} {common : Nat → Int32} {low : Nat → Int32} {high : Nat → Int32} {register : Nat → Int32} {address : Nat → Int32} {status : Nat → Int32} {did : Nat → Int32} {ready : Nat → Int32} {timer : Nat → Int32} {trace : Nat → Int32} {r_0 : Int32} {r_1 : (Nat → Int32)} {r_2 : (Nat → Int32)} {r_3 : (Nat → Int32)} {r_4 : (Nat → Int32)} {r_5 : (Nat → Int32)} (hres : (r_0, r_1, r_2, r_3, r_4, r_5) = (f_X11_branch_144 now address status did ready trace s1 s2 s3)) (hts : 0 ≤ s1.toInt ∧ s1.toInt < 4) (hdid : ∀ j, j < 4 → 0 ≤ (did j).toInt) : G M_X11_branch 0 0 144 [(0, .ref 0)] [.int s3, .int s2, .int s1, .ref 0] (w_M refusal wheel now length at_ fault faultLine line words labels targets wrong unfit text code_ label labelWord target targetWord targetLine store common low high register address status did ready timer trace) (some (.int r_0)) (w_M refusal wheel now length at_ fault faultLine line words labels targets wrong unfit text code_ label labelWord target targetWord targetLine store common low high register r_1 r_2 r_3 r_4 timer r_5) := by
  rw [f_X11_branch_144] at hres
  refine G.iadd (pc := 144) dm_X11_branch_144 ?_
  refine G.aload_n (pc := 145) dm_X11_branch_145 rfl ?_
  refine G.getfield (pc := 146) dm_X11_branch_146 gf_X11_291 rfl rfl ?_
  refine G.iconst (pc := 149) (v := (4 : Int32)) dm_X11_branch_149 qi_4 ?_
  refine G.iadd (pc := 150) dm_X11_branch_150 ?_
  obtain ⟨z3_0, z3_1, z3_2, z3_3, z3_4, hz3⟩ : ∃ (z3_0 : Int32) (z3_1 : (Nat → Int32)) (z3_2 : (Nat → Int32)) (z3_3 : (Nat → Int32)) (z3_4 : (Nat → Int32)), (z3_0, z3_1, z3_2, z3_3, z3_4) = f_X11_done s1 (s2 + s3) (now + (4 : Int32)) now address did ready trace := ⟨_, _, _, _, _, rfl⟩
  refine G.callV0 (pc := 151) (rest := []) (st1 := [.int z3_0]) dm_X11_branch_151 gc_X11_branch_319 (k_X11_done (t := s1) (a := (s2 + s3)) (when := (now + (4 : Int32))) (refusal := refusal) (wheel := wheel) (now := now) (length := length) (at_ := at_) (fault := fault) (faultLine := faultLine) (line := line) (words := words) (labels := labels) (targets := targets) (wrong := wrong) (unfit := unfit) (text := text) (code_ := code_) (label := label) (labelWord := labelWord) (target := target) (targetWord := targetWord) (targetLine := targetLine) (store := store) (common := common) (low := low) (high := high) (register := register) (address := address) (status := status) (did := did) (ready := ready) (timer := timer) (trace := trace) (by first | assumption | exact q_31 _) (by first | assumption | exact q_31 _) hz3) rfl rfl rfl rfl rfl rfl rfl rfl ?_
  replace hres : (r_0, r_1, r_2, r_3, r_4, r_5) = f_X11_branch_c151 status z3_0 z3_1 z3_2 z3_3 z3_4 := hres.trans (by rw [← hz3])
  rw [f_X11_branch_c151] at hres
  cases hres
  exact G.ireturn (pc := 154) dm_X11_branch_154 rfl rfl rfl
def f_X11_branch_c120 (t : Int32) (w : Int32) (now : Int32) (address : Nat → Int32) (status : Nat → Int32) (did : Nat → Int32) (ready : Nat → Int32) (trace : Nat → Int32) (z2_0 : Int32) : Int32 × (Nat → Int32) × (Nat → Int32) × (Nat → Int32) × (Nat → Int32) × (Nat → Int32) := (if z2_0 = 0 then (f_X11_branch_144 now address status did ready trace t (address (Int32.toNatClampNeg t)) (4 : Int32)) else (f_X11_branch_144 now address status did ready trace t (address (Int32.toNatClampNeg t)) ((((((w >>> ((8 : Int32) &&& 31)) &&& (15 : Int32)) <<< ((1 : Int32) &&& 31)) ||| (((w >>> ((25 : Int32) &&& 31)) &&& (63 : Int32)) <<< ((5 : Int32) &&& 31))) ||| (((w >>> ((7 : Int32) &&& 31)) &&& (1 : Int32)) <<< ((11 : Int32) &&& 31))) ||| ((w >>> ((31 : Int32) &&& 31)) <<< ((12 : Int32) &&& 31)))))
def f_X11_branch (t : Int32) (w : Int32) (now : Int32) (register : Nat → Int32) (address : Nat → Int32) (status : Nat → Int32) (did : Nat → Int32) (ready : Nat → Int32) (trace : Nat → Int32) : Int32 × (Nat → Int32) × (Nat → Int32) × (Nat → Int32) × (Nat → Int32) × (Nat → Int32) := (if ((w >>> ((12 : Int32) &&& 31)) &&& (7 : Int32)) = (2 : Int32) then (f_X11_branch_50 address status did ready trace t) else (if ((w >>> ((12 : Int32) &&& 31)) &&& (7 : Int32)) = (3 : Int32) then (f_X11_branch_50 address status did ready trace t) else (if (15 : Int32) < ((w >>> ((15 : Int32) &&& 31)) &&& (31 : Int32)) then (f_X11_branch_50 address status did ready trace t) else (if ((w >>> ((20 : Int32) &&& 31)) &&& (31 : Int32)) ≤ (15 : Int32) then (f_X11_branch_c120 t w now address status did ready trace (f_X11_goes ((w >>> ((12 : Int32) &&& 31)) &&& (7 : Int32)) (register (Int32.toNatClampNeg (((16 : Int32) * t) + ((w >>> ((15 : Int32) &&& 31)) &&& (31 : Int32))))) (register (Int32.toNatClampNeg (((16 : Int32) * t) + ((w >>> ((20 : Int32) &&& 31)) &&& (31 : Int32))))))) else (f_X11_branch_50 address status did ready trace t)))))
set_option maxRecDepth 20000 in
theorem k_X11_branch {t : Int32} {w : Int32} {refusal : Int32} {wheel : Int32} {now : Int32} {length : Int32} {at_ : Int32} {fault : Int32} {faultLine : Int32} {line : Int32} {words : Int32} {labels : Int32} {targets : Int32} {wrong : Int32} {unfit : Int32} {text : Nat → Int32} {code_ : Nat → Int32} {label : Nat → Int64} {labelWord : Nat → Int32} {target : Nat → Int64} {targetWord : Nat → Int32} {targetLine : Nat → Int32} {store : Nat → Int32} {common : Nat → Int32} {low : Nat → Int32} {high : Nat → Int32} {register : Nat → Int32} {address : Nat → Int32} {status : Nat → Int32} {did : Nat → Int32} {ready : Nat → Int32} {timer : Nat → Int32} {trace : Nat → Int32} (ht : 0 ≤ t.toInt ∧ t.toInt < 4) (hdid : ∀ j, j < 4 → 0 ≤ (did j).toInt) {r_0 : Int32} {r_1 : (Nat → Int32)} {r_2 : (Nat → Int32)} {r_3 : (Nat → Int32)} {r_4 : (Nat → Int32)} {r_5 : (Nat → Int32)} (hres : (r_0, r_1, r_2, r_3, r_4, r_5) = f_X11_branch t w now register address status did ready trace) : K M_X11_branch yX11_branch [.ref 0, .int t, .int w] (w_M refusal wheel now length at_ fault faultLine line words labels targets wrong unfit text code_ label labelWord target targetWord targetLine store common low high register address status did ready timer trace) (some (.int r_0)) (w_M refusal wheel now length at_ fault faultLine line words labels targets wrong unfit text code_ label labelWord target targetWord targetLine store common low high register r_1 r_2 r_3 r_4 timer r_5) := by
  refine K.of (lv := [(0, .ref 0), (1, .int t), (2, .int w)]) (by decide +kernel) rfl rfl rfl ?_
  rw [f_X11_branch] at hres
  refine G.iload_n (pc := 0) dm_X11_branch_0 rfl ?_
  refine G.bipush (pc := 1) (v := (12 : Int32)) dm_X11_branch_1 qb_12 ?_
  refine G.ishr (pc := 3) dm_X11_branch_3 ?_
  refine G.bipush (pc := 4) (v := (7 : Int32)) dm_X11_branch_4 qb_7 ?_
  refine G.iand (pc := 6) dm_X11_branch_6 ?_
  refine G.istore_n (pc := 7) (lv1 := [(3, .int ((w >>> ((12 : Int32) &&& 31)) &&& (7 : Int32))), (0, .ref 0), (1, .int t), (2, .int w)]) dm_X11_branch_7 rfl rfl ?_
  refine G.iload_n (pc := 8) dm_X11_branch_8 rfl ?_
  refine G.bipush (pc := 9) (v := (15 : Int32)) dm_X11_branch_9 qb_15 ?_
  refine G.ishr (pc := 11) dm_X11_branch_11 ?_
  refine G.bipush (pc := 12) (v := (31 : Int32)) dm_X11_branch_12 qb_31 ?_
  refine G.iand (pc := 14) dm_X11_branch_14 ?_
  refine G.istore (pc := 15) (lv1 := [(4, .int ((w >>> ((15 : Int32) &&& 31)) &&& (31 : Int32))), (3, .int ((w >>> ((12 : Int32) &&& 31)) &&& (7 : Int32))), (0, .ref 0), (1, .int t), (2, .int w)]) dm_X11_branch_15 rfl rfl ?_
  refine G.iload_n (pc := 17) dm_X11_branch_17 rfl ?_
  refine G.bipush (pc := 18) (v := (20 : Int32)) dm_X11_branch_18 qb_20 ?_
  refine G.ishr (pc := 20) dm_X11_branch_20 ?_
  refine G.bipush (pc := 21) (v := (31 : Int32)) dm_X11_branch_21 qb_31 ?_
  refine G.iand (pc := 23) dm_X11_branch_23 ?_
  refine G.istore (pc := 24) (lv1 := [(5, .int ((w >>> ((20 : Int32) &&& 31)) &&& (31 : Int32))), (4, .int ((w >>> ((15 : Int32) &&& 31)) &&& (31 : Int32))), (3, .int ((w >>> ((12 : Int32) &&& 31)) &&& (7 : Int32))), (0, .ref 0), (1, .int t), (2, .int w)]) dm_X11_branch_24 rfl rfl ?_
  refine G.iload_n (pc := 26) dm_X11_branch_26 rfl ?_
  refine G.iconst (pc := 27) (v := (2 : Int32)) dm_X11_branch_27 qi_2 ?_
  refine G.icmp_eq (pc := 28) (tgt := 50) dm_X11_branch_28 (by decide) (fun c28 => ?_) (fun c28 => ?_)
  · rw [if_pos c28] at hres
    refine G.lvp [3, 4] rfl ?_
    exact j_X11_branch_50 hres (by first | assumption | exact q_31 _)
  · rw [if_neg c28] at hres
    refine G.iload_n (pc := 31) dm_X11_branch_31 rfl ?_
    refine G.iconst (pc := 32) (v := (3 : Int32)) dm_X11_branch_32 qi_3 ?_
    refine G.icmp_eq (pc := 33) (tgt := 50) dm_X11_branch_33 (by decide) (fun c33 => ?_) (fun c33 => ?_)
    · rw [if_pos c33] at hres
      refine G.lvp [3, 4] rfl ?_
      exact j_X11_branch_50 hres (by first | assumption | exact q_31 _)
    · rw [if_neg c33] at hres
      refine G.iload (pc := 36) dm_X11_branch_36 rfl ?_
      refine G.bipush (pc := 38) (v := (15 : Int32)) dm_X11_branch_38 qb_15 ?_
      refine G.icmp_gt (pc := 40) (tgt := 50) dm_X11_branch_40 (by decide) (fun c40 => ?_) (fun c40 => ?_)
      · rw [if_pos c40] at hres
        refine G.lvp [3, 4] rfl ?_
        exact j_X11_branch_50 hres (by first | assumption | exact q_31 _)
      · rw [if_neg c40] at hres
        refine G.iload (pc := 43) dm_X11_branch_43 rfl ?_
        refine G.bipush (pc := 45) (v := (15 : Int32)) dm_X11_branch_45 qb_15 ?_
        refine G.icmp_le (pc := 47) (tgt := 56) dm_X11_branch_47 (by decide) (fun c47 => ?_) (fun c47 => ?_)
        · rw [if_pos c47] at hres
          refine G.iload_n (pc := 56) dm_X11_branch_56 rfl ?_
          refine G.bipush (pc := 57) (v := (8 : Int32)) dm_X11_branch_57 qb_8 ?_
          refine G.ishr (pc := 59) dm_X11_branch_59 ?_
          refine G.bipush (pc := 60) (v := (15 : Int32)) dm_X11_branch_60 qb_15 ?_
          refine G.iand (pc := 62) dm_X11_branch_62 ?_
          refine G.iconst (pc := 63) (v := (1 : Int32)) dm_X11_branch_63 qi_1 ?_
          refine G.ishl (pc := 64) dm_X11_branch_64 ?_
          refine G.iload_n (pc := 65) dm_X11_branch_65 rfl ?_
          refine G.bipush (pc := 66) (v := (25 : Int32)) dm_X11_branch_66 qb_25 ?_
          refine G.ishr (pc := 68) dm_X11_branch_68 ?_
          refine G.bipush (pc := 69) (v := (63 : Int32)) dm_X11_branch_69 qb_63 ?_
          refine G.iand (pc := 71) dm_X11_branch_71 ?_
          refine G.iconst (pc := 72) (v := (5 : Int32)) dm_X11_branch_72 qi_5 ?_
          refine G.ishl (pc := 73) dm_X11_branch_73 ?_
          refine G.ior (pc := 74) dm_X11_branch_74 ?_
          refine G.iload_n (pc := 75) dm_X11_branch_75 rfl ?_
          refine G.bipush (pc := 76) (v := (7 : Int32)) dm_X11_branch_76 qb_7 ?_
          refine G.ishr (pc := 78) dm_X11_branch_78 ?_
          refine G.iconst (pc := 79) (v := (1 : Int32)) dm_X11_branch_79 qi_1 ?_
          refine G.iand (pc := 80) dm_X11_branch_80 ?_
          refine G.bipush (pc := 81) (v := (11 : Int32)) dm_X11_branch_81 qb_11 ?_
          refine G.ishl (pc := 83) dm_X11_branch_83 ?_
          refine G.ior (pc := 84) dm_X11_branch_84 ?_
          refine G.iload_n (pc := 85) dm_X11_branch_85 rfl ?_
          refine G.bipush (pc := 86) (v := (31 : Int32)) dm_X11_branch_86 qb_31 ?_
          refine G.ishr (pc := 88) dm_X11_branch_88 ?_
          refine G.bipush (pc := 89) (v := (12 : Int32)) dm_X11_branch_89 qb_12 ?_
          refine G.ishl (pc := 91) dm_X11_branch_91 ?_
          refine G.ior (pc := 92) dm_X11_branch_92 ?_
          refine G.istore (pc := 93) (lv1 := [(6, .int ((((((w >>> ((8 : Int32) &&& 31)) &&& (15 : Int32)) <<< ((1 : Int32) &&& 31)) ||| (((w >>> ((25 : Int32) &&& 31)) &&& (63 : Int32)) <<< ((5 : Int32) &&& 31))) ||| (((w >>> ((7 : Int32) &&& 31)) &&& (1 : Int32)) <<< ((11 : Int32) &&& 31))) ||| ((w >>> ((31 : Int32) &&& 31)) <<< ((12 : Int32) &&& 31)))), (5, .int ((w >>> ((20 : Int32) &&& 31)) &&& (31 : Int32))), (4, .int ((w >>> ((15 : Int32) &&& 31)) &&& (31 : Int32))), (3, .int ((w >>> ((12 : Int32) &&& 31)) &&& (7 : Int32))), (0, .ref 0), (1, .int t), (2, .int w)]) dm_X11_branch_93 rfl rfl ?_
          refine G.iload_n (pc := 95) dm_X11_branch_95 rfl ?_
          refine G.aload_n (pc := 96) dm_X11_branch_96 rfl ?_
          refine G.getfield (pc := 97) dm_X11_branch_97 gf_X11_45 rfl rfl ?_
          refine G.bipush (pc := 100) (v := (16 : Int32)) dm_X11_branch_100 qb_16 ?_
          refine G.iload_n (pc := 102) dm_X11_branch_102 rfl ?_
          refine G.imul (pc := 103) dm_X11_branch_103 ?_
          refine G.iload (pc := 104) dm_X11_branch_104 rfl ?_
          refine G.iadd (pc := 106) dm_X11_branch_106 ?_
          refine G.iaload (pc := 107) dm_X11_branch_107 rfl (q_i16 ht (q_16 (q_31 _) c40)) ?_
          refine G.aload_n (pc := 108) dm_X11_branch_108 rfl ?_
          refine G.getfield (pc := 109) dm_X11_branch_109 gf_X11_45 rfl rfl ?_
          refine G.bipush (pc := 112) (v := (16 : Int32)) dm_X11_branch_112 qb_16 ?_
          refine G.iload_n (pc := 114) dm_X11_branch_114 rfl ?_
          refine G.imul (pc := 115) dm_X11_branch_115 ?_
          refine G.iload (pc := 116) dm_X11_branch_116 rfl ?_
          refine G.iadd (pc := 118) dm_X11_branch_118 ?_
          refine G.iaload (pc := 119) dm_X11_branch_119 rfl (q_i16 ht (q_16' (q_31 _) c47)) ?_
          obtain ⟨z2_0, hz2⟩ : ∃ (z2_0 : Int32), z2_0 = f_X11_goes ((w >>> ((12 : Int32) &&& 31)) &&& (7 : Int32)) (register (Int32.toNatClampNeg (((16 : Int32) * t) + ((w >>> ((15 : Int32) &&& 31)) &&& (31 : Int32))))) (register (Int32.toNatClampNeg (((16 : Int32) * t) + ((w >>> ((20 : Int32) &&& 31)) &&& (31 : Int32))))) := ⟨_, rfl⟩
          refine G.callS (pc := 120) (rest := []) (st1 := [.int z2_0]) (ws1 := (w_M refusal wheel now length at_ fault faultLine line words labels targets wrong unfit text code_ label labelWord target targetWord targetLine store common low high register address status did ready timer trace)) [] dm_X11_branch_120 gc_X11_branch_327 (k_X11_goes (f := ((w >>> ((12 : Int32) &&& 31)) &&& (7 : Int32))) (a := (register (Int32.toNatClampNeg (((16 : Int32) * t) + ((w >>> ((15 : Int32) &&& 31)) &&& (31 : Int32)))))) (b := (register (Int32.toNatClampNeg (((16 : Int32) * t) + ((w >>> ((20 : Int32) &&& 31)) &&& (31 : Int32)))))) hz2) rfl rfl rfl rfl rfl rfl rfl rfl ?_
          replace hres : (r_0, r_1, r_2, r_3, r_4, r_5) = f_X11_branch_c120 t w now address status did ready trace z2_0 := hres.trans (by rw [← hz2])
          rw [f_X11_branch_c120] at hres
          refine G.istore (pc := 123) (lv1 := [(7, .int z2_0), (6, .int ((((((w >>> ((8 : Int32) &&& 31)) &&& (15 : Int32)) <<< ((1 : Int32) &&& 31)) ||| (((w >>> ((25 : Int32) &&& 31)) &&& (63 : Int32)) <<< ((5 : Int32) &&& 31))) ||| (((w >>> ((7 : Int32) &&& 31)) &&& (1 : Int32)) <<< ((11 : Int32) &&& 31))) ||| ((w >>> ((31 : Int32) &&& 31)) <<< ((12 : Int32) &&& 31)))), (5, .int ((w >>> ((20 : Int32) &&& 31)) &&& (31 : Int32))), (4, .int ((w >>> ((15 : Int32) &&& 31)) &&& (31 : Int32))), (3, .int ((w >>> ((12 : Int32) &&& 31)) &&& (7 : Int32))), (0, .ref 0), (1, .int t), (2, .int w)]) dm_X11_branch_123 rfl rfl ?_
          refine G.aload_n (pc := 125) dm_X11_branch_125 rfl ?_
          refine G.iload_n (pc := 126) dm_X11_branch_126 rfl ?_
          refine G.aload_n (pc := 127) dm_X11_branch_127 rfl ?_
          refine G.getfield (pc := 128) dm_X11_branch_128 gf_X11_48 rfl rfl ?_
          refine G.iload_n (pc := 131) dm_X11_branch_131 rfl ?_
          refine G.iaload (pc := 132) dm_X11_branch_132 rfl (q_t ht) ?_
          refine G.iload (pc := 133) dm_X11_branch_133 rfl ?_
          refine G.if_eq (pc := 135) (tgt := 143) dm_X11_branch_135 (by decide) (fun c135 => ?_) (fun c135 => ?_)
          · rw [if_pos c135] at hres
            refine G.iconst (pc := 143) (v := (4 : Int32)) dm_X11_branch_143 qi_4 ?_
            refine G.lvp [5] rfl ?_
            exact j_X11_branch_144 hres (by first | assumption | exact q_31 _) (by first | assumption | exact q_31 _)
          · rw [if_neg c135] at hres
            refine G.iload (pc := 138) dm_X11_branch_138 rfl ?_
            refine G.goto (pc := 140) (tgt := 144) dm_X11_branch_140 (by decide) ?_
            refine G.lvp [5] rfl ?_
            exact j_X11_branch_144 hres (by first | assumption | exact q_31 _) (by first | assumption | exact q_31 _)
        · rw [if_neg c47] at hres
          refine G.lvp [3, 4] rfl ?_
          exact j_X11_branch_50 hres (by first | assumption | exact q_31 _)
abbrev M_X11_clock : g_M := (cX11_clock, 8, RX11, (some .int), { frames := 1, cells := 0, slots := 0, locals := 24 }, 0, 0)
theorem dm_X11_clock_0 : decode M_X11_clock.1 0 = .ok (.iload_n 2, 1) := by decide +kernel
theorem dm_X11_clock_1 : decode M_X11_clock.1 1 = .ok (.bipush 12, 2) := by decide +kernel
theorem dm_X11_clock_3 : decode M_X11_clock.1 3 = .ok (.ishr, 1) := by decide +kernel
theorem dm_X11_clock_4 : decode M_X11_clock.1 4 = .ok (.bipush 7, 2) := by decide +kernel
theorem dm_X11_clock_6 : decode M_X11_clock.1 6 = .ok (.iand, 1) := by decide +kernel
theorem dm_X11_clock_7 : decode M_X11_clock.1 7 = .ok (.istore_n 3, 1) := by decide +kernel
theorem dm_X11_clock_8 : decode M_X11_clock.1 8 = .ok (.iload_n 2, 1) := by decide +kernel
theorem dm_X11_clock_9 : decode M_X11_clock.1 9 = .ok (.bipush 7, 2) := by decide +kernel
theorem dm_X11_clock_11 : decode M_X11_clock.1 11 = .ok (.ishr, 1) := by decide +kernel
theorem dm_X11_clock_12 : decode M_X11_clock.1 12 = .ok (.bipush 31, 2) := by decide +kernel
theorem dm_X11_clock_14 : decode M_X11_clock.1 14 = .ok (.iand, 1) := by decide +kernel
theorem dm_X11_clock_15 : decode M_X11_clock.1 15 = .ok (.istore 4, 2) := by decide +kernel
theorem dm_X11_clock_17 : decode M_X11_clock.1 17 = .ok (.iload_n 2, 1) := by decide +kernel
theorem dm_X11_clock_18 : decode M_X11_clock.1 18 = .ok (.bipush 15, 2) := by decide +kernel
theorem dm_X11_clock_20 : decode M_X11_clock.1 20 = .ok (.ishr, 1) := by decide +kernel
theorem dm_X11_clock_21 : decode M_X11_clock.1 21 = .ok (.bipush 31, 2) := by decide +kernel
theorem dm_X11_clock_23 : decode M_X11_clock.1 23 = .ok (.iand, 1) := by decide +kernel
theorem dm_X11_clock_24 : decode M_X11_clock.1 24 = .ok (.istore 5, 2) := by decide +kernel
theorem dm_X11_clock_26 : decode M_X11_clock.1 26 = .ok (.iload_n 3, 1) := by decide +kernel
theorem dm_X11_clock_27 : decode M_X11_clock.1 27 = .ok (.iconst 1, 1) := by decide +kernel
theorem dm_X11_clock_28 : decode M_X11_clock.1 28 = .ok (.if_icmp .gt 27, 3) := by decide +kernel
theorem dm_X11_clock_31 : decode M_X11_clock.1 31 = .ok (.iload_n 3, 1) := by decide +kernel
theorem dm_X11_clock_32 : decode M_X11_clock.1 32 = .ok (.ifCond .ne 16, 3) := by decide +kernel
theorem dm_X11_clock_35 : decode M_X11_clock.1 35 = .ok (.iload 4, 2) := by decide +kernel
theorem dm_X11_clock_37 : decode M_X11_clock.1 37 = .ok (.iconst 3, 1) := by decide +kernel
theorem dm_X11_clock_38 : decode M_X11_clock.1 38 = .ok (.if_icmp .gt 17, 3) := by decide +kernel
theorem dm_X11_clock_41 : decode M_X11_clock.1 41 = .ok (.iload 5, 2) := by decide +kernel
theorem dm_X11_clock_43 : decode M_X11_clock.1 43 = .ok (.bipush 15, 2) := by decide +kernel
theorem dm_X11_clock_45 : decode M_X11_clock.1 45 = .ok (.if_icmp .gt 10, 3) := by decide +kernel
theorem dm_X11_clock_48 : decode M_X11_clock.1 48 = .ok (.iload 4, 2) := by decide +kernel
theorem dm_X11_clock_50 : decode M_X11_clock.1 50 = .ok (.bipush 15, 2) := by decide +kernel
theorem dm_X11_clock_52 : decode M_X11_clock.1 52 = .ok (.if_icmp .le 9, 3) := by decide +kernel
theorem dm_X11_clock_55 : decode M_X11_clock.1 55 = .ok (.aload_n 0, 1) := by decide +kernel
theorem dm_X11_clock_56 : decode M_X11_clock.1 56 = .ok (.iload_n 1, 1) := by decide +kernel
theorem dm_X11_clock_57 : decode M_X11_clock.1 57 = .ok (.invokevirtual 299, 3) := by decide +kernel
theorem dm_X11_clock_60 : decode M_X11_clock.1 60 = .ok (.ireturn, 1) := by decide +kernel
theorem dm_X11_clock_61 : decode M_X11_clock.1 61 = .ok (.iload_n 3, 1) := by decide +kernel
theorem dm_X11_clock_62 : decode M_X11_clock.1 62 = .ok (.iconst 1, 1) := by decide +kernel
theorem dm_X11_clock_63 : decode M_X11_clock.1 63 = .ok (.if_icmp .ne 34, 3) := by decide +kernel
theorem dm_X11_clock_66 : decode M_X11_clock.1 66 = .ok (.aload_n 0, 1) := by decide +kernel
theorem dm_X11_clock_67 : decode M_X11_clock.1 67 = .ok (.iload_n 1, 1) := by decide +kernel
theorem dm_X11_clock_68 : decode M_X11_clock.1 68 = .ok (.iload 4, 2) := by decide +kernel
theorem dm_X11_clock_70 : decode M_X11_clock.1 70 = .ok (.aload_n 0, 1) := by decide +kernel
theorem dm_X11_clock_71 : decode M_X11_clock.1 71 = .ok (.getfield 291, 3) := by decide +kernel
theorem dm_X11_clock_74 : decode M_X11_clock.1 74 = .ok (.invokevirtual 313, 3) := by decide +kernel
theorem dm_X11_clock_77 : decode M_X11_clock.1 77 = .ok (.aload_n 0, 1) := by decide +kernel
theorem dm_X11_clock_78 : decode M_X11_clock.1 78 = .ok (.iload_n 1, 1) := by decide +kernel
theorem dm_X11_clock_79 : decode M_X11_clock.1 79 = .ok (.aload_n 0, 1) := by decide +kernel
theorem dm_X11_clock_80 : decode M_X11_clock.1 80 = .ok (.getfield 48, 3) := by decide +kernel
theorem dm_X11_clock_83 : decode M_X11_clock.1 83 = .ok (.iload_n 1, 1) := by decide +kernel
theorem dm_X11_clock_84 : decode M_X11_clock.1 84 = .ok (.iaload, 1) := by decide +kernel
theorem dm_X11_clock_85 : decode M_X11_clock.1 85 = .ok (.iconst 4, 1) := by decide +kernel
theorem dm_X11_clock_86 : decode M_X11_clock.1 86 = .ok (.iadd, 1) := by decide +kernel
theorem dm_X11_clock_87 : decode M_X11_clock.1 87 = .ok (.aload_n 0, 1) := by decide +kernel
theorem dm_X11_clock_88 : decode M_X11_clock.1 88 = .ok (.getfield 291, 3) := by decide +kernel
theorem dm_X11_clock_91 : decode M_X11_clock.1 91 = .ok (.iconst 4, 1) := by decide +kernel
theorem dm_X11_clock_92 : decode M_X11_clock.1 92 = .ok (.iadd, 1) := by decide +kernel
theorem dm_X11_clock_93 : decode M_X11_clock.1 93 = .ok (.invokevirtual 319, 3) := by decide +kernel
theorem dm_X11_clock_96 : decode M_X11_clock.1 96 = .ok (.ireturn, 1) := by decide +kernel
theorem dm_X11_clock_97 : decode M_X11_clock.1 97 = .ok (.aload_n 0, 1) := by decide +kernel
theorem dm_X11_clock_98 : decode M_X11_clock.1 98 = .ok (.getfield 291, 3) := by decide +kernel
theorem dm_X11_clock_101 : decode M_X11_clock.1 101 = .ok (.aload_n 0, 1) := by decide +kernel
theorem dm_X11_clock_102 : decode M_X11_clock.1 102 = .ok (.getfield 60, 3) := by decide +kernel
theorem dm_X11_clock_105 : decode M_X11_clock.1 105 = .ok (.iconst 4, 1) := by decide +kernel
theorem dm_X11_clock_106 : decode M_X11_clock.1 106 = .ok (.iload_n 1, 1) := by decide +kernel
theorem dm_X11_clock_107 : decode M_X11_clock.1 107 = .ok (.imul, 1) := by decide +kernel
theorem dm_X11_clock_108 : decode M_X11_clock.1 108 = .ok (.iload 4, 2) := by decide +kernel
theorem dm_X11_clock_110 : decode M_X11_clock.1 110 = .ok (.iadd, 1) := by decide +kernel
theorem dm_X11_clock_111 : decode M_X11_clock.1 111 = .ok (.iaload, 1) := by decide +kernel
theorem dm_X11_clock_112 : decode M_X11_clock.1 112 = .ok (.if_icmp .ge 5, 3) := by decide +kernel
theorem dm_X11_clock_115 : decode M_X11_clock.1 115 = .ok (.iconst 0, 1) := by decide +kernel
theorem dm_X11_clock_116 : decode M_X11_clock.1 116 = .ok (.ireturn, 1) := by decide +kernel
theorem dm_X11_clock_117 : decode M_X11_clock.1 117 = .ok (.aload_n 0, 1) := by decide +kernel
theorem dm_X11_clock_118 : decode M_X11_clock.1 118 = .ok (.getfield 291, 3) := by decide +kernel
theorem dm_X11_clock_121 : decode M_X11_clock.1 121 = .ok (.i2l, 1) := by decide +kernel
theorem dm_X11_clock_122 : decode M_X11_clock.1 122 = .ok (.aload_n 0, 1) := by decide +kernel
theorem dm_X11_clock_123 : decode M_X11_clock.1 123 = .ok (.getfield 45, 3) := by decide +kernel
theorem dm_X11_clock_126 : decode M_X11_clock.1 126 = .ok (.bipush 16, 2) := by decide +kernel
theorem dm_X11_clock_128 : decode M_X11_clock.1 128 = .ok (.iload_n 1, 1) := by decide +kernel
theorem dm_X11_clock_129 : decode M_X11_clock.1 129 = .ok (.imul, 1) := by decide +kernel
theorem dm_X11_clock_130 : decode M_X11_clock.1 130 = .ok (.iload 5, 2) := by decide +kernel
theorem dm_X11_clock_132 : decode M_X11_clock.1 132 = .ok (.iadd, 1) := by decide +kernel
theorem dm_X11_clock_133 : decode M_X11_clock.1 133 = .ok (.iaload, 1) := by decide +kernel
theorem dm_X11_clock_134 : decode M_X11_clock.1 134 = .ok (.i2l, 1) := by decide +kernel
theorem dm_X11_clock_135 : decode M_X11_clock.1 135 = .ok (.ladd, 1) := by decide +kernel
theorem dm_X11_clock_136 : decode M_X11_clock.1 136 = .ok (.iload_n 2, 1) := by decide +kernel
theorem dm_X11_clock_137 : decode M_X11_clock.1 137 = .ok (.bipush 20, 2) := by decide +kernel
theorem dm_X11_clock_139 : decode M_X11_clock.1 139 = .ok (.ishr, 1) := by decide +kernel
theorem dm_X11_clock_140 : decode M_X11_clock.1 140 = .ok (.i2l, 1) := by decide +kernel
theorem dm_X11_clock_141 : decode M_X11_clock.1 141 = .ok (.ladd, 1) := by decide +kernel
theorem dm_X11_clock_142 : decode M_X11_clock.1 142 = .ok (.lstore 6, 2) := by decide +kernel
theorem dm_X11_clock_144 : decode M_X11_clock.1 144 = .ok (.aload_n 0, 1) := by decide +kernel
theorem dm_X11_clock_145 : decode M_X11_clock.1 145 = .ok (.getfield 60, 3) := by decide +kernel
theorem dm_X11_clock_148 : decode M_X11_clock.1 148 = .ok (.iconst 4, 1) := by decide +kernel
theorem dm_X11_clock_149 : decode M_X11_clock.1 149 = .ok (.iload_n 1, 1) := by decide +kernel
theorem dm_X11_clock_150 : decode M_X11_clock.1 150 = .ok (.imul, 1) := by decide +kernel
theorem dm_X11_clock_151 : decode M_X11_clock.1 151 = .ok (.iload 4, 2) := by decide +kernel
theorem dm_X11_clock_153 : decode M_X11_clock.1 153 = .ok (.iadd, 1) := by decide +kernel
theorem dm_X11_clock_154 : decode M_X11_clock.1 154 = .ok (.lload 6, 2) := by decide +kernel
theorem dm_X11_clock_156 : decode M_X11_clock.1 156 = .ok (.aload_n 0, 1) := by decide +kernel
theorem dm_X11_clock_157 : decode M_X11_clock.1 157 = .ok (.getfield 291, 3) := by decide +kernel
theorem dm_X11_clock_160 : decode M_X11_clock.1 160 = .ok (.i2l, 1) := by decide +kernel
theorem dm_X11_clock_161 : decode M_X11_clock.1 161 = .ok (.lcmp, 1) := by decide +kernel
theorem dm_X11_clock_162 : decode M_X11_clock.1 162 = .ok (.ifCond .ge 10, 3) := by decide +kernel
theorem dm_X11_clock_165 : decode M_X11_clock.1 165 = .ok (.aload_n 0, 1) := by decide +kernel
theorem dm_X11_clock_166 : decode M_X11_clock.1 166 = .ok (.getfield 291, 3) := by decide +kernel
theorem dm_X11_clock_169 : decode M_X11_clock.1 169 = .ok (.goto 21, 3) := by decide +kernel
theorem dm_X11_clock_172 : decode M_X11_clock.1 172 = .ok (.lload 6, 2) := by decide +kernel
theorem dm_X11_clock_174 : decode M_X11_clock.1 174 = .ok (.ldc2_w 330, 3) := by decide +kernel
theorem dm_X11_clock_177 : decode M_X11_clock.1 177 = .ok (.lcmp, 1) := by decide +kernel
theorem dm_X11_clock_178 : decode M_X11_clock.1 178 = .ok (.ifCond .le 9, 3) := by decide +kernel
theorem dm_X11_clock_181 : decode M_X11_clock.1 181 = .ok (.ldc_w 332, 3) := by decide +kernel
theorem dm_X11_clock_184 : decode M_X11_clock.1 184 = .ok (.goto 6, 3) := by decide +kernel
theorem dm_X11_clock_187 : decode M_X11_clock.1 187 = .ok (.lload 6, 2) := by decide +kernel
theorem dm_X11_clock_189 : decode M_X11_clock.1 189 = .ok (.l2i, 1) := by decide +kernel
theorem dm_X11_clock_190 : decode M_X11_clock.1 190 = .ok (.iastore, 1) := by decide +kernel
theorem dm_X11_clock_191 : decode M_X11_clock.1 191 = .ok (.aload_n 0, 1) := by decide +kernel
theorem dm_X11_clock_192 : decode M_X11_clock.1 192 = .ok (.iload_n 1, 1) := by decide +kernel
theorem dm_X11_clock_193 : decode M_X11_clock.1 193 = .ok (.aload_n 0, 1) := by decide +kernel
theorem dm_X11_clock_194 : decode M_X11_clock.1 194 = .ok (.getfield 48, 3) := by decide +kernel
theorem dm_X11_clock_197 : decode M_X11_clock.1 197 = .ok (.iload_n 1, 1) := by decide +kernel
theorem dm_X11_clock_198 : decode M_X11_clock.1 198 = .ok (.iaload, 1) := by decide +kernel
theorem dm_X11_clock_199 : decode M_X11_clock.1 199 = .ok (.iconst 4, 1) := by decide +kernel
theorem dm_X11_clock_200 : decode M_X11_clock.1 200 = .ok (.iadd, 1) := by decide +kernel
theorem dm_X11_clock_201 : decode M_X11_clock.1 201 = .ok (.aload_n 0, 1) := by decide +kernel
theorem dm_X11_clock_202 : decode M_X11_clock.1 202 = .ok (.getfield 291, 3) := by decide +kernel
theorem dm_X11_clock_205 : decode M_X11_clock.1 205 = .ok (.iconst 4, 1) := by decide +kernel
theorem dm_X11_clock_206 : decode M_X11_clock.1 206 = .ok (.iadd, 1) := by decide +kernel
theorem dm_X11_clock_207 : decode M_X11_clock.1 207 = .ok (.invokevirtual 319, 3) := by decide +kernel
theorem dm_X11_clock_210 : decode M_X11_clock.1 210 = .ok (.ireturn, 1) := by decide +kernel
theorem gc_X11_clock_299 : g_cv M_X11_clock 299 M_X11_stop yX11_stop 1 := ⟨tw772, tw773, tw774, tw5, tw775, ⟨rfl, rfl, rfl, rfl⟩, gd_X11_stop, ⟨by decide, by decide⟩⟩
theorem gc_X11_clock_313 : g_cv M_X11_clock 313 M_X11_set yX11_set 3 := ⟨tw776, tw777, tw778, tw5, tw779, ⟨rfl, rfl, rfl, rfl⟩, gd_X11_set, ⟨by decide, by decide⟩⟩
theorem gc_X11_clock_319 : g_cv M_X11_clock 319 M_X11_done yX11_done 3 := ⟨tw780, tw781, tw782, tw5, tw783, ⟨rfl, rfl, rfl, rfl⟩, gd_X11_done, ⟨by decide, by decide⟩⟩
def f_X11_clock_c57 (register : Nat → Int32) (address : Nat → Int32) (did : Nat → Int32) (ready : Nat → Int32) (timer : Nat → Int32) (trace : Nat → Int32) (z1_0 : Int32) (z1_1 : (Nat → Int32)) : Int32 × (Nat → Int32) × (Nat → Int32) × (Nat → Int32) × (Nat → Int32) × (Nat → Int32) × (Nat → Int32) × (Nat → Int32) := (z1_0, register, address, z1_1, did, ready, timer, trace)
def f_X11_clock_55 (register : Nat → Int32) (address : Nat → Int32) (status : Nat → Int32) (did : Nat → Int32) (ready : Nat → Int32) (timer : Nat → Int32) (trace : Nat → Int32) (l1 : Int32) : Int32 × (Nat → Int32) × (Nat → Int32) × (Nat → Int32) × (Nat → Int32) × (Nat → Int32) × (Nat → Int32) × (Nat → Int32) := (f_X11_clock_c57 register address did ready timer trace (f_X11_stop l1 status).1 (f_X11_stop l1 status).2)
set_option maxRecDepth 20000 in
theorem j_X11_clock_55 {l1 : Int32} {refusal : Int32} {wheel : Int32} {now : Int32} {length : Int32} {at_ : Int32} {fault : Int32} {faultLine : Int32} {line : Int32} {words : Int32} {labels : Int32} {targets : Int32} {wrong : Int32} {unfit : Int32} {text : Nat → Int32} {code_ : Nat → Int32} {label : Nat → Int64} {labelWord : Nat → Int32} {target : Nat → Int64} {targetWord : Nat → Int32} {targetLine : Nat → Int32} {store : Nat → Int32} {common : Nat → Int32} {low : Nat → Int32} {high : Nat → Int32} {register : Nat → Int32} {address : Nat → Int32} {status : Nat → Int32} {did : Nat → Int32} {ready : Nat → Int32} {timer : Nat → Int32} {trace : Nat → Int32} {r_0 : Int32} {r_1 : (Nat → Int32)} {r_2 : (Nat → Int32)} {r_3 : (Nat → Int32)} {r_4 : (Nat → Int32)} {r_5 : (Nat → Int32)} {r_6 : (Nat → Int32)} {r_7 : (Nat → Int32)} (hres : (r_0, r_1, r_2, r_3, r_4, r_5, r_6, r_7) = (f_X11_clock_55 register address status did ready timer trace l1)) (ht : 0 ≤ l1.toInt ∧ l1.toInt < 4) : G M_X11_clock 0 0 55 [(0, .ref 0), (1, .int l1)] [] (w_M refusal wheel now length at_ fault faultLine line words labels targets wrong unfit text code_ label labelWord target targetWord targetLine store common low high register address status did ready timer trace) (some (.int r_0)) (w_M refusal wheel now length at_ fault faultLine line words labels targets wrong unfit text code_ label labelWord target targetWord targetLine store common low high r_1 r_2 r_3 r_4 r_5 r_6 r_7) := by
  rw [f_X11_clock_55] at hres
  refine G.aload_n (pc := 55) dm_X11_clock_55 rfl ?_
  refine G.iload_n (pc := 56) dm_X11_clock_56 rfl ?_
  obtain ⟨z1_0, z1_1, hz1⟩ : ∃ (z1_0 : Int32) (z1_1 : (Nat → Int32)), (z1_0, z1_1) = f_X11_stop l1 status := ⟨_, _, rfl⟩
  refine G.callV0 (pc := 57) (rest := []) (st1 := [.int z1_0]) dm_X11_clock_57 gc_X11_clock_299 (k_X11_stop (t := l1) (refusal := refusal) (wheel := wheel) (now := now) (length := length) (at_ := at_) (fault := fault) (faultLine := faultLine) (line := line) (words := words) (labels := labels) (targets := targets) (wrong := wrong) (unfit := unfit) (text := text) (code_ := code_) (label := label) (labelWord := labelWord) (target := target) (targetWord := targetWord) (targetLine := targetLine) (store := store) (common := common) (low := low) (high := high) (register := register) (address := address) (status := status) (did := did) (ready := ready) (timer := timer) (trace := trace) (by first | assumption | exact q_31 _ | exact q_i4 ht ⟨h4.1, h30.1⟩) hz1) rfl rfl rfl rfl rfl rfl rfl rfl ?_
  replace hres : (r_0, r_1, r_2, r_3, r_4, r_5, r_6, r_7) = f_X11_clock_c57 register address did ready timer trace z1_0 z1_1 := hres.trans (by rw [← hz1])
  rw [f_X11_clock_c57] at hres
  cases hres
  exact G.ireturn (pc := 60) dm_X11_clock_60 rfl rfl rfl
def f_X11_clock_c207 (register : Nat → Int32) (status : Nat → Int32) (timer : Nat → Int32) (s1 : Int32) (s2 : Int32) (z2_0 : Int32) (z2_1 : (Nat → Int32)) (z2_2 : (Nat → Int32)) (z2_3 : (Nat → Int32)) (z2_4 : (Nat → Int32)) : Int32 × (Nat → Int32) × (Nat → Int32) × (Nat → Int32) × (Nat → Int32) × (Nat → Int32) × (Nat → Int32) × (Nat → Int32) := (z2_0, register, z2_1, status, z2_2, z2_3, (upd timer (Int32.toNatClampNeg s1) s2), z2_4)
def f_X11_clock_190 (now : Int32) (register : Nat → Int32) (address : Nat → Int32) (status : Nat → Int32) (did : Nat → Int32) (ready : Nat → Int32) (timer : Nat → Int32) (trace : Nat → Int32) (l1 : Int32) (s1 : Int32) (s2 : Int32) : Int32 × (Nat → Int32) × (Nat → Int32) × (Nat → Int32) × (Nat → Int32) × (Nat → Int32) × (Nat → Int32) × (Nat → Int32) := (f_X11_clock_c207 register status timer s1 s2 (f_X11_done l1 ((address (Int32.toNatClampNeg l1)) + (4 : Int32)) (now + (4 : Int32)) now address did ready trace).1 (f_X11_done l1 ((address (Int32.toNatClampNeg l1)) + (4 : Int32)) (now + (4 : Int32)) now address did ready trace).2.1 (f_X11_done l1 ((address (Int32.toNatClampNeg l1)) + (4 : Int32)) (now + (4 : Int32)) now address did ready trace).2.2.1 (f_X11_done l1 ((address (Int32.toNatClampNeg l1)) + (4 : Int32)) (now + (4 : Int32)) now address did ready trace).2.2.2.1 (f_X11_done l1 ((address (Int32.toNatClampNeg l1)) + (4 : Int32)) (now + (4 : Int32)) now address did ready trace).2.2.2.2)
set_option maxRecDepth 20000 in
theorem j_X11_clock_190 {l1 : Int32} {s1 : Int32} {s2 : Int32} {refusal : Int32} {wheel : Int32} {now : Int32} {length : Int32} {at_ : Int32} {fault : Int32} {faultLine : Int32} {line : Int32} {words : Int32} {labels : Int32} {targets : Int32} {wrong : Int32} {unfit : Int32} {text : Nat → Int32} {code_ : Nat → Int32} {label : Nat → Int64} {labelWord : Nat → Int32} {target : Nat → Int64} {targetWord : Nat → Int32} {targetLine : Nat → Int32} {store : Nat → Int32} {common : Nat → Int32} {low : Nat → Int32} {high : Nat → Int32} {register : Nat → Int32} {address : Nat → Int32} {status : Nat → Int32} {did : Nat → Int32} {ready : Nat → Int32} {timer : Nat → Int32} {trace : Nat → Int32} {r_0 : Int32} {r_1 : (Nat → Int32)} {r_2 : (Nat → Int32)} {r_3 : (Nat → Int32)} {r_4 : (Nat → Int32)} {r_5 : (Nat → Int32)} {r_6 : (Nat → Int32)} {r_7 : (Nat → Int32)} (hres : (r_0, r_1, r_2, r_3, r_4, r_5, r_6, r_7) = (f_X11_clock_190 now register address status did ready timer trace l1 s1 s2)) (ht : 0 ≤ l1.toInt ∧ l1.toInt < 4) (hdid : ∀ j, j < 4 → 0 ≤ (did j).toInt) (hix : vp_in s1 16) : G M_X11_clock 0 0 190 [(0, .ref 0), (1, .int l1)] [.int s2, .int s1, .ref 17] (w_M refusal wheel now length at_ fault faultLine line words labels targets wrong unfit text code_ label labelWord target targetWord targetLine store common low high register address status did ready timer trace) (some (.int r_0)) (w_M refusal wheel now length at_ fault faultLine line words labels targets wrong unfit text code_ label labelWord target targetWord targetLine store common low high r_1 r_2 r_3 r_4 r_5 r_6 r_7) := by
  rw [f_X11_clock_190] at hres
  refine G.iastore (pc := 190) (ws1 := (w_M refusal wheel now length at_ fault faultLine line words labels targets wrong unfit text code_ label labelWord target targetWord targetLine store common low high register address status did ready (upd timer (Int32.toNatClampNeg s1) s2) trace)) dm_X11_clock_190 rfl hix rfl ?_
  refine G.aload_n (pc := 191) dm_X11_clock_191 rfl ?_
  refine G.iload_n (pc := 192) dm_X11_clock_192 rfl ?_
  refine G.aload_n (pc := 193) dm_X11_clock_193 rfl ?_
  refine G.getfield (pc := 194) dm_X11_clock_194 gf_X11_48 rfl rfl ?_
  refine G.iload_n (pc := 197) dm_X11_clock_197 rfl ?_
  refine G.iaload (pc := 198) dm_X11_clock_198 rfl (q_t ht) ?_
  refine G.iconst (pc := 199) (v := (4 : Int32)) dm_X11_clock_199 qi_4 ?_
  refine G.iadd (pc := 200) dm_X11_clock_200 ?_
  refine G.aload_n (pc := 201) dm_X11_clock_201 rfl ?_
  refine G.getfield (pc := 202) dm_X11_clock_202 gf_X11_291 rfl rfl ?_
  refine G.iconst (pc := 205) (v := (4 : Int32)) dm_X11_clock_205 qi_4 ?_
  refine G.iadd (pc := 206) dm_X11_clock_206 ?_
  obtain ⟨z2_0, z2_1, z2_2, z2_3, z2_4, hz2⟩ : ∃ (z2_0 : Int32) (z2_1 : (Nat → Int32)) (z2_2 : (Nat → Int32)) (z2_3 : (Nat → Int32)) (z2_4 : (Nat → Int32)), (z2_0, z2_1, z2_2, z2_3, z2_4) = f_X11_done l1 ((address (Int32.toNatClampNeg l1)) + (4 : Int32)) (now + (4 : Int32)) now address did ready trace := ⟨_, _, _, _, _, rfl⟩
  refine G.callV0 (pc := 207) (rest := []) (st1 := [.int z2_0]) dm_X11_clock_207 gc_X11_clock_319 (k_X11_done (t := l1) (a := ((address (Int32.toNatClampNeg l1)) + (4 : Int32))) (when := (now + (4 : Int32))) (refusal := refusal) (wheel := wheel) (now := now) (length := length) (at_ := at_) (fault := fault) (faultLine := faultLine) (line := line) (words := words) (labels := labels) (targets := targets) (wrong := wrong) (unfit := unfit) (text := text) (code_ := code_) (label := label) (labelWord := labelWord) (target := target) (targetWord := targetWord) (targetLine := targetLine) (store := store) (common := common) (low := low) (high := high) (register := register) (address := address) (status := status) (did := did) (ready := ready) (timer := (upd timer (Int32.toNatClampNeg s1) s2)) (trace := trace) (by first | assumption | exact q_31 _ | exact q_i4 ht ⟨h4.1, h30.1⟩) (by first | assumption | exact q_31 _ | exact q_i4 ht ⟨h4.1, h30.1⟩) hz2) rfl rfl rfl rfl rfl rfl rfl rfl ?_
  replace hres : (r_0, r_1, r_2, r_3, r_4, r_5, r_6, r_7) = f_X11_clock_c207 register status timer s1 s2 z2_0 z2_1 z2_2 z2_3 z2_4 := hres.trans (by rw [← hz2])
  rw [f_X11_clock_c207] at hres
  cases hres
  exact G.ireturn (pc := 210) dm_X11_clock_210 rfl rfl rfl
def f_X11_clock_c93 (status : Nat → Int32) (timer : Nat → Int32) (z3_0 : (Nat → Int32)) (z4_0 : Int32) (z4_1 : (Nat → Int32)) (z4_2 : (Nat → Int32)) (z4_3 : (Nat → Int32)) (z4_4 : (Nat → Int32)) : Int32 × (Nat → Int32) × (Nat → Int32) × (Nat → Int32) × (Nat → Int32) × (Nat → Int32) × (Nat → Int32) × (Nat → Int32) := (z4_0, z3_0, z4_1, status, z4_2, z4_3, timer, z4_4)
def f_X11_clock_c74 (now : Int32) (address : Nat → Int32) (status : Nat → Int32) (did : Nat → Int32) (ready : Nat → Int32) (timer : Nat → Int32) (trace : Nat → Int32) (l1 : Int32) (z3_0 : (Nat → Int32)) : Int32 × (Nat → Int32) × (Nat → Int32) × (Nat → Int32) × (Nat → Int32) × (Nat → Int32) × (Nat → Int32) × (Nat → Int32) := (f_X11_clock_c93 status timer z3_0 (f_X11_done l1 ((address (Int32.toNatClampNeg l1)) + (4 : Int32)) (now + (4 : Int32)) now address did ready trace).1 (f_X11_done l1 ((address (Int32.toNatClampNeg l1)) + (4 : Int32)) (now + (4 : Int32)) now address did ready trace).2.1 (f_X11_done l1 ((address (Int32.toNatClampNeg l1)) + (4 : Int32)) (now + (4 : Int32)) now address did ready trace).2.2.1 (f_X11_done l1 ((address (Int32.toNatClampNeg l1)) + (4 : Int32)) (now + (4 : Int32)) now address did ready trace).2.2.2.1 (f_X11_done l1 ((address (Int32.toNatClampNeg l1)) + (4 : Int32)) (now + (4 : Int32)) now address did ready trace).2.2.2.2)
def f_X11_clock_48 (now : Int32) (register : Nat → Int32) (address : Nat → Int32) (status : Nat → Int32) (did : Nat → Int32) (ready : Nat → Int32) (timer : Nat → Int32) (trace : Nat → Int32) (l1 : Int32) (l2 : Int32) (l3 : Int32) (l4 : Int32) (l5 : Int32) : Int32 × (Nat → Int32) × (Nat → Int32) × (Nat → Int32) × (Nat → Int32) × (Nat → Int32) × (Nat → Int32) × (Nat → Int32) := (if l4 ≤ (15 : Int32) then (if l3 = (1 : Int32) then (f_X11_clock_c74 now address status did ready timer trace l1 (f_X11_set l1 l4 now register)) else (if (timer (Int32.toNatClampNeg (((4 : Int32) * l1) + l4))) ≤ now then (if 0 ≤ (lg_cmp (((Int32.toInt64 now) + (Int32.toInt64 (register (Int32.toNatClampNeg (((16 : Int32) * l1) + l5))))) + (Int32.toInt64 (l2 >>> ((20 : Int32) &&& 31)))) (Int32.toInt64 now)) then (if (lg_cmp (((Int32.toInt64 now) + (Int32.toInt64 (register (Int32.toNatClampNeg (((16 : Int32) * l1) + l5))))) + (Int32.toInt64 (l2 >>> ((20 : Int32) &&& 31)))) (2147483647 : Int64)) ≤ 0 then (f_X11_clock_190 now register address status did ready timer trace l1 (((4 : Int32) * l1) + l4) (Int64.toInt32 (((Int32.toInt64 now) + (Int32.toInt64 (register (Int32.toNatClampNeg (((16 : Int32) * l1) + l5))))) + (Int32.toInt64 (l2 >>> ((20 : Int32) &&& 31)))))) else (f_X11_clock_190 now register address status did ready timer trace l1 (((4 : Int32) * l1) + l4) (2147483647 : Int32))) else (f_X11_clock_190 now register address status did ready timer trace l1 (((4 : Int32) * l1) + l4) now)) else ((0 : Int32), register, address, status, did, ready, timer, trace))) else (f_X11_clock_55 register address status did ready timer trace l1))
set_option maxRecDepth 20000 in
theorem j_X11_clock_48 {l1 : Int32} {l2 : Int32} {l3 : Int32} {l4 : Int32} {l5 : Int32} {refusal : Int32} {wheel : Int32} {now : Int32} {length : Int32} {at_ : Int32} {fault : Int32} {faultLine : Int32} {line : Int32} {words : Int32} {labels : Int32} {targets : Int32} {wrong : Int32} {unfit : Int32} {text : Nat → Int32} {code_ : Nat → Int32} {label : Nat → Int64} {labelWord : Nat → Int32} {target : Nat → Int64} {targetWord : Nat → Int32} {targetLine : Nat → Int32} {store : Nat → Int32} {common : Nat → Int32} {low : Nat → Int32} {high : Nat → Int32} {register : Nat → Int32} {address : Nat → Int32} {status : Nat → Int32} {did : Nat → Int32} {ready : Nat → Int32} {timer : Nat → Int32} {trace : Nat → Int32} {r_0 : Int32} {r_1 : (Nat → Int32)} {r_2 : (Nat → Int32)} {r_3 : (Nat → Int32)} {r_4 : (Nat → Int32)} {r_5 : (Nat → Int32)} {r_6 : (Nat → Int32)} {r_7 : (Nat → Int32)} (hres : (r_0, r_1, r_2, r_3, r_4, r_5, r_6, r_7) = (f_X11_clock_48 now register address status did ready timer trace l1 l2 l3 l4 l5)) (ht : 0 ≤ l1.toInt ∧ l1.toInt < 4) (hdid : ∀ j, j < 4 → 0 ≤ (did j).toInt) (h3 : 0 ≤ l3.toInt ∧ l3.toInt ≤ 1) (h4 : 0 ≤ l4.toInt ∧ l4.toInt < 32) (h5 : 0 ≤ l5.toInt ∧ l5.toInt < 32 ∧ (l3 = 0 → l4.toInt < 4 ∧ l5.toInt < 16)) : G M_X11_clock 0 0 48 [(0, .ref 0), (1, .int l1), (2, .int l2), (3, .int l3), (4, .int l4), (5, .int l5)] [] (w_M refusal wheel now length at_ fault faultLine line words labels targets wrong unfit text code_ label labelWord target targetWord targetLine store common low high register address status did ready timer trace) (some (.int r_0)) (w_M refusal wheel now length at_ fault faultLine line words labels targets wrong unfit text code_ label labelWord target targetWord targetLine store common low high r_1 r_2 r_3 r_4 r_5 r_6 r_7) := by
  rw [f_X11_clock_48] at hres
  refine G.iload (pc := 48) dm_X11_clock_48 rfl ?_
  refine G.bipush (pc := 50) (v := (15 : Int32)) dm_X11_clock_50 qb_15 ?_
  refine G.icmp_le (pc := 52) (tgt := 61) dm_X11_clock_52 (by decide) (fun c52 => ?_) (fun c52 => ?_)
  · rw [if_pos c52] at hres
    refine G.iload_n (pc := 61) dm_X11_clock_61 rfl ?_
    refine G.iconst (pc := 62) (v := (1 : Int32)) dm_X11_clock_62 qi_1 ?_
    refine G.icmp_ne (pc := 63) (tgt := 97) dm_X11_clock_63 (by decide) (fun c63 => ?_) (fun c63 => ?_)
    · rw [if_neg c63] at hres
      have h30 := h5.2.2 (q_one h3 c63)
      refine G.aload_n (pc := 97) dm_X11_clock_97 rfl ?_
      refine G.getfield (pc := 98) dm_X11_clock_98 gf_X11_291 rfl rfl ?_
      refine G.aload_n (pc := 101) dm_X11_clock_101 rfl ?_
      refine G.getfield (pc := 102) dm_X11_clock_102 gf_X11_60 rfl rfl ?_
      refine G.iconst (pc := 105) (v := (4 : Int32)) dm_X11_clock_105 qi_4 ?_
      refine G.iload_n (pc := 106) dm_X11_clock_106 rfl ?_
      refine G.imul (pc := 107) dm_X11_clock_107 ?_
      refine G.iload (pc := 108) dm_X11_clock_108 rfl ?_
      refine G.iadd (pc := 110) dm_X11_clock_110 ?_
      refine G.iaload (pc := 111) dm_X11_clock_111 rfl (q_i4 ht ⟨h4.1, h30.1⟩) ?_
      refine G.icmp_ge (pc := 112) (tgt := 117) dm_X11_clock_112 (by decide) (fun c112 => ?_) (fun c112 => ?_)
      · rw [if_pos c112] at hres
        refine G.aload_n (pc := 117) dm_X11_clock_117 rfl ?_
        refine G.getfield (pc := 118) dm_X11_clock_118 gf_X11_291 rfl rfl ?_
        refine G.i2l (pc := 121) dm_X11_clock_121 ?_
        refine G.aload_n (pc := 122) dm_X11_clock_122 rfl ?_
        refine G.getfield (pc := 123) dm_X11_clock_123 gf_X11_45 rfl rfl ?_
        refine G.bipush (pc := 126) (v := (16 : Int32)) dm_X11_clock_126 qb_16 ?_
        refine G.iload_n (pc := 128) dm_X11_clock_128 rfl ?_
        refine G.imul (pc := 129) dm_X11_clock_129 ?_
        refine G.iload (pc := 130) dm_X11_clock_130 rfl ?_
        refine G.iadd (pc := 132) dm_X11_clock_132 ?_
        refine G.iaload (pc := 133) dm_X11_clock_133 rfl (q_i16 ht ⟨h5.1, h30.2⟩) ?_
        refine G.i2l (pc := 134) dm_X11_clock_134 ?_
        refine G.ladd (pc := 135) dm_X11_clock_135 ?_
        refine G.iload_n (pc := 136) dm_X11_clock_136 rfl ?_
        refine G.bipush (pc := 137) (v := (20 : Int32)) dm_X11_clock_137 qb_20 ?_
        refine G.ishr (pc := 139) dm_X11_clock_139 ?_
        refine G.i2l (pc := 140) dm_X11_clock_140 ?_
        refine G.ladd (pc := 141) dm_X11_clock_141 ?_
        refine G.lstore (pc := 142) (lv1 := [(6, .long (((Int32.toInt64 now) + (Int32.toInt64 (register (Int32.toNatClampNeg (((16 : Int32) * l1) + l5))))) + (Int32.toInt64 (l2 >>> ((20 : Int32) &&& 31))))), (0, .ref 0), (1, .int l1), (2, .int l2), (3, .int l3), (4, .int l4), (5, .int l5)]) dm_X11_clock_142 rfl rfl ?_
        refine G.aload_n (pc := 144) dm_X11_clock_144 rfl ?_
        refine G.getfield (pc := 145) dm_X11_clock_145 gf_X11_60 rfl rfl ?_
        refine G.iconst (pc := 148) (v := (4 : Int32)) dm_X11_clock_148 qi_4 ?_
        refine G.iload_n (pc := 149) dm_X11_clock_149 rfl ?_
        refine G.imul (pc := 150) dm_X11_clock_150 ?_
        refine G.iload (pc := 151) dm_X11_clock_151 rfl ?_
        refine G.iadd (pc := 153) dm_X11_clock_153 ?_
        refine G.lload (pc := 154) dm_X11_clock_154 rfl ?_
        refine G.aload_n (pc := 156) dm_X11_clock_156 rfl ?_
        refine G.getfield (pc := 157) dm_X11_clock_157 gf_X11_291 rfl rfl ?_
        refine G.i2l (pc := 160) dm_X11_clock_160 ?_
        refine G.lcmp (pc := 161) dm_X11_clock_161 ?_
        refine G.if_ge (pc := 162) (tgt := 172) dm_X11_clock_162 (by decide) (fun c162 => ?_) (fun c162 => ?_)
        · rw [if_pos c162] at hres
          refine G.lload (pc := 172) dm_X11_clock_172 rfl ?_
          refine G.ldc2 (pc := 174) dm_X11_clock_174 tw830 ?_
          refine G.lcmp (pc := 177) dm_X11_clock_177 ?_
          refine G.if_le (pc := 178) (tgt := 187) dm_X11_clock_178 (by decide) (fun c178 => ?_) (fun c178 => ?_)
          · rw [if_pos c178] at hres
            refine G.lload (pc := 187) dm_X11_clock_187 rfl ?_
            refine G.l2i (pc := 189) dm_X11_clock_189 ?_
            refine G.lvp [1, 2] rfl ?_
            exact j_X11_clock_190 hres (by first | assumption | exact q_31 _ | exact q_i4 ht ⟨h4.1, h30.1⟩) (by first | assumption | exact q_31 _ | exact q_i4 ht ⟨h4.1, h30.1⟩) (by first | assumption | exact q_31 _ | exact q_i4 ht ⟨h4.1, h30.1⟩)
          · rw [if_neg c178] at hres
            refine G.ldc_w (pc := 181) dm_X11_clock_181 tw831 ?_
            refine G.goto (pc := 184) (tgt := 190) dm_X11_clock_184 (by decide) ?_
            refine G.lvp [1, 2] rfl ?_
            exact j_X11_clock_190 hres (by first | assumption | exact q_31 _ | exact q_i4 ht ⟨h4.1, h30.1⟩) (by first | assumption | exact q_31 _ | exact q_i4 ht ⟨h4.1, h30.1⟩) (by first | assumption | exact q_31 _ | exact q_i4 ht ⟨h4.1, h30.1⟩)
        · rw [if_neg c162] at hres
          refine G.aload_n (pc := 165) dm_X11_clock_165 rfl ?_
          refine G.getfield (pc := 166) dm_X11_clock_166 gf_X11_291 rfl rfl ?_
          refine G.goto (pc := 169) (tgt := 190) dm_X11_clock_169 (by decide) ?_
          refine G.lvp [1, 2] rfl ?_
          exact j_X11_clock_190 hres (by first | assumption | exact q_31 _ | exact q_i4 ht ⟨h4.1, h30.1⟩) (by first | assumption | exact q_31 _ | exact q_i4 ht ⟨h4.1, h30.1⟩) (by first | assumption | exact q_31 _ | exact q_i4 ht ⟨h4.1, h30.1⟩)
      · rw [if_neg c112] at hres
        refine G.iconst (pc := 115) (v := (0 : Int32)) dm_X11_clock_115 qi_0 ?_
        cases hres
        exact G.ireturn (pc := 116) dm_X11_clock_116 rfl rfl rfl
    · rw [if_pos c63] at hres
      have h4 := q_16' h4 c52
      refine G.aload_n (pc := 66) dm_X11_clock_66 rfl ?_
      refine G.iload_n (pc := 67) dm_X11_clock_67 rfl ?_
      refine G.iload (pc := 68) dm_X11_clock_68 rfl ?_
      refine G.aload_n (pc := 70) dm_X11_clock_70 rfl ?_
      refine G.getfield (pc := 71) dm_X11_clock_71 gf_X11_291 rfl rfl ?_
      obtain ⟨z3_0, hz3⟩ : ∃ (z3_0 : (Nat → Int32)), z3_0 = f_X11_set l1 l4 now register := ⟨_, rfl⟩
      refine G.callV0 (pc := 74) (rest := []) (st1 := []) dm_X11_clock_74 gc_X11_clock_313 (k_X11_set (t := l1) (r := l4) (v := now) (refusal := refusal) (wheel := wheel) (now := now) (length := length) (at_ := at_) (fault := fault) (faultLine := faultLine) (line := line) (words := words) (labels := labels) (targets := targets) (wrong := wrong) (unfit := unfit) (text := text) (code_ := code_) (label := label) (labelWord := labelWord) (target := target) (targetWord := targetWord) (targetLine := targetLine) (store := store) (common := common) (low := low) (high := high) (register := register) (address := address) (status := status) (did := did) (ready := ready) (timer := timer) (trace := trace) (by first | assumption | exact q_31 _ | exact q_i4 ht ⟨h4.1, h30.1⟩) (by first | assumption | exact q_31 _ | exact q_i4 ht ⟨h4.1, h30.1⟩) hz3) rfl rfl rfl rfl rfl rfl rfl rfl ?_
      replace hres : (r_0, r_1, r_2, r_3, r_4, r_5, r_6, r_7) = f_X11_clock_c74 now address status did ready timer trace l1 z3_0 := hres.trans (by rw [← hz3])
      rw [f_X11_clock_c74] at hres
      refine G.aload_n (pc := 77) dm_X11_clock_77 rfl ?_
      refine G.iload_n (pc := 78) dm_X11_clock_78 rfl ?_
      refine G.aload_n (pc := 79) dm_X11_clock_79 rfl ?_
      refine G.getfield (pc := 80) dm_X11_clock_80 gf_X11_48 rfl rfl ?_
      refine G.iload_n (pc := 83) dm_X11_clock_83 rfl ?_
      refine G.iaload (pc := 84) dm_X11_clock_84 rfl (q_t ht) ?_
      refine G.iconst (pc := 85) (v := (4 : Int32)) dm_X11_clock_85 qi_4 ?_
      refine G.iadd (pc := 86) dm_X11_clock_86 ?_
      refine G.aload_n (pc := 87) dm_X11_clock_87 rfl ?_
      refine G.getfield (pc := 88) dm_X11_clock_88 gf_X11_291 rfl rfl ?_
      refine G.iconst (pc := 91) (v := (4 : Int32)) dm_X11_clock_91 qi_4 ?_
      refine G.iadd (pc := 92) dm_X11_clock_92 ?_
      obtain ⟨z4_0, z4_1, z4_2, z4_3, z4_4, hz4⟩ : ∃ (z4_0 : Int32) (z4_1 : (Nat → Int32)) (z4_2 : (Nat → Int32)) (z4_3 : (Nat → Int32)) (z4_4 : (Nat → Int32)), (z4_0, z4_1, z4_2, z4_3, z4_4) = f_X11_done l1 ((address (Int32.toNatClampNeg l1)) + (4 : Int32)) (now + (4 : Int32)) now address did ready trace := ⟨_, _, _, _, _, rfl⟩
      refine G.callV0 (pc := 93) (rest := []) (st1 := [.int z4_0]) dm_X11_clock_93 gc_X11_clock_319 (k_X11_done (t := l1) (a := ((address (Int32.toNatClampNeg l1)) + (4 : Int32))) (when := (now + (4 : Int32))) (refusal := refusal) (wheel := wheel) (now := now) (length := length) (at_ := at_) (fault := fault) (faultLine := faultLine) (line := line) (words := words) (labels := labels) (targets := targets) (wrong := wrong) (unfit := unfit) (text := text) (code_ := code_) (label := label) (labelWord := labelWord) (target := target) (targetWord := targetWord) (targetLine := targetLine) (store := store) (common := common) (low := low) (high := high) (register := z3_0) (address := address) (status := status) (did := did) (ready := ready) (timer := timer) (trace := trace) (by first | assumption | exact q_31 _ | exact q_i4 ht ⟨h4.1, h30.1⟩) (by first | assumption | exact q_31 _ | exact q_i4 ht ⟨h4.1, h30.1⟩) hz4) rfl rfl rfl rfl rfl rfl rfl rfl ?_
      replace hres : (r_0, r_1, r_2, r_3, r_4, r_5, r_6, r_7) = f_X11_clock_c93 status timer z3_0 z4_0 z4_1 z4_2 z4_3 z4_4 := hres.trans (by rw [← hz4])
      rw [f_X11_clock_c93] at hres
      cases hres
      exact G.ireturn (pc := 96) dm_X11_clock_96 rfl rfl rfl
  · rw [if_neg c52] at hres
    refine G.lvp [0, 1] rfl ?_
    exact j_X11_clock_55 hres (by first | assumption | exact q_31 _ | exact q_i4 ht ⟨h4.1, h30.1⟩)
def f_X11_clock (t : Int32) (w : Int32) (now : Int32) (register : Nat → Int32) (address : Nat → Int32) (status : Nat → Int32) (did : Nat → Int32) (ready : Nat → Int32) (timer : Nat → Int32) (trace : Nat → Int32) : Int32 × (Nat → Int32) × (Nat → Int32) × (Nat → Int32) × (Nat → Int32) × (Nat → Int32) × (Nat → Int32) × (Nat → Int32) := (if (1 : Int32) < ((w >>> ((12 : Int32) &&& 31)) &&& (7 : Int32)) then (f_X11_clock_55 register address status did ready timer trace t) else (if ((w >>> ((12 : Int32) &&& 31)) &&& (7 : Int32)) = 0 then (if (3 : Int32) < ((w >>> ((7 : Int32) &&& 31)) &&& (31 : Int32)) then (f_X11_clock_55 register address status did ready timer trace t) else (if (15 : Int32) < ((w >>> ((15 : Int32) &&& 31)) &&& (31 : Int32)) then (f_X11_clock_55 register address status did ready timer trace t) else (f_X11_clock_48 now register address status did ready timer trace t w ((w >>> ((12 : Int32) &&& 31)) &&& (7 : Int32)) ((w >>> ((7 : Int32) &&& 31)) &&& (31 : Int32)) ((w >>> ((15 : Int32) &&& 31)) &&& (31 : Int32))))) else (f_X11_clock_48 now register address status did ready timer trace t w ((w >>> ((12 : Int32) &&& 31)) &&& (7 : Int32)) ((w >>> ((7 : Int32) &&& 31)) &&& (31 : Int32)) ((w >>> ((15 : Int32) &&& 31)) &&& (31 : Int32)))))
set_option maxRecDepth 20000 in
theorem k_X11_clock {t : Int32} {w : Int32} {refusal : Int32} {wheel : Int32} {now : Int32} {length : Int32} {at_ : Int32} {fault : Int32} {faultLine : Int32} {line : Int32} {words : Int32} {labels : Int32} {targets : Int32} {wrong : Int32} {unfit : Int32} {text : Nat → Int32} {code_ : Nat → Int32} {label : Nat → Int64} {labelWord : Nat → Int32} {target : Nat → Int64} {targetWord : Nat → Int32} {targetLine : Nat → Int32} {store : Nat → Int32} {common : Nat → Int32} {low : Nat → Int32} {high : Nat → Int32} {register : Nat → Int32} {address : Nat → Int32} {status : Nat → Int32} {did : Nat → Int32} {ready : Nat → Int32} {timer : Nat → Int32} {trace : Nat → Int32} (ht : 0 ≤ t.toInt ∧ t.toInt < 4) (hdid : ∀ j, j < 4 → 0 ≤ (did j).toInt) {r_0 : Int32} {r_1 : (Nat → Int32)} {r_2 : (Nat → Int32)} {r_3 : (Nat → Int32)} {r_4 : (Nat → Int32)} {r_5 : (Nat → Int32)} {r_6 : (Nat → Int32)} {r_7 : (Nat → Int32)} (hres : (r_0, r_1, r_2, r_3, r_4, r_5, r_6, r_7) = f_X11_clock t w now register address status did ready timer trace) : K M_X11_clock yX11_clock [.ref 0, .int t, .int w] (w_M refusal wheel now length at_ fault faultLine line words labels targets wrong unfit text code_ label labelWord target targetWord targetLine store common low high register address status did ready timer trace) (some (.int r_0)) (w_M refusal wheel now length at_ fault faultLine line words labels targets wrong unfit text code_ label labelWord target targetWord targetLine store common low high r_1 r_2 r_3 r_4 r_5 r_6 r_7) := by
  refine K.of (lv := [(0, .ref 0), (1, .int t), (2, .int w)]) (by decide +kernel) rfl rfl rfl ?_
  rw [f_X11_clock] at hres
  refine G.iload_n (pc := 0) dm_X11_clock_0 rfl ?_
  refine G.bipush (pc := 1) (v := (12 : Int32)) dm_X11_clock_1 qb_12 ?_
  refine G.ishr (pc := 3) dm_X11_clock_3 ?_
  refine G.bipush (pc := 4) (v := (7 : Int32)) dm_X11_clock_4 qb_7 ?_
  refine G.iand (pc := 6) dm_X11_clock_6 ?_
  refine G.istore_n (pc := 7) (lv1 := [(3, .int ((w >>> ((12 : Int32) &&& 31)) &&& (7 : Int32))), (0, .ref 0), (1, .int t), (2, .int w)]) dm_X11_clock_7 rfl rfl ?_
  refine G.iload_n (pc := 8) dm_X11_clock_8 rfl ?_
  refine G.bipush (pc := 9) (v := (7 : Int32)) dm_X11_clock_9 qb_7 ?_
  refine G.ishr (pc := 11) dm_X11_clock_11 ?_
  refine G.bipush (pc := 12) (v := (31 : Int32)) dm_X11_clock_12 qb_31 ?_
  refine G.iand (pc := 14) dm_X11_clock_14 ?_
  refine G.istore (pc := 15) (lv1 := [(4, .int ((w >>> ((7 : Int32) &&& 31)) &&& (31 : Int32))), (3, .int ((w >>> ((12 : Int32) &&& 31)) &&& (7 : Int32))), (0, .ref 0), (1, .int t), (2, .int w)]) dm_X11_clock_15 rfl rfl ?_
  refine G.iload_n (pc := 17) dm_X11_clock_17 rfl ?_
  refine G.bipush (pc := 18) (v := (15 : Int32)) dm_X11_clock_18 qb_15 ?_
  refine G.ishr (pc := 20) dm_X11_clock_20 ?_
  refine G.bipush (pc := 21) (v := (31 : Int32)) dm_X11_clock_21 qb_31 ?_
  refine G.iand (pc := 23) dm_X11_clock_23 ?_
  refine G.istore (pc := 24) (lv1 := [(5, .int ((w >>> ((15 : Int32) &&& 31)) &&& (31 : Int32))), (4, .int ((w >>> ((7 : Int32) &&& 31)) &&& (31 : Int32))), (3, .int ((w >>> ((12 : Int32) &&& 31)) &&& (7 : Int32))), (0, .ref 0), (1, .int t), (2, .int w)]) dm_X11_clock_24 rfl rfl ?_
  refine G.iload_n (pc := 26) dm_X11_clock_26 rfl ?_
  refine G.iconst (pc := 27) (v := (1 : Int32)) dm_X11_clock_27 qi_1 ?_
  refine G.icmp_gt (pc := 28) (tgt := 55) dm_X11_clock_28 (by decide) (fun c28 => ?_) (fun c28 => ?_)
  · rw [if_pos c28] at hres
    refine G.lvp [3, 4] rfl ?_
    exact j_X11_clock_55 hres (by first | assumption | exact q_31 _ | exact q_i4 ht ⟨h4.1, h30.1⟩)
  · rw [if_neg c28] at hres
    refine G.iload_n (pc := 31) dm_X11_clock_31 rfl ?_
    refine G.if_ne (pc := 32) (tgt := 48) dm_X11_clock_32 (by decide) (fun c32 => ?_) (fun c32 => ?_)
    · rw [if_neg c32] at hres
      refine G.lvp [3, 4, 5, 2, 1, 0] rfl ?_
      exact j_X11_clock_48 hres ht hdid ⟨(q_7 _).1, q_nlt c28⟩ (q_31 _) ⟨(q_31 _).1, (q_31 _).2, fun h => absurd h c32⟩
    · rw [if_pos c32] at hres
      refine G.iload (pc := 35) dm_X11_clock_35 rfl ?_
      refine G.iconst (pc := 37) (v := (3 : Int32)) dm_X11_clock_37 qi_3 ?_
      refine G.icmp_gt (pc := 38) (tgt := 55) dm_X11_clock_38 (by decide) (fun c38 => ?_) (fun c38 => ?_)
      · rw [if_pos c38] at hres
        refine G.lvp [3, 4] rfl ?_
        exact j_X11_clock_55 hres (by first | assumption | exact q_31 _ | exact q_i4 ht ⟨h4.1, h30.1⟩)
      · rw [if_neg c38] at hres
        refine G.iload (pc := 41) dm_X11_clock_41 rfl ?_
        refine G.bipush (pc := 43) (v := (15 : Int32)) dm_X11_clock_43 qb_15 ?_
        refine G.icmp_gt (pc := 45) (tgt := 55) dm_X11_clock_45 (by decide) (fun c45 => ?_) (fun c45 => ?_)
        · rw [if_pos c45] at hres
          refine G.lvp [3, 4] rfl ?_
          exact j_X11_clock_55 hres (by first | assumption | exact q_31 _ | exact q_i4 ht ⟨h4.1, h30.1⟩)
        · rw [if_neg c45] at hres
          refine G.lvp [3, 4, 5, 2, 1, 0] rfl ?_
          exact j_X11_clock_48 hres ht hdid ⟨(q_7 _).1, q_nlt c28⟩ (q_31 _) ⟨(q_31 _).1, (q_31 _).2, fun _ => ⟨by have h9 := q_nlt c38; exact Int.lt_of_le_of_lt h9 (by decide), (q_16 (q_31 _) c45).2⟩⟩
abbrev M_X11_turn : g_M := (cX11_turn, 4, RX11, (some .int), { frames := 3, cells := 0, slots := 0, locals := 76 }, 0, 0)
theorem dm_X11_turn_0 : decode M_X11_turn.1 0 = .ok (.aload_n 0, 1) := by decide +kernel
theorem dm_X11_turn_1 : decode M_X11_turn.1 1 = .ok (.getfield 51, 3) := by decide +kernel
theorem dm_X11_turn_4 : decode M_X11_turn.1 4 = .ok (.iload_n 1, 1) := by decide +kernel
theorem dm_X11_turn_5 : decode M_X11_turn.1 5 = .ok (.iaload, 1) := by decide +kernel
theorem dm_X11_turn_6 : decode M_X11_turn.1 6 = .ok (.iconst 1, 1) := by decide +kernel
theorem dm_X11_turn_7 : decode M_X11_turn.1 7 = .ok (.if_icmp .ne 16, 3) := by decide +kernel
theorem dm_X11_turn_10 : decode M_X11_turn.1 10 = .ok (.aload_n 0, 1) := by decide +kernel
theorem dm_X11_turn_11 : decode M_X11_turn.1 11 = .ok (.getfield 291, 3) := by decide +kernel
theorem dm_X11_turn_14 : decode M_X11_turn.1 14 = .ok (.aload_n 0, 1) := by decide +kernel
theorem dm_X11_turn_15 : decode M_X11_turn.1 15 = .ok (.getfield 57, 3) := by decide +kernel
theorem dm_X11_turn_18 : decode M_X11_turn.1 18 = .ok (.iload_n 1, 1) := by decide +kernel
theorem dm_X11_turn_19 : decode M_X11_turn.1 19 = .ok (.iaload, 1) := by decide +kernel
theorem dm_X11_turn_20 : decode M_X11_turn.1 20 = .ok (.if_icmp .ge 5, 3) := by decide +kernel
theorem dm_X11_turn_23 : decode M_X11_turn.1 23 = .ok (.iconst 0, 1) := by decide +kernel
theorem dm_X11_turn_24 : decode M_X11_turn.1 24 = .ok (.ireturn, 1) := by decide +kernel
theorem dm_X11_turn_25 : decode M_X11_turn.1 25 = .ok (.aload_n 0, 1) := by decide +kernel
theorem dm_X11_turn_26 : decode M_X11_turn.1 26 = .ok (.getfield 48, 3) := by decide +kernel
theorem dm_X11_turn_29 : decode M_X11_turn.1 29 = .ok (.iload_n 1, 1) := by decide +kernel
theorem dm_X11_turn_30 : decode M_X11_turn.1 30 = .ok (.iaload, 1) := by decide +kernel
theorem dm_X11_turn_31 : decode M_X11_turn.1 31 = .ok (.istore_n 2, 1) := by decide +kernel
theorem dm_X11_turn_32 : decode M_X11_turn.1 32 = .ok (.iload_n 2, 1) := by decide +kernel
theorem dm_X11_turn_33 : decode M_X11_turn.1 33 = .ok (.iconst 3, 1) := by decide +kernel
theorem dm_X11_turn_34 : decode M_X11_turn.1 34 = .ok (.iand, 1) := by decide +kernel
theorem dm_X11_turn_35 : decode M_X11_turn.1 35 = .ok (.ifCond .ne 10, 3) := by decide +kernel
theorem dm_X11_turn_38 : decode M_X11_turn.1 38 = .ok (.iload_n 2, 1) := by decide +kernel
theorem dm_X11_turn_39 : decode M_X11_turn.1 39 = .ok (.invokestatic 288, 3) := by decide +kernel
theorem dm_X11_turn_42 : decode M_X11_turn.1 42 = .ok (.ifCond .ne 9, 3) := by decide +kernel
theorem dm_X11_turn_45 : decode M_X11_turn.1 45 = .ok (.aload_n 0, 1) := by decide +kernel
theorem dm_X11_turn_46 : decode M_X11_turn.1 46 = .ok (.iload_n 1, 1) := by decide +kernel
theorem dm_X11_turn_47 : decode M_X11_turn.1 47 = .ok (.invokevirtual 299, 3) := by decide +kernel
theorem dm_X11_turn_50 : decode M_X11_turn.1 50 = .ok (.ireturn, 1) := by decide +kernel
theorem dm_X11_turn_51 : decode M_X11_turn.1 51 = .ok (.aload_n 0, 1) := by decide +kernel
theorem dm_X11_turn_52 : decode M_X11_turn.1 52 = .ok (.getfield 33, 3) := by decide +kernel
theorem dm_X11_turn_55 : decode M_X11_turn.1 55 = .ok (.sipush 128, 3) := by decide +kernel
theorem dm_X11_turn_58 : decode M_X11_turn.1 58 = .ok (.iload_n 1, 1) := by decide +kernel
theorem dm_X11_turn_59 : decode M_X11_turn.1 59 = .ok (.imul, 1) := by decide +kernel
theorem dm_X11_turn_60 : decode M_X11_turn.1 60 = .ok (.iload_n 2, 1) := by decide +kernel
theorem dm_X11_turn_61 : decode M_X11_turn.1 61 = .ok (.iconst 4, 1) := by decide +kernel
theorem dm_X11_turn_62 : decode M_X11_turn.1 62 = .ok (.idiv, 1) := by decide +kernel
theorem dm_X11_turn_63 : decode M_X11_turn.1 63 = .ok (.iadd, 1) := by decide +kernel
theorem dm_X11_turn_64 : decode M_X11_turn.1 64 = .ok (.iaload, 1) := by decide +kernel
theorem dm_X11_turn_65 : decode M_X11_turn.1 65 = .ok (.istore_n 3, 1) := by decide +kernel
theorem dm_X11_turn_66 : decode M_X11_turn.1 66 = .ok (.iload_n 3, 1) := by decide +kernel
theorem dm_X11_turn_67 : decode M_X11_turn.1 67 = .ok (.bipush 127, 2) := by decide +kernel
theorem dm_X11_turn_69 : decode M_X11_turn.1 69 = .ok (.iand, 1) := by decide +kernel
theorem dm_X11_turn_70 : decode M_X11_turn.1 70 = .ok (.lookupswitch 196 #[(3, 157), (11, 189), (19, 173), (35, 165), (51, 181), (55, 82), (99, 150), (103, 142), (111, 134)], 82) := by decide +kernel
theorem dm_X11_turn_152 : decode M_X11_turn.1 152 = .ok (.iload_n 3, 1) := by decide +kernel
theorem dm_X11_turn_153 : decode M_X11_turn.1 153 = .ok (.bipush 7, 2) := by decide +kernel
theorem dm_X11_turn_155 : decode M_X11_turn.1 155 = .ok (.ishr, 1) := by decide +kernel
theorem dm_X11_turn_156 : decode M_X11_turn.1 156 = .ok (.bipush 31, 2) := by decide +kernel
theorem dm_X11_turn_158 : decode M_X11_turn.1 158 = .ok (.iand, 1) := by decide +kernel
theorem dm_X11_turn_159 : decode M_X11_turn.1 159 = .ok (.bipush 15, 2) := by decide +kernel
theorem dm_X11_turn_161 : decode M_X11_turn.1 161 = .ok (.if_icmp .le 9, 3) := by decide +kernel
theorem dm_X11_turn_164 : decode M_X11_turn.1 164 = .ok (.aload_n 0, 1) := by decide +kernel
theorem dm_X11_turn_165 : decode M_X11_turn.1 165 = .ok (.iload_n 1, 1) := by decide +kernel
theorem dm_X11_turn_166 : decode M_X11_turn.1 166 = .ok (.invokevirtual 299, 3) := by decide +kernel
theorem dm_X11_turn_169 : decode M_X11_turn.1 169 = .ok (.ireturn, 1) := by decide +kernel
theorem dm_X11_turn_170 : decode M_X11_turn.1 170 = .ok (.aload_n 0, 1) := by decide +kernel
theorem dm_X11_turn_171 : decode M_X11_turn.1 171 = .ok (.iload_n 1, 1) := by decide +kernel
theorem dm_X11_turn_172 : decode M_X11_turn.1 172 = .ok (.iload_n 3, 1) := by decide +kernel
theorem dm_X11_turn_173 : decode M_X11_turn.1 173 = .ok (.bipush 7, 2) := by decide +kernel
theorem dm_X11_turn_175 : decode M_X11_turn.1 175 = .ok (.ishr, 1) := by decide +kernel
theorem dm_X11_turn_176 : decode M_X11_turn.1 176 = .ok (.bipush 31, 2) := by decide +kernel
theorem dm_X11_turn_178 : decode M_X11_turn.1 178 = .ok (.iand, 1) := by decide +kernel
theorem dm_X11_turn_179 : decode M_X11_turn.1 179 = .ok (.iload_n 3, 1) := by decide +kernel
theorem dm_X11_turn_180 : decode M_X11_turn.1 180 = .ok (.bipush 12, 2) := by decide +kernel
theorem dm_X11_turn_182 : decode M_X11_turn.1 182 = .ok (.ishr, 1) := by decide +kernel
theorem dm_X11_turn_183 : decode M_X11_turn.1 183 = .ok (.bipush 12, 2) := by decide +kernel
theorem dm_X11_turn_185 : decode M_X11_turn.1 185 = .ok (.ishl, 1) := by decide +kernel
theorem dm_X11_turn_186 : decode M_X11_turn.1 186 = .ok (.invokevirtual 313, 3) := by decide +kernel
theorem dm_X11_turn_189 : decode M_X11_turn.1 189 = .ok (.aload_n 0, 1) := by decide +kernel
theorem dm_X11_turn_190 : decode M_X11_turn.1 190 = .ok (.iload_n 1, 1) := by decide +kernel
theorem dm_X11_turn_191 : decode M_X11_turn.1 191 = .ok (.iload_n 2, 1) := by decide +kernel
theorem dm_X11_turn_192 : decode M_X11_turn.1 192 = .ok (.iconst 4, 1) := by decide +kernel
theorem dm_X11_turn_193 : decode M_X11_turn.1 193 = .ok (.iadd, 1) := by decide +kernel
theorem dm_X11_turn_194 : decode M_X11_turn.1 194 = .ok (.aload_n 0, 1) := by decide +kernel
theorem dm_X11_turn_195 : decode M_X11_turn.1 195 = .ok (.getfield 291, 3) := by decide +kernel
theorem dm_X11_turn_198 : decode M_X11_turn.1 198 = .ok (.iconst 4, 1) := by decide +kernel
theorem dm_X11_turn_199 : decode M_X11_turn.1 199 = .ok (.iadd, 1) := by decide +kernel
theorem dm_X11_turn_200 : decode M_X11_turn.1 200 = .ok (.invokevirtual 319, 3) := by decide +kernel
theorem dm_X11_turn_203 : decode M_X11_turn.1 203 = .ok (.ireturn, 1) := by decide +kernel
theorem dm_X11_turn_204 : decode M_X11_turn.1 204 = .ok (.aload_n 0, 1) := by decide +kernel
theorem dm_X11_turn_205 : decode M_X11_turn.1 205 = .ok (.iload_n 1, 1) := by decide +kernel
theorem dm_X11_turn_206 : decode M_X11_turn.1 206 = .ok (.iload_n 3, 1) := by decide +kernel
theorem dm_X11_turn_207 : decode M_X11_turn.1 207 = .ok (.iconst 0, 1) := by decide +kernel
theorem dm_X11_turn_208 : decode M_X11_turn.1 208 = .ok (.invokevirtual 333, 3) := by decide +kernel
theorem dm_X11_turn_211 : decode M_X11_turn.1 211 = .ok (.ireturn, 1) := by decide +kernel
theorem dm_X11_turn_212 : decode M_X11_turn.1 212 = .ok (.aload_n 0, 1) := by decide +kernel
theorem dm_X11_turn_213 : decode M_X11_turn.1 213 = .ok (.iload_n 1, 1) := by decide +kernel
theorem dm_X11_turn_214 : decode M_X11_turn.1 214 = .ok (.iload_n 3, 1) := by decide +kernel
theorem dm_X11_turn_215 : decode M_X11_turn.1 215 = .ok (.iconst 1, 1) := by decide +kernel
theorem dm_X11_turn_216 : decode M_X11_turn.1 216 = .ok (.invokevirtual 333, 3) := by decide +kernel
theorem dm_X11_turn_219 : decode M_X11_turn.1 219 = .ok (.ireturn, 1) := by decide +kernel
theorem dm_X11_turn_220 : decode M_X11_turn.1 220 = .ok (.aload_n 0, 1) := by decide +kernel
theorem dm_X11_turn_221 : decode M_X11_turn.1 221 = .ok (.iload_n 1, 1) := by decide +kernel
theorem dm_X11_turn_222 : decode M_X11_turn.1 222 = .ok (.iload_n 3, 1) := by decide +kernel
theorem dm_X11_turn_223 : decode M_X11_turn.1 223 = .ok (.invokevirtual 337, 3) := by decide +kernel
theorem dm_X11_turn_226 : decode M_X11_turn.1 226 = .ok (.ireturn, 1) := by decide +kernel
theorem dm_X11_turn_227 : decode M_X11_turn.1 227 = .ok (.aload_n 0, 1) := by decide +kernel
theorem dm_X11_turn_228 : decode M_X11_turn.1 228 = .ok (.iload_n 1, 1) := by decide +kernel
theorem dm_X11_turn_229 : decode M_X11_turn.1 229 = .ok (.iload_n 3, 1) := by decide +kernel
theorem dm_X11_turn_230 : decode M_X11_turn.1 230 = .ok (.iconst 0, 1) := by decide +kernel
theorem dm_X11_turn_231 : decode M_X11_turn.1 231 = .ok (.invokevirtual 340, 3) := by decide +kernel
theorem dm_X11_turn_234 : decode M_X11_turn.1 234 = .ok (.ireturn, 1) := by decide +kernel
theorem dm_X11_turn_235 : decode M_X11_turn.1 235 = .ok (.aload_n 0, 1) := by decide +kernel
theorem dm_X11_turn_236 : decode M_X11_turn.1 236 = .ok (.iload_n 1, 1) := by decide +kernel
theorem dm_X11_turn_237 : decode M_X11_turn.1 237 = .ok (.iload_n 3, 1) := by decide +kernel
theorem dm_X11_turn_238 : decode M_X11_turn.1 238 = .ok (.iconst 1, 1) := by decide +kernel
theorem dm_X11_turn_239 : decode M_X11_turn.1 239 = .ok (.invokevirtual 340, 3) := by decide +kernel
theorem dm_X11_turn_242 : decode M_X11_turn.1 242 = .ok (.ireturn, 1) := by decide +kernel
theorem dm_X11_turn_243 : decode M_X11_turn.1 243 = .ok (.aload_n 0, 1) := by decide +kernel
theorem dm_X11_turn_244 : decode M_X11_turn.1 244 = .ok (.iload_n 1, 1) := by decide +kernel
theorem dm_X11_turn_245 : decode M_X11_turn.1 245 = .ok (.iload_n 3, 1) := by decide +kernel
theorem dm_X11_turn_246 : decode M_X11_turn.1 246 = .ok (.iconst 0, 1) := by decide +kernel
theorem dm_X11_turn_247 : decode M_X11_turn.1 247 = .ok (.invokevirtual 343, 3) := by decide +kernel
theorem dm_X11_turn_250 : decode M_X11_turn.1 250 = .ok (.ireturn, 1) := by decide +kernel
theorem dm_X11_turn_251 : decode M_X11_turn.1 251 = .ok (.aload_n 0, 1) := by decide +kernel
theorem dm_X11_turn_252 : decode M_X11_turn.1 252 = .ok (.iload_n 1, 1) := by decide +kernel
theorem dm_X11_turn_253 : decode M_X11_turn.1 253 = .ok (.iload_n 3, 1) := by decide +kernel
theorem dm_X11_turn_254 : decode M_X11_turn.1 254 = .ok (.iconst 1, 1) := by decide +kernel
theorem dm_X11_turn_255 : decode M_X11_turn.1 255 = .ok (.invokevirtual 343, 3) := by decide +kernel
theorem dm_X11_turn_258 : decode M_X11_turn.1 258 = .ok (.ireturn, 1) := by decide +kernel
theorem dm_X11_turn_259 : decode M_X11_turn.1 259 = .ok (.aload_n 0, 1) := by decide +kernel
theorem dm_X11_turn_260 : decode M_X11_turn.1 260 = .ok (.iload_n 1, 1) := by decide +kernel
theorem dm_X11_turn_261 : decode M_X11_turn.1 261 = .ok (.iload_n 3, 1) := by decide +kernel
theorem dm_X11_turn_262 : decode M_X11_turn.1 262 = .ok (.invokevirtual 346, 3) := by decide +kernel
theorem dm_X11_turn_265 : decode M_X11_turn.1 265 = .ok (.ireturn, 1) := by decide +kernel
theorem dm_X11_turn_266 : decode M_X11_turn.1 266 = .ok (.iload_n 3, 1) := by decide +kernel
theorem dm_X11_turn_267 : decode M_X11_turn.1 267 = .ok (.bipush 115, 2) := by decide +kernel
theorem dm_X11_turn_269 : decode M_X11_turn.1 269 = .ok (.if_icmp .eq 9, 3) := by decide +kernel
theorem dm_X11_turn_272 : decode M_X11_turn.1 272 = .ok (.aload_n 0, 1) := by decide +kernel
theorem dm_X11_turn_273 : decode M_X11_turn.1 273 = .ok (.iload_n 1, 1) := by decide +kernel
theorem dm_X11_turn_274 : decode M_X11_turn.1 274 = .ok (.invokevirtual 299, 3) := by decide +kernel
theorem dm_X11_turn_277 : decode M_X11_turn.1 277 = .ok (.ireturn, 1) := by decide +kernel
theorem dm_X11_turn_278 : decode M_X11_turn.1 278 = .ok (.aload_n 0, 1) := by decide +kernel
theorem dm_X11_turn_279 : decode M_X11_turn.1 279 = .ok (.getfield 51, 3) := by decide +kernel
theorem dm_X11_turn_282 : decode M_X11_turn.1 282 = .ok (.iload_n 1, 1) := by decide +kernel
theorem dm_X11_turn_283 : decode M_X11_turn.1 283 = .ok (.iconst 2, 1) := by decide +kernel
theorem dm_X11_turn_284 : decode M_X11_turn.1 284 = .ok (.iastore, 1) := by decide +kernel
theorem dm_X11_turn_285 : decode M_X11_turn.1 285 = .ok (.aload_n 0, 1) := by decide +kernel
theorem dm_X11_turn_286 : decode M_X11_turn.1 286 = .ok (.iload_n 1, 1) := by decide +kernel
theorem dm_X11_turn_287 : decode M_X11_turn.1 287 = .ok (.iload_n 2, 1) := by decide +kernel
theorem dm_X11_turn_288 : decode M_X11_turn.1 288 = .ok (.iconst 4, 1) := by decide +kernel
theorem dm_X11_turn_289 : decode M_X11_turn.1 289 = .ok (.iadd, 1) := by decide +kernel
theorem dm_X11_turn_290 : decode M_X11_turn.1 290 = .ok (.aload_n 0, 1) := by decide +kernel
theorem dm_X11_turn_291 : decode M_X11_turn.1 291 = .ok (.getfield 291, 3) := by decide +kernel
theorem dm_X11_turn_294 : decode M_X11_turn.1 294 = .ok (.iconst 4, 1) := by decide +kernel
theorem dm_X11_turn_295 : decode M_X11_turn.1 295 = .ok (.iadd, 1) := by decide +kernel
theorem dm_X11_turn_296 : decode M_X11_turn.1 296 = .ok (.invokevirtual 319, 3) := by decide +kernel
theorem dm_X11_turn_299 : decode M_X11_turn.1 299 = .ok (.ireturn, 1) := by decide +kernel
theorem gc_X11_turn_288 : g_cs M_X11_turn 288 M_X11_isOwn yX11_isOwn 1 := ⟨tw769, tw770, tw5, tw771, ⟨rfl, rfl, rfl, rfl⟩, gd_X11_isOwn, ⟨by decide, by decide⟩⟩
theorem gc_X11_turn_299 : g_cv M_X11_turn 299 M_X11_stop yX11_stop 1 := ⟨tw772, tw773, tw774, tw5, tw775, ⟨rfl, rfl, rfl, rfl⟩, gd_X11_stop, ⟨by decide, by decide⟩⟩
theorem gc_X11_turn_313 : g_cv M_X11_turn 313 M_X11_set yX11_set 3 := ⟨tw776, tw777, tw778, tw5, tw779, ⟨rfl, rfl, rfl, rfl⟩, gd_X11_set, ⟨by decide, by decide⟩⟩
theorem gc_X11_turn_319 : g_cv M_X11_turn 319 M_X11_done yX11_done 3 := ⟨tw780, tw781, tw782, tw5, tw783, ⟨rfl, rfl, rfl, rfl⟩, gd_X11_done, ⟨by decide, by decide⟩⟩
theorem gc_X11_turn_333 : g_cv M_X11_turn 333 M_X11_jump yX11_jump 3 := ⟨tw784, tw785, tw786, tw5, tw787, ⟨rfl, rfl, rfl, rfl⟩, gd_X11_jump, ⟨by decide, by decide⟩⟩
theorem gc_X11_turn_337 : g_cv M_X11_turn 337 M_X11_branch yX11_branch 2 := ⟨tw788, tw789, tw790, tw5, tw791, ⟨rfl, rfl, rfl, rfl⟩, gd_X11_branch, ⟨by decide, by decide⟩⟩
theorem gc_X11_turn_340 : g_cv M_X11_turn 340 M_X11_moveWord yX11_moveWord 3 := ⟨tw799, tw800, tw801, tw5, tw802, ⟨rfl, rfl, rfl, rfl⟩, gd_X11_moveWord, ⟨by decide, by decide⟩⟩
theorem gc_X11_turn_343 : g_cv M_X11_turn 343 M_X11_calculate yX11_calculate 3 := ⟨tw819, tw820, tw821, tw5, tw822, ⟨rfl, rfl, rfl, rfl⟩, gd_X11_calculate, ⟨by decide, by decide⟩⟩
theorem gc_X11_turn_346 : g_cv M_X11_turn 346 M_X11_clock yX11_clock 2 := ⟨tw826, tw827, tw828, tw5, tw829, ⟨rfl, rfl, rfl, rfl⟩, gd_X11_clock, ⟨by decide, by decide⟩⟩
def f_X11_turn_c47 (store : Nat → Int32) (common : Nat → Int32) (register : Nat → Int32) (address : Nat → Int32) (did : Nat → Int32) (ready : Nat → Int32) (timer : Nat → Int32) (trace : Nat → Int32) (z1_0 : Int32) (z1_1 : (Nat → Int32)) : Int32 × (Nat → Int32) × (Nat → Int32) × (Nat → Int32) × (Nat → Int32) × (Nat → Int32) × (Nat → Int32) × (Nat → Int32) × (Nat → Int32) × (Nat → Int32) := (z1_0, store, common, register, address, z1_1, did, ready, timer, trace)
def f_X11_turn_45 (store : Nat → Int32) (common : Nat → Int32) (register : Nat → Int32) (address : Nat → Int32) (status : Nat → Int32) (did : Nat → Int32) (ready : Nat → Int32) (timer : Nat → Int32) (trace : Nat → Int32) (l1 : Int32) : Int32 × (Nat → Int32) × (Nat → Int32) × (Nat → Int32) × (Nat → Int32) × (Nat → Int32) × (Nat → Int32) × (Nat → Int32) × (Nat → Int32) × (Nat → Int32) := (f_X11_turn_c47 store common register address did ready timer trace (f_X11_stop l1 status).1 (f_X11_stop l1 status).2)
set_option maxRecDepth 20000 in
theorem j_X11_turn_45 {l1 : Int32} {refusal : Int32} {wheel : Int32} {now : Int32} {length : Int32} {at_ : Int32} {fault : Int32} {faultLine : Int32} {line : Int32} {words : Int32} {labels : Int32} {targets : Int32} {wrong : Int32} {unfit : Int32} {text : Nat → Int32} {code_ : Nat → Int32} {label : Nat → Int64} {labelWord : Nat → Int32} {target : Nat → Int64} {targetWord : Nat → Int32} {targetLine : Nat → Int32} {store : Nat → Int32} {common : Nat → Int32} {low : Nat → Int32} {high : Nat → Int32} {register : Nat → Int32} {address : Nat → Int32} {status : Nat → Int32} {did : Nat → Int32} {ready : Nat → Int32} {timer : Nat → Int32} {trace : Nat → Int32} {r_0 : Int32} {r_1 : (Nat → Int32)} {r_2 : (Nat → Int32)} {r_3 : (Nat → Int32)} {r_4 : (Nat → Int32)} {r_5 : (Nat → Int32)} {r_6 : (Nat → Int32)} {r_7 : (Nat → Int32)} {r_8 : (Nat → Int32)} {r_9 : (Nat → Int32)} (hres : (r_0, r_1, r_2, r_3, r_4, r_5, r_6, r_7, r_8, r_9) = (f_X11_turn_45 store common register address status did ready timer trace l1)) (ht : 0 ≤ l1.toInt ∧ l1.toInt < 4) : G M_X11_turn 0 0 45 [(0, .ref 0), (1, .int l1)] [] (w_M refusal wheel now length at_ fault faultLine line words labels targets wrong unfit text code_ label labelWord target targetWord targetLine store common low high register address status did ready timer trace) (some (.int r_0)) (w_M refusal wheel now length at_ fault faultLine line words labels targets wrong unfit text code_ label labelWord target targetWord targetLine r_1 r_2 low high r_3 r_4 r_5 r_6 r_7 r_8 r_9) := by
  rw [f_X11_turn_45] at hres
  refine G.aload_n (pc := 45) dm_X11_turn_45 rfl ?_
  refine G.iload_n (pc := 46) dm_X11_turn_46 rfl ?_
  obtain ⟨z1_0, z1_1, hz1⟩ : ∃ (z1_0 : Int32) (z1_1 : (Nat → Int32)), (z1_0, z1_1) = f_X11_stop l1 status := ⟨_, _, rfl⟩
  refine G.callV0 (pc := 47) (rest := []) (st1 := [.int z1_0]) dm_X11_turn_47 gc_X11_turn_299 (k_X11_stop (t := l1) (refusal := refusal) (wheel := wheel) (now := now) (length := length) (at_ := at_) (fault := fault) (faultLine := faultLine) (line := line) (words := words) (labels := labels) (targets := targets) (wrong := wrong) (unfit := unfit) (text := text) (code_ := code_) (label := label) (labelWord := labelWord) (target := target) (targetWord := targetWord) (targetLine := targetLine) (store := store) (common := common) (low := low) (high := high) (register := register) (address := address) (status := status) (did := did) (ready := ready) (timer := timer) (trace := trace) (by first | assumption | exact q_31 _ | exact q_7 _) hz1) rfl rfl rfl rfl rfl rfl rfl rfl ?_
  replace hres : (r_0, r_1, r_2, r_3, r_4, r_5, r_6, r_7, r_8, r_9) = f_X11_turn_c47 store common register address did ready timer trace z1_0 z1_1 := hres.trans (by rw [← hz1])
  rw [f_X11_turn_c47] at hres
  cases hres
  exact G.ireturn (pc := 50) dm_X11_turn_50 rfl rfl rfl
def f_X11_turn_c231 (timer : Nat → Int32) (z3_0 : Int32) (z3_1 : (Nat → Int32)) (z3_2 : (Nat → Int32)) (z3_3 : (Nat → Int32)) (z3_4 : (Nat → Int32)) (z3_5 : (Nat → Int32)) (z3_6 : (Nat → Int32)) (z3_7 : (Nat → Int32)) (z3_8 : (Nat → Int32)) : Int32 × (Nat → Int32) × (Nat → Int32) × (Nat → Int32) × (Nat → Int32) × (Nat → Int32) × (Nat → Int32) × (Nat → Int32) × (Nat → Int32) × (Nat → Int32) := (z3_0, z3_1, z3_2, z3_3, z3_4, z3_5, z3_6, z3_7, timer, z3_8)
def f_X11_turn_c262 (store : Nat → Int32) (common : Nat → Int32) (z4_0 : Int32) (z4_1 : (Nat → Int32)) (z4_2 : (Nat → Int32)) (z4_3 : (Nat → Int32)) (z4_4 : (Nat → Int32)) (z4_5 : (Nat → Int32)) (z4_6 : (Nat → Int32)) (z4_7 : (Nat → Int32)) : Int32 × (Nat → Int32) × (Nat → Int32) × (Nat → Int32) × (Nat → Int32) × (Nat → Int32) × (Nat → Int32) × (Nat → Int32) × (Nat → Int32) × (Nat → Int32) := (z4_0, store, common, z4_1, z4_2, z4_3, z4_4, z4_5, z4_6, z4_7)
def f_X11_turn_c247 (store : Nat → Int32) (common : Nat → Int32) (timer : Nat → Int32) (z5_0 : Int32) (z5_1 : (Nat → Int32)) (z5_2 : (Nat → Int32)) (z5_3 : (Nat → Int32)) (z5_4 : (Nat → Int32)) (z5_5 : (Nat → Int32)) (z5_6 : (Nat → Int32)) : Int32 × (Nat → Int32) × (Nat → Int32) × (Nat → Int32) × (Nat → Int32) × (Nat → Int32) × (Nat → Int32) × (Nat → Int32) × (Nat → Int32) × (Nat → Int32) := (z5_0, store, common, z5_1, z5_2, z5_3, z5_4, z5_5, timer, z5_6)
def f_X11_turn_c239 (timer : Nat → Int32) (z6_0 : Int32) (z6_1 : (Nat → Int32)) (z6_2 : (Nat → Int32)) (z6_3 : (Nat → Int32)) (z6_4 : (Nat → Int32)) (z6_5 : (Nat → Int32)) (z6_6 : (Nat → Int32)) (z6_7 : (Nat → Int32)) (z6_8 : (Nat → Int32)) : Int32 × (Nat → Int32) × (Nat → Int32) × (Nat → Int32) × (Nat → Int32) × (Nat → Int32) × (Nat → Int32) × (Nat → Int32) × (Nat → Int32) × (Nat → Int32) := (z6_0, z6_1, z6_2, z6_3, z6_4, z6_5, z6_6, z6_7, timer, z6_8)
def f_X11_turn_c255 (store : Nat → Int32) (common : Nat → Int32) (timer : Nat → Int32) (z7_0 : Int32) (z7_1 : (Nat → Int32)) (z7_2 : (Nat → Int32)) (z7_3 : (Nat → Int32)) (z7_4 : (Nat → Int32)) (z7_5 : (Nat → Int32)) (z7_6 : (Nat → Int32)) : Int32 × (Nat → Int32) × (Nat → Int32) × (Nat → Int32) × (Nat → Int32) × (Nat → Int32) × (Nat → Int32) × (Nat → Int32) × (Nat → Int32) × (Nat → Int32) := (z7_0, store, common, z7_1, z7_2, z7_3, z7_4, z7_5, timer, z7_6)
def f_X11_turn_c200 (store : Nat → Int32) (common : Nat → Int32) (status : Nat → Int32) (timer : Nat → Int32) (z8_0 : (Nat → Int32)) (z9_0 : Int32) (z9_1 : (Nat → Int32)) (z9_2 : (Nat → Int32)) (z9_3 : (Nat → Int32)) (z9_4 : (Nat → Int32)) : Int32 × (Nat → Int32) × (Nat → Int32) × (Nat → Int32) × (Nat → Int32) × (Nat → Int32) × (Nat → Int32) × (Nat → Int32) × (Nat → Int32) × (Nat → Int32) := (z9_0, store, common, z8_0, z9_1, status, z9_2, z9_3, timer, z9_4)
def f_X11_turn_c186 (t : Int32) (now : Int32) (store : Nat → Int32) (common : Nat → Int32) (address : Nat → Int32) (status : Nat → Int32) (did : Nat → Int32) (ready : Nat → Int32) (timer : Nat → Int32) (trace : Nat → Int32) (z8_0 : (Nat → Int32)) : Int32 × (Nat → Int32) × (Nat → Int32) × (Nat → Int32) × (Nat → Int32) × (Nat → Int32) × (Nat → Int32) × (Nat → Int32) × (Nat → Int32) × (Nat → Int32) := (f_X11_turn_c200 store common status timer z8_0 (f_X11_done t ((address (Int32.toNatClampNeg t)) + (4 : Int32)) (now + (4 : Int32)) now address did ready trace).1 (f_X11_done t ((address (Int32.toNatClampNeg t)) + (4 : Int32)) (now + (4 : Int32)) now address did ready trace).2.1 (f_X11_done t ((address (Int32.toNatClampNeg t)) + (4 : Int32)) (now + (4 : Int32)) now address did ready trace).2.2.1 (f_X11_done t ((address (Int32.toNatClampNeg t)) + (4 : Int32)) (now + (4 : Int32)) now address did ready trace).2.2.2.1 (f_X11_done t ((address (Int32.toNatClampNeg t)) + (4 : Int32)) (now + (4 : Int32)) now address did ready trace).2.2.2.2)
def f_X11_turn_c166 (store : Nat → Int32) (common : Nat → Int32) (register : Nat → Int32) (address : Nat → Int32) (did : Nat → Int32) (ready : Nat → Int32) (timer : Nat → Int32) (trace : Nat → Int32) (z10_0 : Int32) (z10_1 : (Nat → Int32)) : Int32 × (Nat → Int32) × (Nat → Int32) × (Nat → Int32) × (Nat → Int32) × (Nat → Int32) × (Nat → Int32) × (Nat → Int32) × (Nat → Int32) × (Nat → Int32) := (z10_0, store, common, register, address, z10_1, did, ready, timer, trace)
def f_X11_turn_c223 (store : Nat → Int32) (common : Nat → Int32) (register : Nat → Int32) (timer : Nat → Int32) (z11_0 : Int32) (z11_1 : (Nat → Int32)) (z11_2 : (Nat → Int32)) (z11_3 : (Nat → Int32)) (z11_4 : (Nat → Int32)) (z11_5 : (Nat → Int32)) : Int32 × (Nat → Int32) × (Nat → Int32) × (Nat → Int32) × (Nat → Int32) × (Nat → Int32) × (Nat → Int32) × (Nat → Int32) × (Nat → Int32) × (Nat → Int32) := (z11_0, store, common, register, z11_1, z11_2, z11_3, z11_4, timer, z11_5)
def f_X11_turn_c216 (store : Nat → Int32) (common : Nat → Int32) (timer : Nat → Int32) (z12_0 : Int32) (z12_1 : (Nat → Int32)) (z12_2 : (Nat → Int32)) (z12_3 : (Nat → Int32)) (z12_4 : (Nat → Int32)) (z12_5 : (Nat → Int32)) (z12_6 : (Nat → Int32)) : Int32 × (Nat → Int32) × (Nat → Int32) × (Nat → Int32) × (Nat → Int32) × (Nat → Int32) × (Nat → Int32) × (Nat → Int32) × (Nat → Int32) × (Nat → Int32) := (z12_0, store, common, z12_1, z12_2, z12_3, z12_4, z12_5, timer, z12_6)
def f_X11_turn_c208 (store : Nat → Int32) (common : Nat → Int32) (timer : Nat → Int32) (z13_0 : Int32) (z13_1 : (Nat → Int32)) (z13_2 : (Nat → Int32)) (z13_3 : (Nat → Int32)) (z13_4 : (Nat → Int32)) (z13_5 : (Nat → Int32)) (z13_6 : (Nat → Int32)) : Int32 × (Nat → Int32) × (Nat → Int32) × (Nat → Int32) × (Nat → Int32) × (Nat → Int32) × (Nat → Int32) × (Nat → Int32) × (Nat → Int32) × (Nat → Int32) := (z13_0, store, common, z13_1, z13_2, z13_3, z13_4, z13_5, timer, z13_6)
def f_X11_turn_c296 (t : Int32) (store : Nat → Int32) (common : Nat → Int32) (register : Nat → Int32) (status : Nat → Int32) (timer : Nat → Int32) (z14_0 : Int32) (z14_1 : (Nat → Int32)) (z14_2 : (Nat → Int32)) (z14_3 : (Nat → Int32)) (z14_4 : (Nat → Int32)) : Int32 × (Nat → Int32) × (Nat → Int32) × (Nat → Int32) × (Nat → Int32) × (Nat → Int32) × (Nat → Int32) × (Nat → Int32) × (Nat → Int32) × (Nat → Int32) := (z14_0, store, common, register, z14_1, (upd status (Int32.toNatClampNeg t) (2 : Int32)), z14_2, z14_3, timer, z14_4)
def f_X11_turn_c274 (store : Nat → Int32) (common : Nat → Int32) (register : Nat → Int32) (address : Nat → Int32) (did : Nat → Int32) (ready : Nat → Int32) (timer : Nat → Int32) (trace : Nat → Int32) (z15_0 : Int32) (z15_1 : (Nat → Int32)) : Int32 × (Nat → Int32) × (Nat → Int32) × (Nat → Int32) × (Nat → Int32) × (Nat → Int32) × (Nat → Int32) × (Nat → Int32) × (Nat → Int32) × (Nat → Int32) := (z15_0, store, common, register, address, z15_1, did, ready, timer, trace)
def f_X11_turn_c39 (t : Int32) (wheel : Int32) (now : Int32) (store : Nat → Int32) (common : Nat → Int32) (low : Nat → Int32) (high : Nat → Int32) (register : Nat → Int32) (address : Nat → Int32) (status : Nat → Int32) (did : Nat → Int32) (ready : Nat → Int32) (timer : Nat → Int32) (trace : Nat → Int32) (z2_0 : Int32) : Int32 × (Nat → Int32) × (Nat → Int32) × (Nat → Int32) × (Nat → Int32) × (Nat → Int32) × (Nat → Int32) × (Nat → Int32) × (Nat → Int32) × (Nat → Int32) := (if z2_0 = 0 then (f_X11_turn_45 store common register address status did ready timer trace t) else (if ((store (Int32.toNatClampNeg (((128 : Int32) * t) + ((address (Int32.toNatClampNeg t)) / (4 : Int32))))) &&& (127 : Int32)) = (3 : Int32) then (f_X11_turn_c231 timer (f_X11_moveWord t (store (Int32.toNatClampNeg (((128 : Int32) * t) + ((address (Int32.toNatClampNeg t)) / (4 : Int32))))) (0 : Int32) wheel now store common low high register address status did ready trace).1 (f_X11_moveWord t (store (Int32.toNatClampNeg (((128 : Int32) * t) + ((address (Int32.toNatClampNeg t)) / (4 : Int32))))) (0 : Int32) wheel now store common low high register address status did ready trace).2.1 (f_X11_moveWord t (store (Int32.toNatClampNeg (((128 : Int32) * t) + ((address (Int32.toNatClampNeg t)) / (4 : Int32))))) (0 : Int32) wheel now store common low high register address status did ready trace).2.2.1 (f_X11_moveWord t (store (Int32.toNatClampNeg (((128 : Int32) * t) + ((address (Int32.toNatClampNeg t)) / (4 : Int32))))) (0 : Int32) wheel now store common low high register address status did ready trace).2.2.2.1 (f_X11_moveWord t (store (Int32.toNatClampNeg (((128 : Int32) * t) + ((address (Int32.toNatClampNeg t)) / (4 : Int32))))) (0 : Int32) wheel now store common low high register address status did ready trace).2.2.2.2.1 (f_X11_moveWord t (store (Int32.toNatClampNeg (((128 : Int32) * t) + ((address (Int32.toNatClampNeg t)) / (4 : Int32))))) (0 : Int32) wheel now store common low high register address status did ready trace).2.2.2.2.2.1 (f_X11_moveWord t (store (Int32.toNatClampNeg (((128 : Int32) * t) + ((address (Int32.toNatClampNeg t)) / (4 : Int32))))) (0 : Int32) wheel now store common low high register address status did ready trace).2.2.2.2.2.2.1 (f_X11_moveWord t (store (Int32.toNatClampNeg (((128 : Int32) * t) + ((address (Int32.toNatClampNeg t)) / (4 : Int32))))) (0 : Int32) wheel now store common low high register address status did ready trace).2.2.2.2.2.2.2.1 (f_X11_moveWord t (store (Int32.toNatClampNeg (((128 : Int32) * t) + ((address (Int32.toNatClampNeg t)) / (4 : Int32))))) (0 : Int32) wheel now store common low high register address status did ready trace).2.2.2.2.2.2.2.2) else (if ((store (Int32.toNatClampNeg (((128 : Int32) * t) + ((address (Int32.toNatClampNeg t)) / (4 : Int32))))) &&& (127 : Int32)) = (11 : Int32) then (f_X11_turn_c262 store common (f_X11_clock t (store (Int32.toNatClampNeg (((128 : Int32) * t) + ((address (Int32.toNatClampNeg t)) / (4 : Int32))))) now register address status did ready timer trace).1 (f_X11_clock t (store (Int32.toNatClampNeg (((128 : Int32) * t) + ((address (Int32.toNatClampNeg t)) / (4 : Int32))))) now register address status did ready timer trace).2.1 (f_X11_clock t (store (Int32.toNatClampNeg (((128 : Int32) * t) + ((address (Int32.toNatClampNeg t)) / (4 : Int32))))) now register address status did ready timer trace).2.2.1 (f_X11_clock t (store (Int32.toNatClampNeg (((128 : Int32) * t) + ((address (Int32.toNatClampNeg t)) / (4 : Int32))))) now register address status did ready timer trace).2.2.2.1 (f_X11_clock t (store (Int32.toNatClampNeg (((128 : Int32) * t) + ((address (Int32.toNatClampNeg t)) / (4 : Int32))))) now register address status did ready timer trace).2.2.2.2.1 (f_X11_clock t (store (Int32.toNatClampNeg (((128 : Int32) * t) + ((address (Int32.toNatClampNeg t)) / (4 : Int32))))) now register address status did ready timer trace).2.2.2.2.2.1 (f_X11_clock t (store (Int32.toNatClampNeg (((128 : Int32) * t) + ((address (Int32.toNatClampNeg t)) / (4 : Int32))))) now register address status did ready timer trace).2.2.2.2.2.2.1 (f_X11_clock t (store (Int32.toNatClampNeg (((128 : Int32) * t) + ((address (Int32.toNatClampNeg t)) / (4 : Int32))))) now register address status did ready timer trace).2.2.2.2.2.2.2) else (if ((store (Int32.toNatClampNeg (((128 : Int32) * t) + ((address (Int32.toNatClampNeg t)) / (4 : Int32))))) &&& (127 : Int32)) = (19 : Int32) then (f_X11_turn_c247 store common timer (f_X11_calculate t (store (Int32.toNatClampNeg (((128 : Int32) * t) + ((address (Int32.toNatClampNeg t)) / (4 : Int32))))) (0 : Int32) now register address status did ready trace).1 (f_X11_calculate t (store (Int32.toNatClampNeg (((128 : Int32) * t) + ((address (Int32.toNatClampNeg t)) / (4 : Int32))))) (0 : Int32) now register address status did ready trace).2.1 (f_X11_calculate t (store (Int32.toNatClampNeg (((128 : Int32) * t) + ((address (Int32.toNatClampNeg t)) / (4 : Int32))))) (0 : Int32) now register address status did ready trace).2.2.1 (f_X11_calculate t (store (Int32.toNatClampNeg (((128 : Int32) * t) + ((address (Int32.toNatClampNeg t)) / (4 : Int32))))) (0 : Int32) now register address status did ready trace).2.2.2.1 (f_X11_calculate t (store (Int32.toNatClampNeg (((128 : Int32) * t) + ((address (Int32.toNatClampNeg t)) / (4 : Int32))))) (0 : Int32) now register address status did ready trace).2.2.2.2.1 (f_X11_calculate t (store (Int32.toNatClampNeg (((128 : Int32) * t) + ((address (Int32.toNatClampNeg t)) / (4 : Int32))))) (0 : Int32) now register address status did ready trace).2.2.2.2.2.1 (f_X11_calculate t (store (Int32.toNatClampNeg (((128 : Int32) * t) + ((address (Int32.toNatClampNeg t)) / (4 : Int32))))) (0 : Int32) now register address status did ready trace).2.2.2.2.2.2) else (if ((store (Int32.toNatClampNeg (((128 : Int32) * t) + ((address (Int32.toNatClampNeg t)) / (4 : Int32))))) &&& (127 : Int32)) = (35 : Int32) then (f_X11_turn_c239 timer (f_X11_moveWord t (store (Int32.toNatClampNeg (((128 : Int32) * t) + ((address (Int32.toNatClampNeg t)) / (4 : Int32))))) (1 : Int32) wheel now store common low high register address status did ready trace).1 (f_X11_moveWord t (store (Int32.toNatClampNeg (((128 : Int32) * t) + ((address (Int32.toNatClampNeg t)) / (4 : Int32))))) (1 : Int32) wheel now store common low high register address status did ready trace).2.1 (f_X11_moveWord t (store (Int32.toNatClampNeg (((128 : Int32) * t) + ((address (Int32.toNatClampNeg t)) / (4 : Int32))))) (1 : Int32) wheel now store common low high register address status did ready trace).2.2.1 (f_X11_moveWord t (store (Int32.toNatClampNeg (((128 : Int32) * t) + ((address (Int32.toNatClampNeg t)) / (4 : Int32))))) (1 : Int32) wheel now store common low high register address status did ready trace).2.2.2.1 (f_X11_moveWord t (store (Int32.toNatClampNeg (((128 : Int32) * t) + ((address (Int32.toNatClampNeg t)) / (4 : Int32))))) (1 : Int32) wheel now store common low high register address status did ready trace).2.2.2.2.1 (f_X11_moveWord t (store (Int32.toNatClampNeg (((128 : Int32) * t) + ((address (Int32.toNatClampNeg t)) / (4 : Int32))))) (1 : Int32) wheel now store common low high register address status did ready trace).2.2.2.2.2.1 (f_X11_moveWord t (store (Int32.toNatClampNeg (((128 : Int32) * t) + ((address (Int32.toNatClampNeg t)) / (4 : Int32))))) (1 : Int32) wheel now store common low high register address status did ready trace).2.2.2.2.2.2.1 (f_X11_moveWord t (store (Int32.toNatClampNeg (((128 : Int32) * t) + ((address (Int32.toNatClampNeg t)) / (4 : Int32))))) (1 : Int32) wheel now store common low high register address status did ready trace).2.2.2.2.2.2.2.1 (f_X11_moveWord t (store (Int32.toNatClampNeg (((128 : Int32) * t) + ((address (Int32.toNatClampNeg t)) / (4 : Int32))))) (1 : Int32) wheel now store common low high register address status did ready trace).2.2.2.2.2.2.2.2) else (if ((store (Int32.toNatClampNeg (((128 : Int32) * t) + ((address (Int32.toNatClampNeg t)) / (4 : Int32))))) &&& (127 : Int32)) = (51 : Int32) then (f_X11_turn_c255 store common timer (f_X11_calculate t (store (Int32.toNatClampNeg (((128 : Int32) * t) + ((address (Int32.toNatClampNeg t)) / (4 : Int32))))) (1 : Int32) now register address status did ready trace).1 (f_X11_calculate t (store (Int32.toNatClampNeg (((128 : Int32) * t) + ((address (Int32.toNatClampNeg t)) / (4 : Int32))))) (1 : Int32) now register address status did ready trace).2.1 (f_X11_calculate t (store (Int32.toNatClampNeg (((128 : Int32) * t) + ((address (Int32.toNatClampNeg t)) / (4 : Int32))))) (1 : Int32) now register address status did ready trace).2.2.1 (f_X11_calculate t (store (Int32.toNatClampNeg (((128 : Int32) * t) + ((address (Int32.toNatClampNeg t)) / (4 : Int32))))) (1 : Int32) now register address status did ready trace).2.2.2.1 (f_X11_calculate t (store (Int32.toNatClampNeg (((128 : Int32) * t) + ((address (Int32.toNatClampNeg t)) / (4 : Int32))))) (1 : Int32) now register address status did ready trace).2.2.2.2.1 (f_X11_calculate t (store (Int32.toNatClampNeg (((128 : Int32) * t) + ((address (Int32.toNatClampNeg t)) / (4 : Int32))))) (1 : Int32) now register address status did ready trace).2.2.2.2.2.1 (f_X11_calculate t (store (Int32.toNatClampNeg (((128 : Int32) * t) + ((address (Int32.toNatClampNeg t)) / (4 : Int32))))) (1 : Int32) now register address status did ready trace).2.2.2.2.2.2) else (if ((store (Int32.toNatClampNeg (((128 : Int32) * t) + ((address (Int32.toNatClampNeg t)) / (4 : Int32))))) &&& (127 : Int32)) = (55 : Int32) then (if (((store (Int32.toNatClampNeg (((128 : Int32) * t) + ((address (Int32.toNatClampNeg t)) / (4 : Int32))))) >>> ((7 : Int32) &&& 31)) &&& (31 : Int32)) ≤ (15 : Int32) then (f_X11_turn_c186 t now store common address status did ready timer trace (f_X11_set t (((store (Int32.toNatClampNeg (((128 : Int32) * t) + ((address (Int32.toNatClampNeg t)) / (4 : Int32))))) >>> ((7 : Int32) &&& 31)) &&& (31 : Int32)) (((store (Int32.toNatClampNeg (((128 : Int32) * t) + ((address (Int32.toNatClampNeg t)) / (4 : Int32))))) >>> ((12 : Int32) &&& 31)) <<< ((12 : Int32) &&& 31)) register)) else (f_X11_turn_c166 store common register address did ready timer trace (f_X11_stop t status).1 (f_X11_stop t status).2)) else (if ((store (Int32.toNatClampNeg (((128 : Int32) * t) + ((address (Int32.toNatClampNeg t)) / (4 : Int32))))) &&& (127 : Int32)) = (99 : Int32) then (f_X11_turn_c223 store common register timer (f_X11_branch t (store (Int32.toNatClampNeg (((128 : Int32) * t) + ((address (Int32.toNatClampNeg t)) / (4 : Int32))))) now register address status did ready trace).1 (f_X11_branch t (store (Int32.toNatClampNeg (((128 : Int32) * t) + ((address (Int32.toNatClampNeg t)) / (4 : Int32))))) now register address status did ready trace).2.1 (f_X11_branch t (store (Int32.toNatClampNeg (((128 : Int32) * t) + ((address (Int32.toNatClampNeg t)) / (4 : Int32))))) now register address status did ready trace).2.2.1 (f_X11_branch t (store (Int32.toNatClampNeg (((128 : Int32) * t) + ((address (Int32.toNatClampNeg t)) / (4 : Int32))))) now register address status did ready trace).2.2.2.1 (f_X11_branch t (store (Int32.toNatClampNeg (((128 : Int32) * t) + ((address (Int32.toNatClampNeg t)) / (4 : Int32))))) now register address status did ready trace).2.2.2.2.1 (f_X11_branch t (store (Int32.toNatClampNeg (((128 : Int32) * t) + ((address (Int32.toNatClampNeg t)) / (4 : Int32))))) now register address status did ready trace).2.2.2.2.2) else (if ((store (Int32.toNatClampNeg (((128 : Int32) * t) + ((address (Int32.toNatClampNeg t)) / (4 : Int32))))) &&& (127 : Int32)) = (103 : Int32) then (f_X11_turn_c216 store common timer (f_X11_jump t (store (Int32.toNatClampNeg (((128 : Int32) * t) + ((address (Int32.toNatClampNeg t)) / (4 : Int32))))) (1 : Int32) now register address status did ready trace).1 (f_X11_jump t (store (Int32.toNatClampNeg (((128 : Int32) * t) + ((address (Int32.toNatClampNeg t)) / (4 : Int32))))) (1 : Int32) now register address status did ready trace).2.1 (f_X11_jump t (store (Int32.toNatClampNeg (((128 : Int32) * t) + ((address (Int32.toNatClampNeg t)) / (4 : Int32))))) (1 : Int32) now register address status did ready trace).2.2.1 (f_X11_jump t (store (Int32.toNatClampNeg (((128 : Int32) * t) + ((address (Int32.toNatClampNeg t)) / (4 : Int32))))) (1 : Int32) now register address status did ready trace).2.2.2.1 (f_X11_jump t (store (Int32.toNatClampNeg (((128 : Int32) * t) + ((address (Int32.toNatClampNeg t)) / (4 : Int32))))) (1 : Int32) now register address status did ready trace).2.2.2.2.1 (f_X11_jump t (store (Int32.toNatClampNeg (((128 : Int32) * t) + ((address (Int32.toNatClampNeg t)) / (4 : Int32))))) (1 : Int32) now register address status did ready trace).2.2.2.2.2.1 (f_X11_jump t (store (Int32.toNatClampNeg (((128 : Int32) * t) + ((address (Int32.toNatClampNeg t)) / (4 : Int32))))) (1 : Int32) now register address status did ready trace).2.2.2.2.2.2) else (if ((store (Int32.toNatClampNeg (((128 : Int32) * t) + ((address (Int32.toNatClampNeg t)) / (4 : Int32))))) &&& (127 : Int32)) = (111 : Int32) then (f_X11_turn_c208 store common timer (f_X11_jump t (store (Int32.toNatClampNeg (((128 : Int32) * t) + ((address (Int32.toNatClampNeg t)) / (4 : Int32))))) (0 : Int32) now register address status did ready trace).1 (f_X11_jump t (store (Int32.toNatClampNeg (((128 : Int32) * t) + ((address (Int32.toNatClampNeg t)) / (4 : Int32))))) (0 : Int32) now register address status did ready trace).2.1 (f_X11_jump t (store (Int32.toNatClampNeg (((128 : Int32) * t) + ((address (Int32.toNatClampNeg t)) / (4 : Int32))))) (0 : Int32) now register address status did ready trace).2.2.1 (f_X11_jump t (store (Int32.toNatClampNeg (((128 : Int32) * t) + ((address (Int32.toNatClampNeg t)) / (4 : Int32))))) (0 : Int32) now register address status did ready trace).2.2.2.1 (f_X11_jump t (store (Int32.toNatClampNeg (((128 : Int32) * t) + ((address (Int32.toNatClampNeg t)) / (4 : Int32))))) (0 : Int32) now register address status did ready trace).2.2.2.2.1 (f_X11_jump t (store (Int32.toNatClampNeg (((128 : Int32) * t) + ((address (Int32.toNatClampNeg t)) / (4 : Int32))))) (0 : Int32) now register address status did ready trace).2.2.2.2.2.1 (f_X11_jump t (store (Int32.toNatClampNeg (((128 : Int32) * t) + ((address (Int32.toNatClampNeg t)) / (4 : Int32))))) (0 : Int32) now register address status did ready trace).2.2.2.2.2.2) else (if (store (Int32.toNatClampNeg (((128 : Int32) * t) + ((address (Int32.toNatClampNeg t)) / (4 : Int32))))) = (115 : Int32) then (f_X11_turn_c296 t store common register status timer (f_X11_done t ((address (Int32.toNatClampNeg t)) + (4 : Int32)) (now + (4 : Int32)) now address did ready trace).1 (f_X11_done t ((address (Int32.toNatClampNeg t)) + (4 : Int32)) (now + (4 : Int32)) now address did ready trace).2.1 (f_X11_done t ((address (Int32.toNatClampNeg t)) + (4 : Int32)) (now + (4 : Int32)) now address did ready trace).2.2.1 (f_X11_done t ((address (Int32.toNatClampNeg t)) + (4 : Int32)) (now + (4 : Int32)) now address did ready trace).2.2.2.1 (f_X11_done t ((address (Int32.toNatClampNeg t)) + (4 : Int32)) (now + (4 : Int32)) now address did ready trace).2.2.2.2) else (f_X11_turn_c274 store common register address did ready timer trace (f_X11_stop t status).1 (f_X11_stop t status).2))))))))))))
def f_X11_turn (t : Int32) (wheel : Int32) (now : Int32) (store : Nat → Int32) (common : Nat → Int32) (low : Nat → Int32) (high : Nat → Int32) (register : Nat → Int32) (address : Nat → Int32) (status : Nat → Int32) (did : Nat → Int32) (ready : Nat → Int32) (timer : Nat → Int32) (trace : Nat → Int32) : Int32 × (Nat → Int32) × (Nat → Int32) × (Nat → Int32) × (Nat → Int32) × (Nat → Int32) × (Nat → Int32) × (Nat → Int32) × (Nat → Int32) × (Nat → Int32) := (if (status (Int32.toNatClampNeg t)) = (1 : Int32) then (if (ready (Int32.toNatClampNeg t)) ≤ now then (if ((address (Int32.toNatClampNeg t)) &&& (3 : Int32)) = 0 then (f_X11_turn_c39 t wheel now store common low high register address status did ready timer trace (f_X11_isOwn (address (Int32.toNatClampNeg t)))) else (f_X11_turn_45 store common register address status did ready timer trace t)) else ((0 : Int32), store, common, register, address, status, did, ready, timer, trace)) else ((0 : Int32), store, common, register, address, status, did, ready, timer, trace))
set_option maxRecDepth 20000 in
theorem k_X11_turn {t : Int32} {refusal : Int32} {wheel : Int32} {now : Int32} {length : Int32} {at_ : Int32} {fault : Int32} {faultLine : Int32} {line : Int32} {words : Int32} {labels : Int32} {targets : Int32} {wrong : Int32} {unfit : Int32} {text : Nat → Int32} {code_ : Nat → Int32} {label : Nat → Int64} {labelWord : Nat → Int32} {target : Nat → Int64} {targetWord : Nat → Int32} {targetLine : Nat → Int32} {store : Nat → Int32} {common : Nat → Int32} {low : Nat → Int32} {high : Nat → Int32} {register : Nat → Int32} {address : Nat → Int32} {status : Nat → Int32} {did : Nat → Int32} {ready : Nat → Int32} {timer : Nat → Int32} {trace : Nat → Int32} (ht : 0 ≤ t.toInt ∧ t.toInt < 4) (hdid : ∀ j, j < 4 → 0 ≤ (did j).toInt) (hlh : ∀ j, j < 4 → 0 ≤ (low j).toInt ∧ (low j).toInt ≤ (high j).toInt ∧ (high j).toInt ≤ 64) (hwh : 1 ≤ wheel.toInt ∧ wheel.toInt ≤ 8) (hnow : 0 ≤ now.toInt ∧ now.toInt ≤ 1100000) {r_0 : Int32} {r_1 : (Nat → Int32)} {r_2 : (Nat → Int32)} {r_3 : (Nat → Int32)} {r_4 : (Nat → Int32)} {r_5 : (Nat → Int32)} {r_6 : (Nat → Int32)} {r_7 : (Nat → Int32)} {r_8 : (Nat → Int32)} {r_9 : (Nat → Int32)} (hres : (r_0, r_1, r_2, r_3, r_4, r_5, r_6, r_7, r_8, r_9) = f_X11_turn t wheel now store common low high register address status did ready timer trace) : K M_X11_turn yX11_turn [.ref 0, .int t] (w_M refusal wheel now length at_ fault faultLine line words labels targets wrong unfit text code_ label labelWord target targetWord targetLine store common low high register address status did ready timer trace) (some (.int r_0)) (w_M refusal wheel now length at_ fault faultLine line words labels targets wrong unfit text code_ label labelWord target targetWord targetLine r_1 r_2 low high r_3 r_4 r_5 r_6 r_7 r_8 r_9) := by
  refine K.of (lv := [(0, .ref 0), (1, .int t)]) (by decide +kernel) rfl rfl rfl ?_
  rw [f_X11_turn] at hres
  refine G.aload_n (pc := 0) dm_X11_turn_0 rfl ?_
  refine G.getfield (pc := 1) dm_X11_turn_1 gf_X11_51 rfl rfl ?_
  refine G.iload_n (pc := 4) dm_X11_turn_4 rfl ?_
  refine G.iaload (pc := 5) dm_X11_turn_5 rfl (q_t ht) ?_
  refine G.iconst (pc := 6) (v := (1 : Int32)) dm_X11_turn_6 qi_1 ?_
  refine G.icmp_ne (pc := 7) (tgt := 23) dm_X11_turn_7 (by decide) (fun c7 => ?_) (fun c7 => ?_)
  · rw [if_neg c7] at hres
    refine G.iconst (pc := 23) (v := (0 : Int32)) dm_X11_turn_23 qi_0 ?_
    cases hres
    exact G.ireturn (pc := 24) dm_X11_turn_24 rfl rfl rfl
  · rw [if_pos c7] at hres
    refine G.aload_n (pc := 10) dm_X11_turn_10 rfl ?_
    refine G.getfield (pc := 11) dm_X11_turn_11 gf_X11_291 rfl rfl ?_
    refine G.aload_n (pc := 14) dm_X11_turn_14 rfl ?_
    refine G.getfield (pc := 15) dm_X11_turn_15 gf_X11_57 rfl rfl ?_
    refine G.iload_n (pc := 18) dm_X11_turn_18 rfl ?_
    refine G.iaload (pc := 19) dm_X11_turn_19 rfl (q_t ht) ?_
    refine G.icmp_ge (pc := 20) (tgt := 25) dm_X11_turn_20 (by decide) (fun c20 => ?_) (fun c20 => ?_)
    · rw [if_pos c20] at hres
      refine G.aload_n (pc := 25) dm_X11_turn_25 rfl ?_
      refine G.getfield (pc := 26) dm_X11_turn_26 gf_X11_48 rfl rfl ?_
      refine G.iload_n (pc := 29) dm_X11_turn_29 rfl ?_
      refine G.iaload (pc := 30) dm_X11_turn_30 rfl (q_t ht) ?_
      refine G.istore_n (pc := 31) (lv1 := [(2, .int (address (Int32.toNatClampNeg t))), (0, .ref 0), (1, .int t)]) dm_X11_turn_31 rfl rfl ?_
      refine G.iload_n (pc := 32) dm_X11_turn_32 rfl ?_
      refine G.iconst (pc := 33) (v := (3 : Int32)) dm_X11_turn_33 qi_3 ?_
      refine G.iand (pc := 34) dm_X11_turn_34 ?_
      refine G.if_ne (pc := 35) (tgt := 45) dm_X11_turn_35 (by decide) (fun c35 => ?_) (fun c35 => ?_)
      · rw [if_neg c35] at hres
        refine G.lvp [1, 2] rfl ?_
        exact j_X11_turn_45 hres (by first | assumption | exact q_31 _ | exact q_7 _)
      · rw [if_pos c35] at hres
        refine G.iload_n (pc := 38) dm_X11_turn_38 rfl ?_
        obtain ⟨z2_0, hz2⟩ : ∃ (z2_0 : Int32), z2_0 = f_X11_isOwn (address (Int32.toNatClampNeg t)) := ⟨_, rfl⟩
        refine G.callS (pc := 39) (rest := []) (st1 := [.int z2_0]) (ws1 := (w_M refusal wheel now length at_ fault faultLine line words labels targets wrong unfit text code_ label labelWord target targetWord targetLine store common low high register address status did ready timer trace)) [] dm_X11_turn_39 gc_X11_turn_288 (k_X11_isOwn (a := (address (Int32.toNatClampNeg t))) hz2) rfl rfl rfl rfl rfl rfl rfl rfl ?_
        have own := a_isOwn hz2.symm
        replace hres : (r_0, r_1, r_2, r_3, r_4, r_5, r_6, r_7, r_8, r_9) = f_X11_turn_c39 t wheel now store common low high register address status did ready timer trace z2_0 := hres.trans (by rw [← hz2])
        rw [f_X11_turn_c39] at hres
        refine G.if_ne (pc := 42) (tgt := 51) dm_X11_turn_42 (by decide) (fun c42 => ?_) (fun c42 => ?_)
        · rw [if_neg c42] at hres
          refine G.aload_n (pc := 51) dm_X11_turn_51 rfl ?_
          refine G.getfield (pc := 52) dm_X11_turn_52 gf_X11_33 rfl rfl ?_
          refine G.sipush (pc := 55) (v := (128 : Int32)) dm_X11_turn_55 qs_128 ?_
          refine G.iload_n (pc := 58) dm_X11_turn_58 rfl ?_
          refine G.imul (pc := 59) dm_X11_turn_59 ?_
          refine G.iload_n (pc := 60) dm_X11_turn_60 rfl ?_
          refine G.iconst (pc := 61) (v := (4 : Int32)) dm_X11_turn_61 qi_4 ?_
          refine G.idiv (pc := 62) dm_X11_turn_62 (by decide) ?_
          refine G.iadd (pc := 63) dm_X11_turn_63 ?_
          refine G.iaload (pc := 64) dm_X11_turn_64 rfl (q_w4 ht (own.1 c42)) ?_
          refine G.istore_n (pc := 65) (lv1 := [(3, .int (store (Int32.toNatClampNeg (((128 : Int32) * t) + ((address (Int32.toNatClampNeg t)) / (4 : Int32)))))), (2, .int (address (Int32.toNatClampNeg t))), (0, .ref 0), (1, .int t)]) dm_X11_turn_65 rfl rfl ?_
          refine G.iload_n (pc := 66) dm_X11_turn_66 rfl ?_
          refine G.bipush (pc := 67) (v := (127 : Int32)) dm_X11_turn_67 qb_127 ?_
          refine G.iand (pc := 69) dm_X11_turn_69 ?_
          by_cases c70_0 : ((store (Int32.toNatClampNeg (((128 : Int32) * t) + ((address (Int32.toNatClampNeg t)) / (4 : Int32))))) &&& (127 : Int32)) = (3 : Int32)
          · rw [if_pos c70_0] at hres
            refine G.lookup (pc := 70) (tgt := 227) dm_X11_turn_70 (by decide) (by rw [c70_0] <;> rfl) (by decide) ?_
            refine G.aload_n (pc := 227) dm_X11_turn_227 rfl ?_
            refine G.iload_n (pc := 228) dm_X11_turn_228 rfl ?_
            refine G.iload_n (pc := 229) dm_X11_turn_229 rfl ?_
            refine G.iconst (pc := 230) (v := (0 : Int32)) dm_X11_turn_230 qi_0 ?_
            obtain ⟨z3_0, z3_1, z3_2, z3_3, z3_4, z3_5, z3_6, z3_7, z3_8, hz3⟩ : ∃ (z3_0 : Int32) (z3_1 : (Nat → Int32)) (z3_2 : (Nat → Int32)) (z3_3 : (Nat → Int32)) (z3_4 : (Nat → Int32)) (z3_5 : (Nat → Int32)) (z3_6 : (Nat → Int32)) (z3_7 : (Nat → Int32)) (z3_8 : (Nat → Int32)), (z3_0, z3_1, z3_2, z3_3, z3_4, z3_5, z3_6, z3_7, z3_8) = f_X11_moveWord t (store (Int32.toNatClampNeg (((128 : Int32) * t) + ((address (Int32.toNatClampNeg t)) / (4 : Int32))))) (0 : Int32) wheel now store common low high register address status did ready trace := ⟨_, _, _, _, _, _, _, _, _, rfl⟩
            refine G.callV0 (pc := 231) (rest := []) (st1 := [.int z3_0]) dm_X11_turn_231 gc_X11_turn_340 (k_X11_moveWord (t := t) (w := (store (Int32.toNatClampNeg (((128 : Int32) * t) + ((address (Int32.toNatClampNeg t)) / (4 : Int32)))))) (stores := (0 : Int32)) (refusal := refusal) (wheel := wheel) (now := now) (length := length) (at_ := at_) (fault := fault) (faultLine := faultLine) (line := line) (words := words) (labels := labels) (targets := targets) (wrong := wrong) (unfit := unfit) (text := text) (code_ := code_) (label := label) (labelWord := labelWord) (target := target) (targetWord := targetWord) (targetLine := targetLine) (store := store) (common := common) (low := low) (high := high) (register := register) (address := address) (status := status) (did := did) (ready := ready) (timer := timer) (trace := trace) (by first | assumption | exact q_31 _ | exact q_7 _) (by first | assumption | exact q_31 _ | exact q_7 _) (by first | assumption | exact q_31 _ | exact q_7 _) (by first | assumption | exact q_31 _ | exact q_7 _) (by first | assumption | exact q_31 _ | exact q_7 _) hz3) rfl rfl rfl rfl rfl rfl rfl rfl ?_
            replace hres : (r_0, r_1, r_2, r_3, r_4, r_5, r_6, r_7, r_8, r_9) = f_X11_turn_c231 timer z3_0 z3_1 z3_2 z3_3 z3_4 z3_5 z3_6 z3_7 z3_8 := hres.trans (by rw [← hz3])
            rw [f_X11_turn_c231] at hres
            cases hres
            exact G.ireturn (pc := 234) dm_X11_turn_234 rfl rfl rfl
          rw [if_neg c70_0] at hres
          by_cases c70_1 : ((store (Int32.toNatClampNeg (((128 : Int32) * t) + ((address (Int32.toNatClampNeg t)) / (4 : Int32))))) &&& (127 : Int32)) = (11 : Int32)
          · rw [if_pos c70_1] at hres
            refine G.lookup (pc := 70) (tgt := 259) dm_X11_turn_70 (by decide) (by rw [c70_1] <;> rfl) (by decide) ?_
            refine G.aload_n (pc := 259) dm_X11_turn_259 rfl ?_
            refine G.iload_n (pc := 260) dm_X11_turn_260 rfl ?_
            refine G.iload_n (pc := 261) dm_X11_turn_261 rfl ?_
            obtain ⟨z4_0, z4_1, z4_2, z4_3, z4_4, z4_5, z4_6, z4_7, hz4⟩ : ∃ (z4_0 : Int32) (z4_1 : (Nat → Int32)) (z4_2 : (Nat → Int32)) (z4_3 : (Nat → Int32)) (z4_4 : (Nat → Int32)) (z4_5 : (Nat → Int32)) (z4_6 : (Nat → Int32)) (z4_7 : (Nat → Int32)), (z4_0, z4_1, z4_2, z4_3, z4_4, z4_5, z4_6, z4_7) = f_X11_clock t (store (Int32.toNatClampNeg (((128 : Int32) * t) + ((address (Int32.toNatClampNeg t)) / (4 : Int32))))) now register address status did ready timer trace := ⟨_, _, _, _, _, _, _, _, rfl⟩
            refine G.callV0 (pc := 262) (rest := []) (st1 := [.int z4_0]) dm_X11_turn_262 gc_X11_turn_346 (k_X11_clock (t := t) (w := (store (Int32.toNatClampNeg (((128 : Int32) * t) + ((address (Int32.toNatClampNeg t)) / (4 : Int32)))))) (refusal := refusal) (wheel := wheel) (now := now) (length := length) (at_ := at_) (fault := fault) (faultLine := faultLine) (line := line) (words := words) (labels := labels) (targets := targets) (wrong := wrong) (unfit := unfit) (text := text) (code_ := code_) (label := label) (labelWord := labelWord) (target := target) (targetWord := targetWord) (targetLine := targetLine) (store := store) (common := common) (low := low) (high := high) (register := register) (address := address) (status := status) (did := did) (ready := ready) (timer := timer) (trace := trace) (by first | assumption | exact q_31 _ | exact q_7 _) (by first | assumption | exact q_31 _ | exact q_7 _) hz4) rfl rfl rfl rfl rfl rfl rfl rfl ?_
            replace hres : (r_0, r_1, r_2, r_3, r_4, r_5, r_6, r_7, r_8, r_9) = f_X11_turn_c262 store common z4_0 z4_1 z4_2 z4_3 z4_4 z4_5 z4_6 z4_7 := hres.trans (by rw [← hz4])
            rw [f_X11_turn_c262] at hres
            cases hres
            exact G.ireturn (pc := 265) dm_X11_turn_265 rfl rfl rfl
          rw [if_neg c70_1] at hres
          by_cases c70_2 : ((store (Int32.toNatClampNeg (((128 : Int32) * t) + ((address (Int32.toNatClampNeg t)) / (4 : Int32))))) &&& (127 : Int32)) = (19 : Int32)
          · rw [if_pos c70_2] at hres
            refine G.lookup (pc := 70) (tgt := 243) dm_X11_turn_70 (by decide) (by rw [c70_2] <;> rfl) (by decide) ?_
            refine G.aload_n (pc := 243) dm_X11_turn_243 rfl ?_
            refine G.iload_n (pc := 244) dm_X11_turn_244 rfl ?_
            refine G.iload_n (pc := 245) dm_X11_turn_245 rfl ?_
            refine G.iconst (pc := 246) (v := (0 : Int32)) dm_X11_turn_246 qi_0 ?_
            obtain ⟨z5_0, z5_1, z5_2, z5_3, z5_4, z5_5, z5_6, hz5⟩ : ∃ (z5_0 : Int32) (z5_1 : (Nat → Int32)) (z5_2 : (Nat → Int32)) (z5_3 : (Nat → Int32)) (z5_4 : (Nat → Int32)) (z5_5 : (Nat → Int32)) (z5_6 : (Nat → Int32)), (z5_0, z5_1, z5_2, z5_3, z5_4, z5_5, z5_6) = f_X11_calculate t (store (Int32.toNatClampNeg (((128 : Int32) * t) + ((address (Int32.toNatClampNeg t)) / (4 : Int32))))) (0 : Int32) now register address status did ready trace := ⟨_, _, _, _, _, _, _, rfl⟩
            refine G.callV0 (pc := 247) (rest := []) (st1 := [.int z5_0]) dm_X11_turn_247 gc_X11_turn_343 (k_X11_calculate (t := t) (w := (store (Int32.toNatClampNeg (((128 : Int32) * t) + ((address (Int32.toNatClampNeg t)) / (4 : Int32)))))) (plain := (0 : Int32)) (refusal := refusal) (wheel := wheel) (now := now) (length := length) (at_ := at_) (fault := fault) (faultLine := faultLine) (line := line) (words := words) (labels := labels) (targets := targets) (wrong := wrong) (unfit := unfit) (text := text) (code_ := code_) (label := label) (labelWord := labelWord) (target := target) (targetWord := targetWord) (targetLine := targetLine) (store := store) (common := common) (low := low) (high := high) (register := register) (address := address) (status := status) (did := did) (ready := ready) (timer := timer) (trace := trace) (by first | assumption | exact q_31 _ | exact q_7 _) (by first | assumption | exact q_31 _ | exact q_7 _) hz5) rfl rfl rfl rfl rfl rfl rfl rfl ?_
            replace hres : (r_0, r_1, r_2, r_3, r_4, r_5, r_6, r_7, r_8, r_9) = f_X11_turn_c247 store common timer z5_0 z5_1 z5_2 z5_3 z5_4 z5_5 z5_6 := hres.trans (by rw [← hz5])
            rw [f_X11_turn_c247] at hres
            cases hres
            exact G.ireturn (pc := 250) dm_X11_turn_250 rfl rfl rfl
          rw [if_neg c70_2] at hres
          by_cases c70_3 : ((store (Int32.toNatClampNeg (((128 : Int32) * t) + ((address (Int32.toNatClampNeg t)) / (4 : Int32))))) &&& (127 : Int32)) = (35 : Int32)
          · rw [if_pos c70_3] at hres
            refine G.lookup (pc := 70) (tgt := 235) dm_X11_turn_70 (by decide) (by rw [c70_3] <;> rfl) (by decide) ?_
            refine G.aload_n (pc := 235) dm_X11_turn_235 rfl ?_
            refine G.iload_n (pc := 236) dm_X11_turn_236 rfl ?_
            refine G.iload_n (pc := 237) dm_X11_turn_237 rfl ?_
            refine G.iconst (pc := 238) (v := (1 : Int32)) dm_X11_turn_238 qi_1 ?_
            obtain ⟨z6_0, z6_1, z6_2, z6_3, z6_4, z6_5, z6_6, z6_7, z6_8, hz6⟩ : ∃ (z6_0 : Int32) (z6_1 : (Nat → Int32)) (z6_2 : (Nat → Int32)) (z6_3 : (Nat → Int32)) (z6_4 : (Nat → Int32)) (z6_5 : (Nat → Int32)) (z6_6 : (Nat → Int32)) (z6_7 : (Nat → Int32)) (z6_8 : (Nat → Int32)), (z6_0, z6_1, z6_2, z6_3, z6_4, z6_5, z6_6, z6_7, z6_8) = f_X11_moveWord t (store (Int32.toNatClampNeg (((128 : Int32) * t) + ((address (Int32.toNatClampNeg t)) / (4 : Int32))))) (1 : Int32) wheel now store common low high register address status did ready trace := ⟨_, _, _, _, _, _, _, _, _, rfl⟩
            refine G.callV0 (pc := 239) (rest := []) (st1 := [.int z6_0]) dm_X11_turn_239 gc_X11_turn_340 (k_X11_moveWord (t := t) (w := (store (Int32.toNatClampNeg (((128 : Int32) * t) + ((address (Int32.toNatClampNeg t)) / (4 : Int32)))))) (stores := (1 : Int32)) (refusal := refusal) (wheel := wheel) (now := now) (length := length) (at_ := at_) (fault := fault) (faultLine := faultLine) (line := line) (words := words) (labels := labels) (targets := targets) (wrong := wrong) (unfit := unfit) (text := text) (code_ := code_) (label := label) (labelWord := labelWord) (target := target) (targetWord := targetWord) (targetLine := targetLine) (store := store) (common := common) (low := low) (high := high) (register := register) (address := address) (status := status) (did := did) (ready := ready) (timer := timer) (trace := trace) (by first | assumption | exact q_31 _ | exact q_7 _) (by first | assumption | exact q_31 _ | exact q_7 _) (by first | assumption | exact q_31 _ | exact q_7 _) (by first | assumption | exact q_31 _ | exact q_7 _) (by first | assumption | exact q_31 _ | exact q_7 _) hz6) rfl rfl rfl rfl rfl rfl rfl rfl ?_
            replace hres : (r_0, r_1, r_2, r_3, r_4, r_5, r_6, r_7, r_8, r_9) = f_X11_turn_c239 timer z6_0 z6_1 z6_2 z6_3 z6_4 z6_5 z6_6 z6_7 z6_8 := hres.trans (by rw [← hz6])
            rw [f_X11_turn_c239] at hres
            cases hres
            exact G.ireturn (pc := 242) dm_X11_turn_242 rfl rfl rfl
          rw [if_neg c70_3] at hres
          by_cases c70_4 : ((store (Int32.toNatClampNeg (((128 : Int32) * t) + ((address (Int32.toNatClampNeg t)) / (4 : Int32))))) &&& (127 : Int32)) = (51 : Int32)
          · rw [if_pos c70_4] at hres
            refine G.lookup (pc := 70) (tgt := 251) dm_X11_turn_70 (by decide) (by rw [c70_4] <;> rfl) (by decide) ?_
            refine G.aload_n (pc := 251) dm_X11_turn_251 rfl ?_
            refine G.iload_n (pc := 252) dm_X11_turn_252 rfl ?_
            refine G.iload_n (pc := 253) dm_X11_turn_253 rfl ?_
            refine G.iconst (pc := 254) (v := (1 : Int32)) dm_X11_turn_254 qi_1 ?_
            obtain ⟨z7_0, z7_1, z7_2, z7_3, z7_4, z7_5, z7_6, hz7⟩ : ∃ (z7_0 : Int32) (z7_1 : (Nat → Int32)) (z7_2 : (Nat → Int32)) (z7_3 : (Nat → Int32)) (z7_4 : (Nat → Int32)) (z7_5 : (Nat → Int32)) (z7_6 : (Nat → Int32)), (z7_0, z7_1, z7_2, z7_3, z7_4, z7_5, z7_6) = f_X11_calculate t (store (Int32.toNatClampNeg (((128 : Int32) * t) + ((address (Int32.toNatClampNeg t)) / (4 : Int32))))) (1 : Int32) now register address status did ready trace := ⟨_, _, _, _, _, _, _, rfl⟩
            refine G.callV0 (pc := 255) (rest := []) (st1 := [.int z7_0]) dm_X11_turn_255 gc_X11_turn_343 (k_X11_calculate (t := t) (w := (store (Int32.toNatClampNeg (((128 : Int32) * t) + ((address (Int32.toNatClampNeg t)) / (4 : Int32)))))) (plain := (1 : Int32)) (refusal := refusal) (wheel := wheel) (now := now) (length := length) (at_ := at_) (fault := fault) (faultLine := faultLine) (line := line) (words := words) (labels := labels) (targets := targets) (wrong := wrong) (unfit := unfit) (text := text) (code_ := code_) (label := label) (labelWord := labelWord) (target := target) (targetWord := targetWord) (targetLine := targetLine) (store := store) (common := common) (low := low) (high := high) (register := register) (address := address) (status := status) (did := did) (ready := ready) (timer := timer) (trace := trace) (by first | assumption | exact q_31 _ | exact q_7 _) (by first | assumption | exact q_31 _ | exact q_7 _) hz7) rfl rfl rfl rfl rfl rfl rfl rfl ?_
            replace hres : (r_0, r_1, r_2, r_3, r_4, r_5, r_6, r_7, r_8, r_9) = f_X11_turn_c255 store common timer z7_0 z7_1 z7_2 z7_3 z7_4 z7_5 z7_6 := hres.trans (by rw [← hz7])
            rw [f_X11_turn_c255] at hres
            cases hres
            exact G.ireturn (pc := 258) dm_X11_turn_258 rfl rfl rfl
          rw [if_neg c70_4] at hres
          by_cases c70_5 : ((store (Int32.toNatClampNeg (((128 : Int32) * t) + ((address (Int32.toNatClampNeg t)) / (4 : Int32))))) &&& (127 : Int32)) = (55 : Int32)
          · rw [if_pos c70_5] at hres
            refine G.lookup (pc := 70) (tgt := 152) dm_X11_turn_70 (by decide) (by rw [c70_5] <;> rfl) (by decide) ?_
            refine G.iload_n (pc := 152) dm_X11_turn_152 rfl ?_
            refine G.bipush (pc := 153) (v := (7 : Int32)) dm_X11_turn_153 qb_7 ?_
            refine G.ishr (pc := 155) dm_X11_turn_155 ?_
            refine G.bipush (pc := 156) (v := (31 : Int32)) dm_X11_turn_156 qb_31 ?_
            refine G.iand (pc := 158) dm_X11_turn_158 ?_
            refine G.bipush (pc := 159) (v := (15 : Int32)) dm_X11_turn_159 qb_15 ?_
            refine G.icmp_le (pc := 161) (tgt := 170) dm_X11_turn_161 (by decide) (fun c161 => ?_) (fun c161 => ?_)
            · rw [if_pos c161] at hres
              refine G.aload_n (pc := 170) dm_X11_turn_170 rfl ?_
              refine G.iload_n (pc := 171) dm_X11_turn_171 rfl ?_
              refine G.iload_n (pc := 172) dm_X11_turn_172 rfl ?_
              refine G.bipush (pc := 173) (v := (7 : Int32)) dm_X11_turn_173 qb_7 ?_
              refine G.ishr (pc := 175) dm_X11_turn_175 ?_
              refine G.bipush (pc := 176) (v := (31 : Int32)) dm_X11_turn_176 qb_31 ?_
              refine G.iand (pc := 178) dm_X11_turn_178 ?_
              refine G.iload_n (pc := 179) dm_X11_turn_179 rfl ?_
              refine G.bipush (pc := 180) (v := (12 : Int32)) dm_X11_turn_180 qb_12 ?_
              refine G.ishr (pc := 182) dm_X11_turn_182 ?_
              refine G.bipush (pc := 183) (v := (12 : Int32)) dm_X11_turn_183 qb_12 ?_
              refine G.ishl (pc := 185) dm_X11_turn_185 ?_
              obtain ⟨z8_0, hz8⟩ : ∃ (z8_0 : (Nat → Int32)), z8_0 = f_X11_set t (((store (Int32.toNatClampNeg (((128 : Int32) * t) + ((address (Int32.toNatClampNeg t)) / (4 : Int32))))) >>> ((7 : Int32) &&& 31)) &&& (31 : Int32)) (((store (Int32.toNatClampNeg (((128 : Int32) * t) + ((address (Int32.toNatClampNeg t)) / (4 : Int32))))) >>> ((12 : Int32) &&& 31)) <<< ((12 : Int32) &&& 31)) register := ⟨_, rfl⟩
              refine G.callV0 (pc := 186) (rest := []) (st1 := []) dm_X11_turn_186 gc_X11_turn_313 (k_X11_set (t := t) (r := (((store (Int32.toNatClampNeg (((128 : Int32) * t) + ((address (Int32.toNatClampNeg t)) / (4 : Int32))))) >>> ((7 : Int32) &&& 31)) &&& (31 : Int32))) (v := (((store (Int32.toNatClampNeg (((128 : Int32) * t) + ((address (Int32.toNatClampNeg t)) / (4 : Int32))))) >>> ((12 : Int32) &&& 31)) <<< ((12 : Int32) &&& 31))) (refusal := refusal) (wheel := wheel) (now := now) (length := length) (at_ := at_) (fault := fault) (faultLine := faultLine) (line := line) (words := words) (labels := labels) (targets := targets) (wrong := wrong) (unfit := unfit) (text := text) (code_ := code_) (label := label) (labelWord := labelWord) (target := target) (targetWord := targetWord) (targetLine := targetLine) (store := store) (common := common) (low := low) (high := high) (register := register) (address := address) (status := status) (did := did) (ready := ready) (timer := timer) (trace := trace) ht (q_16' (q_31 _) c161) hz8) rfl rfl rfl rfl rfl rfl rfl rfl ?_
              replace hres : (r_0, r_1, r_2, r_3, r_4, r_5, r_6, r_7, r_8, r_9) = f_X11_turn_c186 t now store common address status did ready timer trace z8_0 := hres.trans (by rw [← hz8])
              rw [f_X11_turn_c186] at hres
              refine G.aload_n (pc := 189) dm_X11_turn_189 rfl ?_
              refine G.iload_n (pc := 190) dm_X11_turn_190 rfl ?_
              refine G.iload_n (pc := 191) dm_X11_turn_191 rfl ?_
              refine G.iconst (pc := 192) (v := (4 : Int32)) dm_X11_turn_192 qi_4 ?_
              refine G.iadd (pc := 193) dm_X11_turn_193 ?_
              refine G.aload_n (pc := 194) dm_X11_turn_194 rfl ?_
              refine G.getfield (pc := 195) dm_X11_turn_195 gf_X11_291 rfl rfl ?_
              refine G.iconst (pc := 198) (v := (4 : Int32)) dm_X11_turn_198 qi_4 ?_
              refine G.iadd (pc := 199) dm_X11_turn_199 ?_
              obtain ⟨z9_0, z9_1, z9_2, z9_3, z9_4, hz9⟩ : ∃ (z9_0 : Int32) (z9_1 : (Nat → Int32)) (z9_2 : (Nat → Int32)) (z9_3 : (Nat → Int32)) (z9_4 : (Nat → Int32)), (z9_0, z9_1, z9_2, z9_3, z9_4) = f_X11_done t ((address (Int32.toNatClampNeg t)) + (4 : Int32)) (now + (4 : Int32)) now address did ready trace := ⟨_, _, _, _, _, rfl⟩
              refine G.callV0 (pc := 200) (rest := []) (st1 := [.int z9_0]) dm_X11_turn_200 gc_X11_turn_319 (k_X11_done (t := t) (a := ((address (Int32.toNatClampNeg t)) + (4 : Int32))) (when := (now + (4 : Int32))) (refusal := refusal) (wheel := wheel) (now := now) (length := length) (at_ := at_) (fault := fault) (faultLine := faultLine) (line := line) (words := words) (labels := labels) (targets := targets) (wrong := wrong) (unfit := unfit) (text := text) (code_ := code_) (label := label) (labelWord := labelWord) (target := target) (targetWord := targetWord) (targetLine := targetLine) (store := store) (common := common) (low := low) (high := high) (register := z8_0) (address := address) (status := status) (did := did) (ready := ready) (timer := timer) (trace := trace) (by first | assumption | exact q_31 _ | exact q_7 _) (by first | assumption | exact q_31 _ | exact q_7 _) hz9) rfl rfl rfl rfl rfl rfl rfl rfl ?_
              replace hres : (r_0, r_1, r_2, r_3, r_4, r_5, r_6, r_7, r_8, r_9) = f_X11_turn_c200 store common status timer z8_0 z9_0 z9_1 z9_2 z9_3 z9_4 := hres.trans (by rw [← hz9])
              rw [f_X11_turn_c200] at hres
              cases hres
              exact G.ireturn (pc := 203) dm_X11_turn_203 rfl rfl rfl
            · rw [if_neg c161] at hres
              refine G.aload_n (pc := 164) dm_X11_turn_164 rfl ?_
              refine G.iload_n (pc := 165) dm_X11_turn_165 rfl ?_
              obtain ⟨z10_0, z10_1, hz10⟩ : ∃ (z10_0 : Int32) (z10_1 : (Nat → Int32)), (z10_0, z10_1) = f_X11_stop t status := ⟨_, _, rfl⟩
              refine G.callV0 (pc := 166) (rest := []) (st1 := [.int z10_0]) dm_X11_turn_166 gc_X11_turn_299 (k_X11_stop (t := t) (refusal := refusal) (wheel := wheel) (now := now) (length := length) (at_ := at_) (fault := fault) (faultLine := faultLine) (line := line) (words := words) (labels := labels) (targets := targets) (wrong := wrong) (unfit := unfit) (text := text) (code_ := code_) (label := label) (labelWord := labelWord) (target := target) (targetWord := targetWord) (targetLine := targetLine) (store := store) (common := common) (low := low) (high := high) (register := register) (address := address) (status := status) (did := did) (ready := ready) (timer := timer) (trace := trace) (by first | assumption | exact q_31 _ | exact q_7 _) hz10) rfl rfl rfl rfl rfl rfl rfl rfl ?_
              replace hres : (r_0, r_1, r_2, r_3, r_4, r_5, r_6, r_7, r_8, r_9) = f_X11_turn_c166 store common register address did ready timer trace z10_0 z10_1 := hres.trans (by rw [← hz10])
              rw [f_X11_turn_c166] at hres
              cases hres
              exact G.ireturn (pc := 169) dm_X11_turn_169 rfl rfl rfl
          rw [if_neg c70_5] at hres
          by_cases c70_6 : ((store (Int32.toNatClampNeg (((128 : Int32) * t) + ((address (Int32.toNatClampNeg t)) / (4 : Int32))))) &&& (127 : Int32)) = (99 : Int32)
          · rw [if_pos c70_6] at hres
            refine G.lookup (pc := 70) (tgt := 220) dm_X11_turn_70 (by decide) (by rw [c70_6] <;> rfl) (by decide) ?_
            refine G.aload_n (pc := 220) dm_X11_turn_220 rfl ?_
            refine G.iload_n (pc := 221) dm_X11_turn_221 rfl ?_
            refine G.iload_n (pc := 222) dm_X11_turn_222 rfl ?_
            obtain ⟨z11_0, z11_1, z11_2, z11_3, z11_4, z11_5, hz11⟩ : ∃ (z11_0 : Int32) (z11_1 : (Nat → Int32)) (z11_2 : (Nat → Int32)) (z11_3 : (Nat → Int32)) (z11_4 : (Nat → Int32)) (z11_5 : (Nat → Int32)), (z11_0, z11_1, z11_2, z11_3, z11_4, z11_5) = f_X11_branch t (store (Int32.toNatClampNeg (((128 : Int32) * t) + ((address (Int32.toNatClampNeg t)) / (4 : Int32))))) now register address status did ready trace := ⟨_, _, _, _, _, _, rfl⟩
            refine G.callV0 (pc := 223) (rest := []) (st1 := [.int z11_0]) dm_X11_turn_223 gc_X11_turn_337 (k_X11_branch (t := t) (w := (store (Int32.toNatClampNeg (((128 : Int32) * t) + ((address (Int32.toNatClampNeg t)) / (4 : Int32)))))) (refusal := refusal) (wheel := wheel) (now := now) (length := length) (at_ := at_) (fault := fault) (faultLine := faultLine) (line := line) (words := words) (labels := labels) (targets := targets) (wrong := wrong) (unfit := unfit) (text := text) (code_ := code_) (label := label) (labelWord := labelWord) (target := target) (targetWord := targetWord) (targetLine := targetLine) (store := store) (common := common) (low := low) (high := high) (register := register) (address := address) (status := status) (did := did) (ready := ready) (timer := timer) (trace := trace) (by first | assumption | exact q_31 _ | exact q_7 _) (by first | assumption | exact q_31 _ | exact q_7 _) hz11) rfl rfl rfl rfl rfl rfl rfl rfl ?_
            replace hres : (r_0, r_1, r_2, r_3, r_4, r_5, r_6, r_7, r_8, r_9) = f_X11_turn_c223 store common register timer z11_0 z11_1 z11_2 z11_3 z11_4 z11_5 := hres.trans (by rw [← hz11])
            rw [f_X11_turn_c223] at hres
            cases hres
            exact G.ireturn (pc := 226) dm_X11_turn_226 rfl rfl rfl
          rw [if_neg c70_6] at hres
          by_cases c70_7 : ((store (Int32.toNatClampNeg (((128 : Int32) * t) + ((address (Int32.toNatClampNeg t)) / (4 : Int32))))) &&& (127 : Int32)) = (103 : Int32)
          · rw [if_pos c70_7] at hres
            refine G.lookup (pc := 70) (tgt := 212) dm_X11_turn_70 (by decide) (by rw [c70_7] <;> rfl) (by decide) ?_
            refine G.aload_n (pc := 212) dm_X11_turn_212 rfl ?_
            refine G.iload_n (pc := 213) dm_X11_turn_213 rfl ?_
            refine G.iload_n (pc := 214) dm_X11_turn_214 rfl ?_
            refine G.iconst (pc := 215) (v := (1 : Int32)) dm_X11_turn_215 qi_1 ?_
            obtain ⟨z12_0, z12_1, z12_2, z12_3, z12_4, z12_5, z12_6, hz12⟩ : ∃ (z12_0 : Int32) (z12_1 : (Nat → Int32)) (z12_2 : (Nat → Int32)) (z12_3 : (Nat → Int32)) (z12_4 : (Nat → Int32)) (z12_5 : (Nat → Int32)) (z12_6 : (Nat → Int32)), (z12_0, z12_1, z12_2, z12_3, z12_4, z12_5, z12_6) = f_X11_jump t (store (Int32.toNatClampNeg (((128 : Int32) * t) + ((address (Int32.toNatClampNeg t)) / (4 : Int32))))) (1 : Int32) now register address status did ready trace := ⟨_, _, _, _, _, _, _, rfl⟩
            refine G.callV0 (pc := 216) (rest := []) (st1 := [.int z12_0]) dm_X11_turn_216 gc_X11_turn_333 (k_X11_jump (t := t) (w := (store (Int32.toNatClampNeg (((128 : Int32) * t) + ((address (Int32.toNatClampNeg t)) / (4 : Int32)))))) (far := (1 : Int32)) (refusal := refusal) (wheel := wheel) (now := now) (length := length) (at_ := at_) (fault := fault) (faultLine := faultLine) (line := line) (words := words) (labels := labels) (targets := targets) (wrong := wrong) (unfit := unfit) (text := text) (code_ := code_) (label := label) (labelWord := labelWord) (target := target) (targetWord := targetWord) (targetLine := targetLine) (store := store) (common := common) (low := low) (high := high) (register := register) (address := address) (status := status) (did := did) (ready := ready) (timer := timer) (trace := trace) (by first | assumption | exact q_31 _ | exact q_7 _) (by first | assumption | exact q_31 _ | exact q_7 _) hz12) rfl rfl rfl rfl rfl rfl rfl rfl ?_
            replace hres : (r_0, r_1, r_2, r_3, r_4, r_5, r_6, r_7, r_8, r_9) = f_X11_turn_c216 store common timer z12_0 z12_1 z12_2 z12_3 z12_4 z12_5 z12_6 := hres.trans (by rw [← hz12])
            rw [f_X11_turn_c216] at hres
            cases hres
            exact G.ireturn (pc := 219) dm_X11_turn_219 rfl rfl rfl
          rw [if_neg c70_7] at hres
          by_cases c70_8 : ((store (Int32.toNatClampNeg (((128 : Int32) * t) + ((address (Int32.toNatClampNeg t)) / (4 : Int32))))) &&& (127 : Int32)) = (111 : Int32)
          · rw [if_pos c70_8] at hres
            refine G.lookup (pc := 70) (tgt := 204) dm_X11_turn_70 (by decide) (by rw [c70_8] <;> rfl) (by decide) ?_
            refine G.aload_n (pc := 204) dm_X11_turn_204 rfl ?_
            refine G.iload_n (pc := 205) dm_X11_turn_205 rfl ?_
            refine G.iload_n (pc := 206) dm_X11_turn_206 rfl ?_
            refine G.iconst (pc := 207) (v := (0 : Int32)) dm_X11_turn_207 qi_0 ?_
            obtain ⟨z13_0, z13_1, z13_2, z13_3, z13_4, z13_5, z13_6, hz13⟩ : ∃ (z13_0 : Int32) (z13_1 : (Nat → Int32)) (z13_2 : (Nat → Int32)) (z13_3 : (Nat → Int32)) (z13_4 : (Nat → Int32)) (z13_5 : (Nat → Int32)) (z13_6 : (Nat → Int32)), (z13_0, z13_1, z13_2, z13_3, z13_4, z13_5, z13_6) = f_X11_jump t (store (Int32.toNatClampNeg (((128 : Int32) * t) + ((address (Int32.toNatClampNeg t)) / (4 : Int32))))) (0 : Int32) now register address status did ready trace := ⟨_, _, _, _, _, _, _, rfl⟩
            refine G.callV0 (pc := 208) (rest := []) (st1 := [.int z13_0]) dm_X11_turn_208 gc_X11_turn_333 (k_X11_jump (t := t) (w := (store (Int32.toNatClampNeg (((128 : Int32) * t) + ((address (Int32.toNatClampNeg t)) / (4 : Int32)))))) (far := (0 : Int32)) (refusal := refusal) (wheel := wheel) (now := now) (length := length) (at_ := at_) (fault := fault) (faultLine := faultLine) (line := line) (words := words) (labels := labels) (targets := targets) (wrong := wrong) (unfit := unfit) (text := text) (code_ := code_) (label := label) (labelWord := labelWord) (target := target) (targetWord := targetWord) (targetLine := targetLine) (store := store) (common := common) (low := low) (high := high) (register := register) (address := address) (status := status) (did := did) (ready := ready) (timer := timer) (trace := trace) (by first | assumption | exact q_31 _ | exact q_7 _) (by first | assumption | exact q_31 _ | exact q_7 _) hz13) rfl rfl rfl rfl rfl rfl rfl rfl ?_
            replace hres : (r_0, r_1, r_2, r_3, r_4, r_5, r_6, r_7, r_8, r_9) = f_X11_turn_c208 store common timer z13_0 z13_1 z13_2 z13_3 z13_4 z13_5 z13_6 := hres.trans (by rw [← hz13])
            rw [f_X11_turn_c208] at hres
            cases hres
            exact G.ireturn (pc := 211) dm_X11_turn_211 rfl rfl rfl
          rw [if_neg c70_8] at hres
          refine G.lookup (pc := 70) (tgt := 266) dm_X11_turn_70 (by decide) (g_lkmiss (by simp only [List.all_cons, List.all_nil, Bool.and_true, Bool.and_eq_true, decide_eq_true_eq]; exact ⟨g_toInt_ne c70_0 (by decide), g_toInt_ne c70_1 (by decide), g_toInt_ne c70_2 (by decide), g_toInt_ne c70_3 (by decide), g_toInt_ne c70_4 (by decide), g_toInt_ne c70_5 (by decide), g_toInt_ne c70_6 (by decide), g_toInt_ne c70_7 (by decide), g_toInt_ne c70_8 (by decide)⟩)) (by decide) ?_
          refine G.iload_n (pc := 266) dm_X11_turn_266 rfl ?_
          refine G.bipush (pc := 267) (v := (115 : Int32)) dm_X11_turn_267 qb_115 ?_
          refine G.icmp_eq (pc := 269) (tgt := 278) dm_X11_turn_269 (by decide) (fun c269 => ?_) (fun c269 => ?_)
          · rw [if_pos c269] at hres
            refine G.aload_n (pc := 278) dm_X11_turn_278 rfl ?_
            refine G.getfield (pc := 279) dm_X11_turn_279 gf_X11_51 rfl rfl ?_
            refine G.iload_n (pc := 282) dm_X11_turn_282 rfl ?_
            refine G.iconst (pc := 283) (v := (2 : Int32)) dm_X11_turn_283 qi_2 ?_
            refine G.iastore (pc := 284) (ws1 := (w_M refusal wheel now length at_ fault faultLine line words labels targets wrong unfit text code_ label labelWord target targetWord targetLine store common low high register address (upd status (Int32.toNatClampNeg t) (2 : Int32)) did ready timer trace)) dm_X11_turn_284 rfl (q_t ht) rfl ?_
            refine G.aload_n (pc := 285) dm_X11_turn_285 rfl ?_
            refine G.iload_n (pc := 286) dm_X11_turn_286 rfl ?_
            refine G.iload_n (pc := 287) dm_X11_turn_287 rfl ?_
            refine G.iconst (pc := 288) (v := (4 : Int32)) dm_X11_turn_288 qi_4 ?_
            refine G.iadd (pc := 289) dm_X11_turn_289 ?_
            refine G.aload_n (pc := 290) dm_X11_turn_290 rfl ?_
            refine G.getfield (pc := 291) dm_X11_turn_291 gf_X11_291 rfl rfl ?_
            refine G.iconst (pc := 294) (v := (4 : Int32)) dm_X11_turn_294 qi_4 ?_
            refine G.iadd (pc := 295) dm_X11_turn_295 ?_
            obtain ⟨z14_0, z14_1, z14_2, z14_3, z14_4, hz14⟩ : ∃ (z14_0 : Int32) (z14_1 : (Nat → Int32)) (z14_2 : (Nat → Int32)) (z14_3 : (Nat → Int32)) (z14_4 : (Nat → Int32)), (z14_0, z14_1, z14_2, z14_3, z14_4) = f_X11_done t ((address (Int32.toNatClampNeg t)) + (4 : Int32)) (now + (4 : Int32)) now address did ready trace := ⟨_, _, _, _, _, rfl⟩
            refine G.callV0 (pc := 296) (rest := []) (st1 := [.int z14_0]) dm_X11_turn_296 gc_X11_turn_319 (k_X11_done (t := t) (a := ((address (Int32.toNatClampNeg t)) + (4 : Int32))) (when := (now + (4 : Int32))) (refusal := refusal) (wheel := wheel) (now := now) (length := length) (at_ := at_) (fault := fault) (faultLine := faultLine) (line := line) (words := words) (labels := labels) (targets := targets) (wrong := wrong) (unfit := unfit) (text := text) (code_ := code_) (label := label) (labelWord := labelWord) (target := target) (targetWord := targetWord) (targetLine := targetLine) (store := store) (common := common) (low := low) (high := high) (register := register) (address := address) (status := (upd status (Int32.toNatClampNeg t) (2 : Int32))) (did := did) (ready := ready) (timer := timer) (trace := trace) (by first | assumption | exact q_31 _ | exact q_7 _) (by first | assumption | exact q_31 _ | exact q_7 _) hz14) rfl rfl rfl rfl rfl rfl rfl rfl ?_
            replace hres : (r_0, r_1, r_2, r_3, r_4, r_5, r_6, r_7, r_8, r_9) = f_X11_turn_c296 t store common register status timer z14_0 z14_1 z14_2 z14_3 z14_4 := hres.trans (by rw [← hz14])
            rw [f_X11_turn_c296] at hres
            cases hres
            exact G.ireturn (pc := 299) dm_X11_turn_299 rfl rfl rfl
          · rw [if_neg c269] at hres
            refine G.aload_n (pc := 272) dm_X11_turn_272 rfl ?_
            refine G.iload_n (pc := 273) dm_X11_turn_273 rfl ?_
            obtain ⟨z15_0, z15_1, hz15⟩ : ∃ (z15_0 : Int32) (z15_1 : (Nat → Int32)), (z15_0, z15_1) = f_X11_stop t status := ⟨_, _, rfl⟩
            refine G.callV0 (pc := 274) (rest := []) (st1 := [.int z15_0]) dm_X11_turn_274 gc_X11_turn_299 (k_X11_stop (t := t) (refusal := refusal) (wheel := wheel) (now := now) (length := length) (at_ := at_) (fault := fault) (faultLine := faultLine) (line := line) (words := words) (labels := labels) (targets := targets) (wrong := wrong) (unfit := unfit) (text := text) (code_ := code_) (label := label) (labelWord := labelWord) (target := target) (targetWord := targetWord) (targetLine := targetLine) (store := store) (common := common) (low := low) (high := high) (register := register) (address := address) (status := status) (did := did) (ready := ready) (timer := timer) (trace := trace) (by first | assumption | exact q_31 _ | exact q_7 _) hz15) rfl rfl rfl rfl rfl rfl rfl rfl ?_
            replace hres : (r_0, r_1, r_2, r_3, r_4, r_5, r_6, r_7, r_8, r_9) = f_X11_turn_c274 store common register address did ready timer trace z15_0 z15_1 := hres.trans (by rw [← hz15])
            rw [f_X11_turn_c274] at hres
            cases hres
            exact G.ireturn (pc := 277) dm_X11_turn_277 rfl rfl rfl
        · rw [if_pos c42] at hres
          refine G.lvp [1, 2] rfl ?_
          exact j_X11_turn_45 hres (by first | assumption | exact q_31 _ | exact q_7 _)
    · rw [if_neg c20] at hres
      refine G.iconst (pc := 23) (v := (0 : Int32)) dm_X11_turn_23 qi_0 ?_
      cases hres
      exact G.ireturn (pc := 24) dm_X11_turn_24 rfl rfl rfl
end
section
abbrev M_X11_clear : g_M := (cX11_clear, 2, RX11, (some .int), { frames := 0, cells := 0, slots := 0, locals := 0 }, 0, 0)
theorem dm_X11_clear_0 : decode M_X11_clear.1 0 = .ok (.aload_n 0, 1) := by decide +kernel
theorem dm_X11_clear_1 : decode M_X11_clear.1 1 = .ok (.iconst 0, 1) := by decide +kernel
theorem dm_X11_clear_2 : decode M_X11_clear.1 2 = .ok (.putfield 70, 3) := by decide +kernel
theorem dm_X11_clear_5 : decode M_X11_clear.1 5 = .ok (.aload_n 0, 1) := by decide +kernel
theorem dm_X11_clear_6 : decode M_X11_clear.1 6 = .ok (.getfield 85, 3) := by decide +kernel
theorem dm_X11_clear_9 : decode M_X11_clear.1 9 = .ok (.istore_n 1, 1) := by decide +kernel
theorem dm_X11_clear_10 : decode M_X11_clear.1 10 = .ok (.aload_n 0, 1) := by decide +kernel
theorem dm_X11_clear_11 : decode M_X11_clear.1 11 = .ok (.iconst 0, 1) := by decide +kernel
theorem dm_X11_clear_12 : decode M_X11_clear.1 12 = .ok (.putfield 85, 3) := by decide +kernel
theorem dm_X11_clear_15 : decode M_X11_clear.1 15 = .ok (.iload_n 1, 1) := by decide +kernel
theorem dm_X11_clear_16 : decode M_X11_clear.1 16 = .ok (.ireturn, 1) := by decide +kernel
def f_X11_clear (length : Int32) : Int32 × Int32 × Int32 := (length, (0 : Int32), (0 : Int32))
set_option maxRecDepth 20000 in
theorem k_X11_clear {refusal : Int32} {wheel : Int32} {now : Int32} {length : Int32} {at_ : Int32} {fault : Int32} {faultLine : Int32} {line : Int32} {words : Int32} {labels : Int32} {targets : Int32} {wrong : Int32} {unfit : Int32} {text : Nat → Int32} {code_ : Nat → Int32} {label : Nat → Int64} {labelWord : Nat → Int32} {target : Nat → Int64} {targetWord : Nat → Int32} {targetLine : Nat → Int32} {store : Nat → Int32} {common : Nat → Int32} {low : Nat → Int32} {high : Nat → Int32} {register : Nat → Int32} {address : Nat → Int32} {status : Nat → Int32} {did : Nat → Int32} {ready : Nat → Int32} {timer : Nat → Int32} {trace : Nat → Int32} {r_0 : Int32} {r_1 : Int32} {r_2 : Int32} (hres : (r_0, r_1, r_2) = f_X11_clear length) : K M_X11_clear yX11_clear [.ref 0] (w_M refusal wheel now length at_ fault faultLine line words labels targets wrong unfit text code_ label labelWord target targetWord targetLine store common low high register address status did ready timer trace) (some (.int r_0)) (w_M r_1 wheel now r_2 at_ fault faultLine line words labels targets wrong unfit text code_ label labelWord target targetWord targetLine store common low high register address status did ready timer trace) := by
  refine K.of (lv := [(0, .ref 0)]) (by decide +kernel) rfl rfl rfl ?_
  rw [f_X11_clear] at hres
  refine G.aload_n (pc := 0) dm_X11_clear_0 rfl ?_
  refine G.iconst (pc := 1) (v := (0 : Int32)) dm_X11_clear_1 qi_0 ?_
  refine G.putfield (pc := 2) (ws1 := (w_M (0 : Int32) wheel now length at_ fault faultLine line words labels targets wrong unfit text code_ label labelWord target targetWord targetLine store common low high register address status did ready timer trace)) dm_X11_clear_2 gw_X11_70 rfl (g_fit_i _) rfl rfl ?_
  refine G.aload_n (pc := 5) dm_X11_clear_5 rfl ?_
  refine G.getfield (pc := 6) dm_X11_clear_6 gf_X11_85 rfl rfl ?_
  refine G.istore_n (pc := 9) (lv1 := [(1, .int length), (0, .ref 0)]) dm_X11_clear_9 rfl rfl ?_
  refine G.aload_n (pc := 10) dm_X11_clear_10 rfl ?_
  refine G.iconst (pc := 11) (v := (0 : Int32)) dm_X11_clear_11 qi_0 ?_
  refine G.putfield (pc := 12) (ws1 := (w_M (0 : Int32) wheel now (0 : Int32) at_ fault faultLine line words labels targets wrong unfit text code_ label labelWord target targetWord targetLine store common low high register address status did ready timer trace)) dm_X11_clear_12 gw_X11_85 rfl (g_fit_i _) rfl rfl ?_
  refine G.iload_n (pc := 15) dm_X11_clear_15 rfl ?_
  cases hres
  exact G.ireturn (pc := 16) dm_X11_clear_16 rfl rfl rfl
abbrev M_X11_fault : g_M := (cX11_fault, 2, RX11, (some .int), { frames := 0, cells := 0, slots := 0, locals := 0 }, 0, 0)
theorem dm_X11_fault_0 : decode M_X11_fault.1 0 = .ok (.aload_n 0, 1) := by decide +kernel
theorem dm_X11_fault_1 : decode M_X11_fault.1 1 = .ok (.iconst 0, 1) := by decide +kernel
theorem dm_X11_fault_2 : decode M_X11_fault.1 2 = .ok (.putfield 70, 3) := by decide +kernel
theorem dm_X11_fault_5 : decode M_X11_fault.1 5 = .ok (.iload_n 1, 1) := by decide +kernel
theorem dm_X11_fault_6 : decode M_X11_fault.1 6 = .ok (.ifCond .ne 10, 3) := by decide +kernel
theorem dm_X11_fault_9 : decode M_X11_fault.1 9 = .ok (.aload_n 0, 1) := by decide +kernel
theorem dm_X11_fault_10 : decode M_X11_fault.1 10 = .ok (.getfield 273, 3) := by decide +kernel
theorem dm_X11_fault_13 : decode M_X11_fault.1 13 = .ok (.goto 16, 3) := by decide +kernel
theorem dm_X11_fault_16 : decode M_X11_fault.1 16 = .ok (.iload_n 1, 1) := by decide +kernel
theorem dm_X11_fault_17 : decode M_X11_fault.1 17 = .ok (.iconst 1, 1) := by decide +kernel
theorem dm_X11_fault_18 : decode M_X11_fault.1 18 = .ok (.if_icmp .ne 10, 3) := by decide +kernel
theorem dm_X11_fault_21 : decode M_X11_fault.1 21 = .ok (.aload_n 0, 1) := by decide +kernel
theorem dm_X11_fault_22 : decode M_X11_fault.1 22 = .ok (.getfield 276, 3) := by decide +kernel
theorem dm_X11_fault_25 : decode M_X11_fault.1 25 = .ok (.goto 4, 3) := by decide +kernel
theorem dm_X11_fault_28 : decode M_X11_fault.1 28 = .ok (.iconst 0, 1) := by decide +kernel
theorem dm_X11_fault_29 : decode M_X11_fault.1 29 = .ok (.ireturn, 1) := by decide +kernel
def f_X11_fault (what : Int32) (fault : Int32) (faultLine : Int32) : Int32 × Int32 := (if what = 0 then (fault, (0 : Int32)) else (if what = (1 : Int32) then (faultLine, (0 : Int32)) else ((0 : Int32), (0 : Int32))))
set_option maxRecDepth 20000 in
theorem k_X11_fault {what : Int32} {refusal : Int32} {wheel : Int32} {now : Int32} {length : Int32} {at_ : Int32} {fault : Int32} {faultLine : Int32} {line : Int32} {words : Int32} {labels : Int32} {targets : Int32} {wrong : Int32} {unfit : Int32} {text : Nat → Int32} {code_ : Nat → Int32} {label : Nat → Int64} {labelWord : Nat → Int32} {target : Nat → Int64} {targetWord : Nat → Int32} {targetLine : Nat → Int32} {store : Nat → Int32} {common : Nat → Int32} {low : Nat → Int32} {high : Nat → Int32} {register : Nat → Int32} {address : Nat → Int32} {status : Nat → Int32} {did : Nat → Int32} {ready : Nat → Int32} {timer : Nat → Int32} {trace : Nat → Int32} {r_0 : Int32} {r_1 : Int32} (hres : (r_0, r_1) = f_X11_fault what fault faultLine) : K M_X11_fault yX11_fault [.ref 0, .int what] (w_M refusal wheel now length at_ fault faultLine line words labels targets wrong unfit text code_ label labelWord target targetWord targetLine store common low high register address status did ready timer trace) (some (.int r_0)) (w_M r_1 wheel now length at_ fault faultLine line words labels targets wrong unfit text code_ label labelWord target targetWord targetLine store common low high register address status did ready timer trace) := by
  refine K.of (lv := [(0, .ref 0), (1, .int what)]) (by decide +kernel) rfl rfl rfl ?_
  rw [f_X11_fault] at hres
  refine G.aload_n (pc := 0) dm_X11_fault_0 rfl ?_
  refine G.iconst (pc := 1) (v := (0 : Int32)) dm_X11_fault_1 qi_0 ?_
  refine G.putfield (pc := 2) (ws1 := (w_M (0 : Int32) wheel now length at_ fault faultLine line words labels targets wrong unfit text code_ label labelWord target targetWord targetLine store common low high register address status did ready timer trace)) dm_X11_fault_2 gw_X11_70 rfl (g_fit_i _) rfl rfl ?_
  refine G.iload_n (pc := 5) dm_X11_fault_5 rfl ?_
  refine G.if_ne (pc := 6) (tgt := 16) dm_X11_fault_6 (by decide) (fun c6 => ?_) (fun c6 => ?_)
  · rw [if_neg c6] at hres
    refine G.iload_n (pc := 16) dm_X11_fault_16 rfl ?_
    refine G.iconst (pc := 17) (v := (1 : Int32)) dm_X11_fault_17 qi_1 ?_
    refine G.icmp_ne (pc := 18) (tgt := 28) dm_X11_fault_18 (by decide) (fun c18 => ?_) (fun c18 => ?_)
    · rw [if_neg c18] at hres
      refine G.iconst (pc := 28) (v := (0 : Int32)) dm_X11_fault_28 qi_0 ?_
      cases hres
      exact G.ireturn (pc := 29) dm_X11_fault_29 rfl rfl rfl
    · rw [if_pos c18] at hres
      refine G.aload_n (pc := 21) dm_X11_fault_21 rfl ?_
      refine G.getfield (pc := 22) dm_X11_fault_22 gf_X11_276 rfl rfl ?_
      refine G.goto (pc := 25) (tgt := 29) dm_X11_fault_25 (by decide) ?_
      cases hres
      exact G.ireturn (pc := 29) dm_X11_fault_29 rfl rfl rfl
  · rw [if_pos c6] at hres
    refine G.aload_n (pc := 9) dm_X11_fault_9 rfl ?_
    refine G.getfield (pc := 10) dm_X11_fault_10 gf_X11_273 rfl rfl ?_
    refine G.goto (pc := 13) (tgt := 29) dm_X11_fault_13 (by decide) ?_
    cases hres
    exact G.ireturn (pc := 29) dm_X11_fault_29 rfl rfl rfl
abbrev M_X11_now : g_M := (cX11_now, 1, RX11, (some .int), { frames := 0, cells := 0, slots := 0, locals := 0 }, 0, 0)
theorem dm_X11_now_0 : decode M_X11_now.1 0 = .ok (.aload_n 0, 1) := by decide +kernel
theorem dm_X11_now_1 : decode M_X11_now.1 1 = .ok (.iconst 0, 1) := by decide +kernel
theorem dm_X11_now_2 : decode M_X11_now.1 2 = .ok (.putfield 70, 3) := by decide +kernel
theorem dm_X11_now_5 : decode M_X11_now.1 5 = .ok (.aload_n 0, 1) := by decide +kernel
theorem dm_X11_now_6 : decode M_X11_now.1 6 = .ok (.getfield 291, 3) := by decide +kernel
theorem dm_X11_now_9 : decode M_X11_now.1 9 = .ok (.ireturn, 1) := by decide +kernel
def f_X11_now (now : Int32) : Int32 × Int32 := (now, (0 : Int32))
set_option maxRecDepth 20000 in
theorem k_X11_now {refusal : Int32} {wheel : Int32} {now : Int32} {length : Int32} {at_ : Int32} {fault : Int32} {faultLine : Int32} {line : Int32} {words : Int32} {labels : Int32} {targets : Int32} {wrong : Int32} {unfit : Int32} {text : Nat → Int32} {code_ : Nat → Int32} {label : Nat → Int64} {labelWord : Nat → Int32} {target : Nat → Int64} {targetWord : Nat → Int32} {targetLine : Nat → Int32} {store : Nat → Int32} {common : Nat → Int32} {low : Nat → Int32} {high : Nat → Int32} {register : Nat → Int32} {address : Nat → Int32} {status : Nat → Int32} {did : Nat → Int32} {ready : Nat → Int32} {timer : Nat → Int32} {trace : Nat → Int32} {r_0 : Int32} {r_1 : Int32} (hres : (r_0, r_1) = f_X11_now now) : K M_X11_now yX11_now [.ref 0] (w_M refusal wheel now length at_ fault faultLine line words labels targets wrong unfit text code_ label labelWord target targetWord targetLine store common low high register address status did ready timer trace) (some (.int r_0)) (w_M r_1 wheel now length at_ fault faultLine line words labels targets wrong unfit text code_ label labelWord target targetWord targetLine store common low high register address status did ready timer trace) := by
  refine K.of (lv := [(0, .ref 0)]) (by decide +kernel) rfl rfl rfl ?_
  rw [f_X11_now] at hres
  refine G.aload_n (pc := 0) dm_X11_now_0 rfl ?_
  refine G.iconst (pc := 1) (v := (0 : Int32)) dm_X11_now_1 qi_0 ?_
  refine G.putfield (pc := 2) (ws1 := (w_M (0 : Int32) wheel now length at_ fault faultLine line words labels targets wrong unfit text code_ label labelWord target targetWord targetLine store common low high register address status did ready timer trace)) dm_X11_now_2 gw_X11_70 rfl (g_fit_i _) rfl rfl ?_
  refine G.aload_n (pc := 5) dm_X11_now_5 rfl ?_
  refine G.getfield (pc := 6) dm_X11_now_6 gf_X11_291 rfl rfl ?_
  cases hres
  exact G.ireturn (pc := 9) dm_X11_now_9 rfl rfl rfl
abbrev M_X11_peek : g_M := (cX11_peek, 3, RX11, (some .int), { frames := 0, cells := 0, slots := 0, locals := 0 }, 0, 0)
theorem dm_X11_peek_0 : decode M_X11_peek.1 0 = .ok (.aload_n 0, 1) := by decide +kernel
theorem dm_X11_peek_1 : decode M_X11_peek.1 1 = .ok (.iconst 0, 1) := by decide +kernel
theorem dm_X11_peek_2 : decode M_X11_peek.1 2 = .ok (.putfield 70, 3) := by decide +kernel
theorem dm_X11_peek_5 : decode M_X11_peek.1 5 = .ok (.iload_n 1, 1) := by decide +kernel
theorem dm_X11_peek_6 : decode M_X11_peek.1 6 = .ok (.ifCond .lt 19, 3) := by decide +kernel
theorem dm_X11_peek_9 : decode M_X11_peek.1 9 = .ok (.iload_n 1, 1) := by decide +kernel
theorem dm_X11_peek_10 : decode M_X11_peek.1 10 = .ok (.iconst 3, 1) := by decide +kernel
theorem dm_X11_peek_11 : decode M_X11_peek.1 11 = .ok (.if_icmp .gt 14, 3) := by decide +kernel
theorem dm_X11_peek_14 : decode M_X11_peek.1 14 = .ok (.iload_n 2, 1) := by decide +kernel
theorem dm_X11_peek_15 : decode M_X11_peek.1 15 = .ok (.ifCond .lt 10, 3) := by decide +kernel
theorem dm_X11_peek_18 : decode M_X11_peek.1 18 = .ok (.iload_n 2, 1) := by decide +kernel
theorem dm_X11_peek_19 : decode M_X11_peek.1 19 = .ok (.sipush 128, 3) := by decide +kernel
theorem dm_X11_peek_22 : decode M_X11_peek.1 22 = .ok (.if_icmp .lt 7, 3) := by decide +kernel
theorem dm_X11_peek_25 : decode M_X11_peek.1 25 = .ok (.iconst 0, 1) := by decide +kernel
theorem dm_X11_peek_26 : decode M_X11_peek.1 26 = .ok (.goto 15, 3) := by decide +kernel
theorem dm_X11_peek_29 : decode M_X11_peek.1 29 = .ok (.aload_n 0, 1) := by decide +kernel
theorem dm_X11_peek_30 : decode M_X11_peek.1 30 = .ok (.getfield 33, 3) := by decide +kernel
theorem dm_X11_peek_33 : decode M_X11_peek.1 33 = .ok (.sipush 128, 3) := by decide +kernel
theorem dm_X11_peek_36 : decode M_X11_peek.1 36 = .ok (.iload_n 1, 1) := by decide +kernel
theorem dm_X11_peek_37 : decode M_X11_peek.1 37 = .ok (.imul, 1) := by decide +kernel
theorem dm_X11_peek_38 : decode M_X11_peek.1 38 = .ok (.iload_n 2, 1) := by decide +kernel
theorem dm_X11_peek_39 : decode M_X11_peek.1 39 = .ok (.iadd, 1) := by decide +kernel
theorem dm_X11_peek_40 : decode M_X11_peek.1 40 = .ok (.iaload, 1) := by decide +kernel
theorem dm_X11_peek_41 : decode M_X11_peek.1 41 = .ok (.ireturn, 1) := by decide +kernel
def f_X11_peek (t : Int32) (w : Int32) (store : Nat → Int32) : Int32 × Int32 := (if t < 0 then ((0 : Int32), (0 : Int32)) else (if (3 : Int32) < t then ((0 : Int32), (0 : Int32)) else (if w < 0 then ((0 : Int32), (0 : Int32)) else (if w < (128 : Int32) then ((store (Int32.toNatClampNeg (((128 : Int32) * t) + w))), (0 : Int32)) else ((0 : Int32), (0 : Int32))))))
set_option maxRecDepth 20000 in
theorem k_X11_peek {t : Int32} {w : Int32} {refusal : Int32} {wheel : Int32} {now : Int32} {length : Int32} {at_ : Int32} {fault : Int32} {faultLine : Int32} {line : Int32} {words : Int32} {labels : Int32} {targets : Int32} {wrong : Int32} {unfit : Int32} {text : Nat → Int32} {code_ : Nat → Int32} {label : Nat → Int64} {labelWord : Nat → Int32} {target : Nat → Int64} {targetWord : Nat → Int32} {targetLine : Nat → Int32} {store : Nat → Int32} {common : Nat → Int32} {low : Nat → Int32} {high : Nat → Int32} {register : Nat → Int32} {address : Nat → Int32} {status : Nat → Int32} {did : Nat → Int32} {ready : Nat → Int32} {timer : Nat → Int32} {trace : Nat → Int32} {r_0 : Int32} {r_1 : Int32} (hres : (r_0, r_1) = f_X11_peek t w store) : K M_X11_peek yX11_peek [.ref 0, .int t, .int w] (w_M refusal wheel now length at_ fault faultLine line words labels targets wrong unfit text code_ label labelWord target targetWord targetLine store common low high register address status did ready timer trace) (some (.int r_0)) (w_M r_1 wheel now length at_ fault faultLine line words labels targets wrong unfit text code_ label labelWord target targetWord targetLine store common low high register address status did ready timer trace) := by
  refine K.of (lv := [(0, .ref 0), (1, .int t), (2, .int w)]) (by decide +kernel) rfl rfl rfl ?_
  rw [f_X11_peek] at hres
  refine G.aload_n (pc := 0) dm_X11_peek_0 rfl ?_
  refine G.iconst (pc := 1) (v := (0 : Int32)) dm_X11_peek_1 qi_0 ?_
  refine G.putfield (pc := 2) (ws1 := (w_M (0 : Int32) wheel now length at_ fault faultLine line words labels targets wrong unfit text code_ label labelWord target targetWord targetLine store common low high register address status did ready timer trace)) dm_X11_peek_2 gw_X11_70 rfl (g_fit_i _) rfl rfl ?_
  refine G.iload_n (pc := 5) dm_X11_peek_5 rfl ?_
  refine G.if_lt (pc := 6) (tgt := 25) dm_X11_peek_6 (by decide) (fun c6 => ?_) (fun c6 => ?_)
  · rw [if_pos c6] at hres
    refine G.iconst (pc := 25) (v := (0 : Int32)) dm_X11_peek_25 qi_0 ?_
    refine G.goto (pc := 26) (tgt := 41) dm_X11_peek_26 (by decide) ?_
    cases hres
    exact G.ireturn (pc := 41) dm_X11_peek_41 rfl rfl rfl
  · rw [if_neg c6] at hres
    refine G.iload_n (pc := 9) dm_X11_peek_9 rfl ?_
    refine G.iconst (pc := 10) (v := (3 : Int32)) dm_X11_peek_10 qi_3 ?_
    refine G.icmp_gt (pc := 11) (tgt := 25) dm_X11_peek_11 (by decide) (fun c11 => ?_) (fun c11 => ?_)
    · rw [if_pos c11] at hres
      refine G.iconst (pc := 25) (v := (0 : Int32)) dm_X11_peek_25 qi_0 ?_
      refine G.goto (pc := 26) (tgt := 41) dm_X11_peek_26 (by decide) ?_
      cases hres
      exact G.ireturn (pc := 41) dm_X11_peek_41 rfl rfl rfl
    · rw [if_neg c11] at hres
      refine G.iload_n (pc := 14) dm_X11_peek_14 rfl ?_
      refine G.if_lt (pc := 15) (tgt := 25) dm_X11_peek_15 (by decide) (fun c15 => ?_) (fun c15 => ?_)
      · rw [if_pos c15] at hres
        refine G.iconst (pc := 25) (v := (0 : Int32)) dm_X11_peek_25 qi_0 ?_
        refine G.goto (pc := 26) (tgt := 41) dm_X11_peek_26 (by decide) ?_
        cases hres
        exact G.ireturn (pc := 41) dm_X11_peek_41 rfl rfl rfl
      · rw [if_neg c15] at hres
        refine G.iload_n (pc := 18) dm_X11_peek_18 rfl ?_
        refine G.sipush (pc := 19) (v := (128 : Int32)) dm_X11_peek_19 qs_128 ?_
        refine G.icmp_lt (pc := 22) (tgt := 29) dm_X11_peek_22 (by decide) (fun c22 => ?_) (fun c22 => ?_)
        · rw [if_pos c22] at hres
          refine G.aload_n (pc := 29) dm_X11_peek_29 rfl ?_
          refine G.getfield (pc := 30) dm_X11_peek_30 gf_X11_33 rfl rfl ?_
          refine G.sipush (pc := 33) (v := (128 : Int32)) dm_X11_peek_33 qs_128 ?_
          refine G.iload_n (pc := 36) dm_X11_peek_36 rfl ?_
          refine G.imul (pc := 37) dm_X11_peek_37 ?_
          refine G.iload_n (pc := 38) dm_X11_peek_38 rfl ?_
          refine G.iadd (pc := 39) dm_X11_peek_39 ?_
          refine G.iaload (pc := 40) dm_X11_peek_40 rfl (q_i128 (q_g1 c6 c11 (by decide)) (q_g3 c15 c22 (by decide))) ?_
          cases hres
          exact G.ireturn (pc := 41) dm_X11_peek_41 rfl rfl rfl
        · rw [if_neg c22] at hres
          refine G.iconst (pc := 25) (v := (0 : Int32)) dm_X11_peek_25 qi_0 ?_
          refine G.goto (pc := 26) (tgt := 41) dm_X11_peek_26 (by decide) ?_
          cases hres
          exact G.ireturn (pc := 41) dm_X11_peek_41 rfl rfl rfl
abbrev M_X11_poke : g_M := (cX11_poke, 4, RX11, (some .boolean), { frames := 0, cells := 0, slots := 0, locals := 0 }, 0, 0)
theorem dm_X11_poke_0 : decode M_X11_poke.1 0 = .ok (.aload_n 0, 1) := by decide +kernel
theorem dm_X11_poke_1 : decode M_X11_poke.1 1 = .ok (.iconst 0, 1) := by decide +kernel
theorem dm_X11_poke_2 : decode M_X11_poke.1 2 = .ok (.putfield 70, 3) := by decide +kernel
theorem dm_X11_poke_5 : decode M_X11_poke.1 5 = .ok (.iload_n 1, 1) := by decide +kernel
theorem dm_X11_poke_6 : decode M_X11_poke.1 6 = .ok (.ifCond .lt 19, 3) := by decide +kernel
theorem dm_X11_poke_9 : decode M_X11_poke.1 9 = .ok (.iload_n 1, 1) := by decide +kernel
theorem dm_X11_poke_10 : decode M_X11_poke.1 10 = .ok (.iconst 3, 1) := by decide +kernel
theorem dm_X11_poke_11 : decode M_X11_poke.1 11 = .ok (.if_icmp .gt 14, 3) := by decide +kernel
theorem dm_X11_poke_14 : decode M_X11_poke.1 14 = .ok (.iload_n 2, 1) := by decide +kernel
theorem dm_X11_poke_15 : decode M_X11_poke.1 15 = .ok (.ifCond .lt 10, 3) := by decide +kernel
theorem dm_X11_poke_18 : decode M_X11_poke.1 18 = .ok (.iload_n 2, 1) := by decide +kernel
theorem dm_X11_poke_19 : decode M_X11_poke.1 19 = .ok (.sipush 128, 3) := by decide +kernel
theorem dm_X11_poke_22 : decode M_X11_poke.1 22 = .ok (.if_icmp .lt 5, 3) := by decide +kernel
theorem dm_X11_poke_25 : decode M_X11_poke.1 25 = .ok (.iconst 0, 1) := by decide +kernel
theorem dm_X11_poke_26 : decode M_X11_poke.1 26 = .ok (.ireturn, 1) := by decide +kernel
theorem dm_X11_poke_27 : decode M_X11_poke.1 27 = .ok (.aload_n 0, 1) := by decide +kernel
theorem dm_X11_poke_28 : decode M_X11_poke.1 28 = .ok (.getfield 33, 3) := by decide +kernel
theorem dm_X11_poke_31 : decode M_X11_poke.1 31 = .ok (.sipush 128, 3) := by decide +kernel
theorem dm_X11_poke_34 : decode M_X11_poke.1 34 = .ok (.iload_n 1, 1) := by decide +kernel
theorem dm_X11_poke_35 : decode M_X11_poke.1 35 = .ok (.imul, 1) := by decide +kernel
theorem dm_X11_poke_36 : decode M_X11_poke.1 36 = .ok (.iload_n 2, 1) := by decide +kernel
theorem dm_X11_poke_37 : decode M_X11_poke.1 37 = .ok (.iadd, 1) := by decide +kernel
theorem dm_X11_poke_38 : decode M_X11_poke.1 38 = .ok (.iload_n 3, 1) := by decide +kernel
theorem dm_X11_poke_39 : decode M_X11_poke.1 39 = .ok (.iastore, 1) := by decide +kernel
theorem dm_X11_poke_40 : decode M_X11_poke.1 40 = .ok (.iconst 1, 1) := by decide +kernel
theorem dm_X11_poke_41 : decode M_X11_poke.1 41 = .ok (.ireturn, 1) := by decide +kernel
def f_X11_poke (t : Int32) (w : Int32) (v : Int32) (store : Nat → Int32) : Int32 × Int32 × (Nat → Int32) := (if t < 0 then ((0 : Int32), (0 : Int32), store) else (if (3 : Int32) < t then ((0 : Int32), (0 : Int32), store) else (if w < 0 then ((0 : Int32), (0 : Int32), store) else (if w < (128 : Int32) then ((1 : Int32), (0 : Int32), (upd store (Int32.toNatClampNeg (((128 : Int32) * t) + w)) v)) else ((0 : Int32), (0 : Int32), store)))))
set_option maxRecDepth 20000 in
theorem k_X11_poke {t : Int32} {w : Int32} {v : Int32} {refusal : Int32} {wheel : Int32} {now : Int32} {length : Int32} {at_ : Int32} {fault : Int32} {faultLine : Int32} {line : Int32} {words : Int32} {labels : Int32} {targets : Int32} {wrong : Int32} {unfit : Int32} {text : Nat → Int32} {code_ : Nat → Int32} {label : Nat → Int64} {labelWord : Nat → Int32} {target : Nat → Int64} {targetWord : Nat → Int32} {targetLine : Nat → Int32} {store : Nat → Int32} {common : Nat → Int32} {low : Nat → Int32} {high : Nat → Int32} {register : Nat → Int32} {address : Nat → Int32} {status : Nat → Int32} {did : Nat → Int32} {ready : Nat → Int32} {timer : Nat → Int32} {trace : Nat → Int32} {r_0 : Int32} {r_1 : Int32} {r_2 : (Nat → Int32)} (hres : (r_0, r_1, r_2) = f_X11_poke t w v store) : K M_X11_poke yX11_poke [.ref 0, .int t, .int w, .int v] (w_M refusal wheel now length at_ fault faultLine line words labels targets wrong unfit text code_ label labelWord target targetWord targetLine store common low high register address status did ready timer trace) (some (.int r_0)) (w_M r_1 wheel now length at_ fault faultLine line words labels targets wrong unfit text code_ label labelWord target targetWord targetLine r_2 common low high register address status did ready timer trace) := by
  refine K.of (lv := [(0, .ref 0), (1, .int t), (2, .int w), (3, .int v)]) (by decide +kernel) rfl rfl rfl ?_
  rw [f_X11_poke] at hres
  refine G.aload_n (pc := 0) dm_X11_poke_0 rfl ?_
  refine G.iconst (pc := 1) (v := (0 : Int32)) dm_X11_poke_1 qi_0 ?_
  refine G.putfield (pc := 2) (ws1 := (w_M (0 : Int32) wheel now length at_ fault faultLine line words labels targets wrong unfit text code_ label labelWord target targetWord targetLine store common low high register address status did ready timer trace)) dm_X11_poke_2 gw_X11_70 rfl (g_fit_i _) rfl rfl ?_
  refine G.iload_n (pc := 5) dm_X11_poke_5 rfl ?_
  refine G.if_lt (pc := 6) (tgt := 25) dm_X11_poke_6 (by decide) (fun c6 => ?_) (fun c6 => ?_)
  · rw [if_pos c6] at hres
    refine G.iconst (pc := 25) (v := (0 : Int32)) dm_X11_poke_25 qi_0 ?_
    cases hres
    exact G.zreturn (pc := 26) dm_X11_poke_26 rfl (by decide) rfl rfl
  · rw [if_neg c6] at hres
    refine G.iload_n (pc := 9) dm_X11_poke_9 rfl ?_
    refine G.iconst (pc := 10) (v := (3 : Int32)) dm_X11_poke_10 qi_3 ?_
    refine G.icmp_gt (pc := 11) (tgt := 25) dm_X11_poke_11 (by decide) (fun c11 => ?_) (fun c11 => ?_)
    · rw [if_pos c11] at hres
      refine G.iconst (pc := 25) (v := (0 : Int32)) dm_X11_poke_25 qi_0 ?_
      cases hres
      exact G.zreturn (pc := 26) dm_X11_poke_26 rfl (by decide) rfl rfl
    · rw [if_neg c11] at hres
      refine G.iload_n (pc := 14) dm_X11_poke_14 rfl ?_
      refine G.if_lt (pc := 15) (tgt := 25) dm_X11_poke_15 (by decide) (fun c15 => ?_) (fun c15 => ?_)
      · rw [if_pos c15] at hres
        refine G.iconst (pc := 25) (v := (0 : Int32)) dm_X11_poke_25 qi_0 ?_
        cases hres
        exact G.zreturn (pc := 26) dm_X11_poke_26 rfl (by decide) rfl rfl
      · rw [if_neg c15] at hres
        refine G.iload_n (pc := 18) dm_X11_poke_18 rfl ?_
        refine G.sipush (pc := 19) (v := (128 : Int32)) dm_X11_poke_19 qs_128 ?_
        refine G.icmp_lt (pc := 22) (tgt := 27) dm_X11_poke_22 (by decide) (fun c22 => ?_) (fun c22 => ?_)
        · rw [if_pos c22] at hres
          refine G.aload_n (pc := 27) dm_X11_poke_27 rfl ?_
          refine G.getfield (pc := 28) dm_X11_poke_28 gf_X11_33 rfl rfl ?_
          refine G.sipush (pc := 31) (v := (128 : Int32)) dm_X11_poke_31 qs_128 ?_
          refine G.iload_n (pc := 34) dm_X11_poke_34 rfl ?_
          refine G.imul (pc := 35) dm_X11_poke_35 ?_
          refine G.iload_n (pc := 36) dm_X11_poke_36 rfl ?_
          refine G.iadd (pc := 37) dm_X11_poke_37 ?_
          refine G.iload_n (pc := 38) dm_X11_poke_38 rfl ?_
          refine G.iastore (pc := 39) (ws1 := (w_M (0 : Int32) wheel now length at_ fault faultLine line words labels targets wrong unfit text code_ label labelWord target targetWord targetLine (upd store (Int32.toNatClampNeg (((128 : Int32) * t) + w)) v) common low high register address status did ready timer trace)) dm_X11_poke_39 rfl (q_i128 (q_g1 c6 c11 (by decide)) (q_g3 c15 c22 (by decide))) rfl ?_
          refine G.iconst (pc := 40) (v := (1 : Int32)) dm_X11_poke_40 qi_1 ?_
          cases hres
          exact G.zreturn (pc := 41) dm_X11_poke_41 rfl (by decide) rfl rfl
        · rw [if_neg c22] at hres
          refine G.iconst (pc := 25) (v := (0 : Int32)) dm_X11_poke_25 qi_0 ?_
          cases hres
          exact G.zreturn (pc := 26) dm_X11_poke_26 rfl (by decide) rfl rfl
abbrev M_X11_shared : g_M := (cX11_shared, 2, RX11, (some .int), { frames := 0, cells := 0, slots := 0, locals := 0 }, 0, 0)
theorem dm_X11_shared_0 : decode M_X11_shared.1 0 = .ok (.aload_n 0, 1) := by decide +kernel
theorem dm_X11_shared_1 : decode M_X11_shared.1 1 = .ok (.iconst 0, 1) := by decide +kernel
theorem dm_X11_shared_2 : decode M_X11_shared.1 2 = .ok (.putfield 70, 3) := by decide +kernel
theorem dm_X11_shared_5 : decode M_X11_shared.1 5 = .ok (.iload_n 1, 1) := by decide +kernel
theorem dm_X11_shared_6 : decode M_X11_shared.1 6 = .ok (.ifCond .lt 9, 3) := by decide +kernel
theorem dm_X11_shared_9 : decode M_X11_shared.1 9 = .ok (.iload_n 1, 1) := by decide +kernel
theorem dm_X11_shared_10 : decode M_X11_shared.1 10 = .ok (.bipush 63, 2) := by decide +kernel
theorem dm_X11_shared_12 : decode M_X11_shared.1 12 = .ok (.if_icmp .le 7, 3) := by decide +kernel
theorem dm_X11_shared_15 : decode M_X11_shared.1 15 = .ok (.iconst 0, 1) := by decide +kernel
theorem dm_X11_shared_16 : decode M_X11_shared.1 16 = .ok (.goto 9, 3) := by decide +kernel
theorem dm_X11_shared_19 : decode M_X11_shared.1 19 = .ok (.aload_n 0, 1) := by decide +kernel
theorem dm_X11_shared_20 : decode M_X11_shared.1 20 = .ok (.getfield 36, 3) := by decide +kernel
theorem dm_X11_shared_23 : decode M_X11_shared.1 23 = .ok (.iload_n 1, 1) := by decide +kernel
theorem dm_X11_shared_24 : decode M_X11_shared.1 24 = .ok (.iaload, 1) := by decide +kernel
theorem dm_X11_shared_25 : decode M_X11_shared.1 25 = .ok (.ireturn, 1) := by decide +kernel
def f_X11_shared (w : Int32) (common : Nat → Int32) : Int32 × Int32 := (if w < 0 then ((0 : Int32), (0 : Int32)) else (if w ≤ (63 : Int32) then ((common (Int32.toNatClampNeg w)), (0 : Int32)) else ((0 : Int32), (0 : Int32))))
set_option maxRecDepth 20000 in
theorem k_X11_shared {w : Int32} {refusal : Int32} {wheel : Int32} {now : Int32} {length : Int32} {at_ : Int32} {fault : Int32} {faultLine : Int32} {line : Int32} {words : Int32} {labels : Int32} {targets : Int32} {wrong : Int32} {unfit : Int32} {text : Nat → Int32} {code_ : Nat → Int32} {label : Nat → Int64} {labelWord : Nat → Int32} {target : Nat → Int64} {targetWord : Nat → Int32} {targetLine : Nat → Int32} {store : Nat → Int32} {common : Nat → Int32} {low : Nat → Int32} {high : Nat → Int32} {register : Nat → Int32} {address : Nat → Int32} {status : Nat → Int32} {did : Nat → Int32} {ready : Nat → Int32} {timer : Nat → Int32} {trace : Nat → Int32} {r_0 : Int32} {r_1 : Int32} (hres : (r_0, r_1) = f_X11_shared w common) : K M_X11_shared yX11_shared [.ref 0, .int w] (w_M refusal wheel now length at_ fault faultLine line words labels targets wrong unfit text code_ label labelWord target targetWord targetLine store common low high register address status did ready timer trace) (some (.int r_0)) (w_M r_1 wheel now length at_ fault faultLine line words labels targets wrong unfit text code_ label labelWord target targetWord targetLine store common low high register address status did ready timer trace) := by
  refine K.of (lv := [(0, .ref 0), (1, .int w)]) (by decide +kernel) rfl rfl rfl ?_
  rw [f_X11_shared] at hres
  refine G.aload_n (pc := 0) dm_X11_shared_0 rfl ?_
  refine G.iconst (pc := 1) (v := (0 : Int32)) dm_X11_shared_1 qi_0 ?_
  refine G.putfield (pc := 2) (ws1 := (w_M (0 : Int32) wheel now length at_ fault faultLine line words labels targets wrong unfit text code_ label labelWord target targetWord targetLine store common low high register address status did ready timer trace)) dm_X11_shared_2 gw_X11_70 rfl (g_fit_i _) rfl rfl ?_
  refine G.iload_n (pc := 5) dm_X11_shared_5 rfl ?_
  refine G.if_lt (pc := 6) (tgt := 15) dm_X11_shared_6 (by decide) (fun c6 => ?_) (fun c6 => ?_)
  · rw [if_pos c6] at hres
    refine G.iconst (pc := 15) (v := (0 : Int32)) dm_X11_shared_15 qi_0 ?_
    refine G.goto (pc := 16) (tgt := 25) dm_X11_shared_16 (by decide) ?_
    cases hres
    exact G.ireturn (pc := 25) dm_X11_shared_25 rfl rfl rfl
  · rw [if_neg c6] at hres
    refine G.iload_n (pc := 9) dm_X11_shared_9 rfl ?_
    refine G.bipush (pc := 10) (v := (63 : Int32)) dm_X11_shared_10 qb_63 ?_
    refine G.icmp_le (pc := 12) (tgt := 19) dm_X11_shared_12 (by decide) (fun c12 => ?_) (fun c12 => ?_)
    · rw [if_pos c12] at hres
      refine G.aload_n (pc := 19) dm_X11_shared_19 rfl ?_
      refine G.getfield (pc := 20) dm_X11_shared_20 gf_X11_36 rfl rfl ?_
      refine G.iload_n (pc := 23) dm_X11_shared_23 rfl ?_
      refine G.iaload (pc := 24) dm_X11_shared_24 rfl (by have h := q_g2 (n := 64) c6 c12 (by decide); exact q_in h.1 h.2) ?_
      cases hres
      exact G.ireturn (pc := 25) dm_X11_shared_25 rfl rfl rfl
    · rw [if_neg c12] at hres
      refine G.iconst (pc := 15) (v := (0 : Int32)) dm_X11_shared_15 qi_0 ?_
      refine G.goto (pc := 16) (tgt := 25) dm_X11_shared_16 (by decide) ?_
      cases hres
      exact G.ireturn (pc := 25) dm_X11_shared_25 rfl rfl rfl
abbrev M_X11_part : g_M := (cX11_part, 4, RX11, (some .boolean), { frames := 0, cells := 0, slots := 0, locals := 0 }, 0, 0)
theorem dm_X11_part_0 : decode M_X11_part.1 0 = .ok (.aload_n 0, 1) := by decide +kernel
theorem dm_X11_part_1 : decode M_X11_part.1 1 = .ok (.iconst 0, 1) := by decide +kernel
theorem dm_X11_part_2 : decode M_X11_part.1 2 = .ok (.putfield 70, 3) := by decide +kernel
theorem dm_X11_part_5 : decode M_X11_part.1 5 = .ok (.iload_n 1, 1) := by decide +kernel
theorem dm_X11_part_6 : decode M_X11_part.1 6 = .ok (.ifCond .lt 23, 3) := by decide +kernel
theorem dm_X11_part_9 : decode M_X11_part.1 9 = .ok (.iload_n 1, 1) := by decide +kernel
theorem dm_X11_part_10 : decode M_X11_part.1 10 = .ok (.iconst 3, 1) := by decide +kernel
theorem dm_X11_part_11 : decode M_X11_part.1 11 = .ok (.if_icmp .gt 18, 3) := by decide +kernel
theorem dm_X11_part_14 : decode M_X11_part.1 14 = .ok (.iload_n 2, 1) := by decide +kernel
theorem dm_X11_part_15 : decode M_X11_part.1 15 = .ok (.ifCond .lt 14, 3) := by decide +kernel
theorem dm_X11_part_18 : decode M_X11_part.1 18 = .ok (.iload_n 2, 1) := by decide +kernel
theorem dm_X11_part_19 : decode M_X11_part.1 19 = .ok (.iload_n 3, 1) := by decide +kernel
theorem dm_X11_part_20 : decode M_X11_part.1 20 = .ok (.if_icmp .gt 9, 3) := by decide +kernel
theorem dm_X11_part_23 : decode M_X11_part.1 23 = .ok (.iload_n 3, 1) := by decide +kernel
theorem dm_X11_part_24 : decode M_X11_part.1 24 = .ok (.bipush 64, 2) := by decide +kernel
theorem dm_X11_part_26 : decode M_X11_part.1 26 = .ok (.if_icmp .le 5, 3) := by decide +kernel
theorem dm_X11_part_29 : decode M_X11_part.1 29 = .ok (.iconst 0, 1) := by decide +kernel
theorem dm_X11_part_30 : decode M_X11_part.1 30 = .ok (.ireturn, 1) := by decide +kernel
theorem dm_X11_part_31 : decode M_X11_part.1 31 = .ok (.aload_n 0, 1) := by decide +kernel
theorem dm_X11_part_32 : decode M_X11_part.1 32 = .ok (.getfield 39, 3) := by decide +kernel
theorem dm_X11_part_35 : decode M_X11_part.1 35 = .ok (.iload_n 1, 1) := by decide +kernel
theorem dm_X11_part_36 : decode M_X11_part.1 36 = .ok (.iload_n 2, 1) := by decide +kernel
theorem dm_X11_part_37 : decode M_X11_part.1 37 = .ok (.iastore, 1) := by decide +kernel
theorem dm_X11_part_38 : decode M_X11_part.1 38 = .ok (.aload_n 0, 1) := by decide +kernel
theorem dm_X11_part_39 : decode M_X11_part.1 39 = .ok (.getfield 42, 3) := by decide +kernel
theorem dm_X11_part_42 : decode M_X11_part.1 42 = .ok (.iload_n 1, 1) := by decide +kernel
theorem dm_X11_part_43 : decode M_X11_part.1 43 = .ok (.iload_n 3, 1) := by decide +kernel
theorem dm_X11_part_44 : decode M_X11_part.1 44 = .ok (.iastore, 1) := by decide +kernel
theorem dm_X11_part_45 : decode M_X11_part.1 45 = .ok (.iconst 1, 1) := by decide +kernel
theorem dm_X11_part_46 : decode M_X11_part.1 46 = .ok (.ireturn, 1) := by decide +kernel
def f_X11_part (t : Int32) (from_ : Int32) (to_ : Int32) (low : Nat → Int32) (high : Nat → Int32) : Int32 × Int32 × (Nat → Int32) × (Nat → Int32) := (if t < 0 then ((0 : Int32), (0 : Int32), low, high) else (if (3 : Int32) < t then ((0 : Int32), (0 : Int32), low, high) else (if from_ < 0 then ((0 : Int32), (0 : Int32), low, high) else (if to_ < from_ then ((0 : Int32), (0 : Int32), low, high) else (if to_ ≤ (64 : Int32) then ((1 : Int32), (0 : Int32), (upd low (Int32.toNatClampNeg t) from_), (upd high (Int32.toNatClampNeg t) to_)) else ((0 : Int32), (0 : Int32), low, high))))))
set_option maxRecDepth 20000 in
theorem k_X11_part {t : Int32} {from_ : Int32} {to_ : Int32} {refusal : Int32} {wheel : Int32} {now : Int32} {length : Int32} {at_ : Int32} {fault : Int32} {faultLine : Int32} {line : Int32} {words : Int32} {labels : Int32} {targets : Int32} {wrong : Int32} {unfit : Int32} {text : Nat → Int32} {code_ : Nat → Int32} {label : Nat → Int64} {labelWord : Nat → Int32} {target : Nat → Int64} {targetWord : Nat → Int32} {targetLine : Nat → Int32} {store : Nat → Int32} {common : Nat → Int32} {low : Nat → Int32} {high : Nat → Int32} {register : Nat → Int32} {address : Nat → Int32} {status : Nat → Int32} {did : Nat → Int32} {ready : Nat → Int32} {timer : Nat → Int32} {trace : Nat → Int32} {r_0 : Int32} {r_1 : Int32} {r_2 : (Nat → Int32)} {r_3 : (Nat → Int32)} (hres : (r_0, r_1, r_2, r_3) = f_X11_part t from_ to_ low high) : K M_X11_part yX11_part [.ref 0, .int t, .int from_, .int to_] (w_M refusal wheel now length at_ fault faultLine line words labels targets wrong unfit text code_ label labelWord target targetWord targetLine store common low high register address status did ready timer trace) (some (.int r_0)) (w_M r_1 wheel now length at_ fault faultLine line words labels targets wrong unfit text code_ label labelWord target targetWord targetLine store common r_2 r_3 register address status did ready timer trace) := by
  refine K.of (lv := [(0, .ref 0), (1, .int t), (2, .int from_), (3, .int to_)]) (by decide +kernel) rfl rfl rfl ?_
  rw [f_X11_part] at hres
  refine G.aload_n (pc := 0) dm_X11_part_0 rfl ?_
  refine G.iconst (pc := 1) (v := (0 : Int32)) dm_X11_part_1 qi_0 ?_
  refine G.putfield (pc := 2) (ws1 := (w_M (0 : Int32) wheel now length at_ fault faultLine line words labels targets wrong unfit text code_ label labelWord target targetWord targetLine store common low high register address status did ready timer trace)) dm_X11_part_2 gw_X11_70 rfl (g_fit_i _) rfl rfl ?_
  refine G.iload_n (pc := 5) dm_X11_part_5 rfl ?_
  refine G.if_lt (pc := 6) (tgt := 29) dm_X11_part_6 (by decide) (fun c6 => ?_) (fun c6 => ?_)
  · rw [if_pos c6] at hres
    refine G.iconst (pc := 29) (v := (0 : Int32)) dm_X11_part_29 qi_0 ?_
    cases hres
    exact G.zreturn (pc := 30) dm_X11_part_30 rfl (by decide) rfl rfl
  · rw [if_neg c6] at hres
    refine G.iload_n (pc := 9) dm_X11_part_9 rfl ?_
    refine G.iconst (pc := 10) (v := (3 : Int32)) dm_X11_part_10 qi_3 ?_
    refine G.icmp_gt (pc := 11) (tgt := 29) dm_X11_part_11 (by decide) (fun c11 => ?_) (fun c11 => ?_)
    · rw [if_pos c11] at hres
      refine G.iconst (pc := 29) (v := (0 : Int32)) dm_X11_part_29 qi_0 ?_
      cases hres
      exact G.zreturn (pc := 30) dm_X11_part_30 rfl (by decide) rfl rfl
    · rw [if_neg c11] at hres
      refine G.iload_n (pc := 14) dm_X11_part_14 rfl ?_
      refine G.if_lt (pc := 15) (tgt := 29) dm_X11_part_15 (by decide) (fun c15 => ?_) (fun c15 => ?_)
      · rw [if_pos c15] at hres
        refine G.iconst (pc := 29) (v := (0 : Int32)) dm_X11_part_29 qi_0 ?_
        cases hres
        exact G.zreturn (pc := 30) dm_X11_part_30 rfl (by decide) rfl rfl
      · rw [if_neg c15] at hres
        refine G.iload_n (pc := 18) dm_X11_part_18 rfl ?_
        refine G.iload_n (pc := 19) dm_X11_part_19 rfl ?_
        refine G.icmp_gt (pc := 20) (tgt := 29) dm_X11_part_20 (by decide) (fun c20 => ?_) (fun c20 => ?_)
        · rw [if_pos c20] at hres
          refine G.iconst (pc := 29) (v := (0 : Int32)) dm_X11_part_29 qi_0 ?_
          cases hres
          exact G.zreturn (pc := 30) dm_X11_part_30 rfl (by decide) rfl rfl
        · rw [if_neg c20] at hres
          refine G.iload_n (pc := 23) dm_X11_part_23 rfl ?_
          refine G.bipush (pc := 24) (v := (64 : Int32)) dm_X11_part_24 qb_64 ?_
          refine G.icmp_le (pc := 26) (tgt := 31) dm_X11_part_26 (by decide) (fun c26 => ?_) (fun c26 => ?_)
          · rw [if_pos c26] at hres
            refine G.aload_n (pc := 31) dm_X11_part_31 rfl ?_
            refine G.getfield (pc := 32) dm_X11_part_32 gf_X11_39 rfl rfl ?_
            refine G.iload_n (pc := 35) dm_X11_part_35 rfl ?_
            refine G.iload_n (pc := 36) dm_X11_part_36 rfl ?_
            refine G.iastore (pc := 37) (ws1 := (w_M (0 : Int32) wheel now length at_ fault faultLine line words labels targets wrong unfit text code_ label labelWord target targetWord targetLine store common (upd low (Int32.toNatClampNeg t) from_) high register address status did ready timer trace)) dm_X11_part_37 rfl (q_t (q_g1 c6 c11 (by decide))) rfl ?_
            refine G.aload_n (pc := 38) dm_X11_part_38 rfl ?_
            refine G.getfield (pc := 39) dm_X11_part_39 gf_X11_42 rfl rfl ?_
            refine G.iload_n (pc := 42) dm_X11_part_42 rfl ?_
            refine G.iload_n (pc := 43) dm_X11_part_43 rfl ?_
            refine G.iastore (pc := 44) (ws1 := (w_M (0 : Int32) wheel now length at_ fault faultLine line words labels targets wrong unfit text code_ label labelWord target targetWord targetLine store common (upd low (Int32.toNatClampNeg t) from_) (upd high (Int32.toNatClampNeg t) to_) register address status did ready timer trace)) dm_X11_part_44 rfl (q_t (q_g1 c6 c11 (by decide))) rfl ?_
            refine G.iconst (pc := 45) (v := (1 : Int32)) dm_X11_part_45 qi_1 ?_
            cases hres
            exact G.zreturn (pc := 46) dm_X11_part_46 rfl (by decide) rfl rfl
          · rw [if_neg c26] at hres
            refine G.iconst (pc := 29) (v := (0 : Int32)) dm_X11_part_29 qi_0 ?_
            cases hres
            exact G.zreturn (pc := 30) dm_X11_part_30 rfl (by decide) rfl rfl
abbrev M_X11_start : g_M := (cX11_start, 3, RX11, (some .boolean), { frames := 0, cells := 0, slots := 0, locals := 0 }, 0, 0)
theorem dm_X11_start_0 : decode M_X11_start.1 0 = .ok (.aload_n 0, 1) := by decide +kernel
theorem dm_X11_start_1 : decode M_X11_start.1 1 = .ok (.iconst 0, 1) := by decide +kernel
theorem dm_X11_start_2 : decode M_X11_start.1 2 = .ok (.putfield 70, 3) := by decide +kernel
theorem dm_X11_start_5 : decode M_X11_start.1 5 = .ok (.iload_n 1, 1) := by decide +kernel
theorem dm_X11_start_6 : decode M_X11_start.1 6 = .ok (.ifCond .lt 8, 3) := by decide +kernel
theorem dm_X11_start_9 : decode M_X11_start.1 9 = .ok (.iload_n 1, 1) := by decide +kernel
theorem dm_X11_start_10 : decode M_X11_start.1 10 = .ok (.iconst 3, 1) := by decide +kernel
theorem dm_X11_start_11 : decode M_X11_start.1 11 = .ok (.if_icmp .le 5, 3) := by decide +kernel
theorem dm_X11_start_14 : decode M_X11_start.1 14 = .ok (.iconst 0, 1) := by decide +kernel
theorem dm_X11_start_15 : decode M_X11_start.1 15 = .ok (.ireturn, 1) := by decide +kernel
theorem dm_X11_start_16 : decode M_X11_start.1 16 = .ok (.aload_n 0, 1) := by decide +kernel
theorem dm_X11_start_17 : decode M_X11_start.1 17 = .ok (.getfield 51, 3) := by decide +kernel
theorem dm_X11_start_20 : decode M_X11_start.1 20 = .ok (.iload_n 1, 1) := by decide +kernel
theorem dm_X11_start_21 : decode M_X11_start.1 21 = .ok (.iconst 1, 1) := by decide +kernel
theorem dm_X11_start_22 : decode M_X11_start.1 22 = .ok (.iastore, 1) := by decide +kernel
theorem dm_X11_start_23 : decode M_X11_start.1 23 = .ok (.aload_n 0, 1) := by decide +kernel
theorem dm_X11_start_24 : decode M_X11_start.1 24 = .ok (.getfield 48, 3) := by decide +kernel
theorem dm_X11_start_27 : decode M_X11_start.1 27 = .ok (.iload_n 1, 1) := by decide +kernel
theorem dm_X11_start_28 : decode M_X11_start.1 28 = .ok (.iload_n 2, 1) := by decide +kernel
theorem dm_X11_start_29 : decode M_X11_start.1 29 = .ok (.iastore, 1) := by decide +kernel
theorem dm_X11_start_30 : decode M_X11_start.1 30 = .ok (.aload_n 0, 1) := by decide +kernel
theorem dm_X11_start_31 : decode M_X11_start.1 31 = .ok (.getfield 57, 3) := by decide +kernel
theorem dm_X11_start_34 : decode M_X11_start.1 34 = .ok (.iload_n 1, 1) := by decide +kernel
theorem dm_X11_start_35 : decode M_X11_start.1 35 = .ok (.aload_n 0, 1) := by decide +kernel
theorem dm_X11_start_36 : decode M_X11_start.1 36 = .ok (.getfield 291, 3) := by decide +kernel
theorem dm_X11_start_39 : decode M_X11_start.1 39 = .ok (.iastore, 1) := by decide +kernel
theorem dm_X11_start_40 : decode M_X11_start.1 40 = .ok (.iconst 1, 1) := by decide +kernel
theorem dm_X11_start_41 : decode M_X11_start.1 41 = .ok (.ireturn, 1) := by decide +kernel
def f_X11_start (t : Int32) (a : Int32) (now : Int32) (address : Nat → Int32) (status : Nat → Int32) (ready : Nat → Int32) : Int32 × Int32 × (Nat → Int32) × (Nat → Int32) × (Nat → Int32) := (if t < 0 then ((0 : Int32), (0 : Int32), address, status, ready) else (if t ≤ (3 : Int32) then ((1 : Int32), (0 : Int32), (upd address (Int32.toNatClampNeg t) a), (upd status (Int32.toNatClampNeg t) (1 : Int32)), (upd ready (Int32.toNatClampNeg t) now)) else ((0 : Int32), (0 : Int32), address, status, ready)))
set_option maxRecDepth 20000 in
theorem k_X11_start {t : Int32} {a : Int32} {refusal : Int32} {wheel : Int32} {now : Int32} {length : Int32} {at_ : Int32} {fault : Int32} {faultLine : Int32} {line : Int32} {words : Int32} {labels : Int32} {targets : Int32} {wrong : Int32} {unfit : Int32} {text : Nat → Int32} {code_ : Nat → Int32} {label : Nat → Int64} {labelWord : Nat → Int32} {target : Nat → Int64} {targetWord : Nat → Int32} {targetLine : Nat → Int32} {store : Nat → Int32} {common : Nat → Int32} {low : Nat → Int32} {high : Nat → Int32} {register : Nat → Int32} {address : Nat → Int32} {status : Nat → Int32} {did : Nat → Int32} {ready : Nat → Int32} {timer : Nat → Int32} {trace : Nat → Int32} {r_0 : Int32} {r_1 : Int32} {r_2 : (Nat → Int32)} {r_3 : (Nat → Int32)} {r_4 : (Nat → Int32)} (hres : (r_0, r_1, r_2, r_3, r_4) = f_X11_start t a now address status ready) : K M_X11_start yX11_start [.ref 0, .int t, .int a] (w_M refusal wheel now length at_ fault faultLine line words labels targets wrong unfit text code_ label labelWord target targetWord targetLine store common low high register address status did ready timer trace) (some (.int r_0)) (w_M r_1 wheel now length at_ fault faultLine line words labels targets wrong unfit text code_ label labelWord target targetWord targetLine store common low high register r_2 r_3 did r_4 timer trace) := by
  refine K.of (lv := [(0, .ref 0), (1, .int t), (2, .int a)]) (by decide +kernel) rfl rfl rfl ?_
  rw [f_X11_start] at hres
  refine G.aload_n (pc := 0) dm_X11_start_0 rfl ?_
  refine G.iconst (pc := 1) (v := (0 : Int32)) dm_X11_start_1 qi_0 ?_
  refine G.putfield (pc := 2) (ws1 := (w_M (0 : Int32) wheel now length at_ fault faultLine line words labels targets wrong unfit text code_ label labelWord target targetWord targetLine store common low high register address status did ready timer trace)) dm_X11_start_2 gw_X11_70 rfl (g_fit_i _) rfl rfl ?_
  refine G.iload_n (pc := 5) dm_X11_start_5 rfl ?_
  refine G.if_lt (pc := 6) (tgt := 14) dm_X11_start_6 (by decide) (fun c6 => ?_) (fun c6 => ?_)
  · rw [if_pos c6] at hres
    refine G.iconst (pc := 14) (v := (0 : Int32)) dm_X11_start_14 qi_0 ?_
    cases hres
    exact G.zreturn (pc := 15) dm_X11_start_15 rfl (by decide) rfl rfl
  · rw [if_neg c6] at hres
    refine G.iload_n (pc := 9) dm_X11_start_9 rfl ?_
    refine G.iconst (pc := 10) (v := (3 : Int32)) dm_X11_start_10 qi_3 ?_
    refine G.icmp_le (pc := 11) (tgt := 16) dm_X11_start_11 (by decide) (fun c11 => ?_) (fun c11 => ?_)
    · rw [if_pos c11] at hres
      refine G.aload_n (pc := 16) dm_X11_start_16 rfl ?_
      refine G.getfield (pc := 17) dm_X11_start_17 gf_X11_51 rfl rfl ?_
      refine G.iload_n (pc := 20) dm_X11_start_20 rfl ?_
      refine G.iconst (pc := 21) (v := (1 : Int32)) dm_X11_start_21 qi_1 ?_
      refine G.iastore (pc := 22) (ws1 := (w_M (0 : Int32) wheel now length at_ fault faultLine line words labels targets wrong unfit text code_ label labelWord target targetWord targetLine store common low high register address (upd status (Int32.toNatClampNeg t) (1 : Int32)) did ready timer trace)) dm_X11_start_22 rfl (q_t (q_g2 c6 c11 (by decide))) rfl ?_
      refine G.aload_n (pc := 23) dm_X11_start_23 rfl ?_
      refine G.getfield (pc := 24) dm_X11_start_24 gf_X11_48 rfl rfl ?_
      refine G.iload_n (pc := 27) dm_X11_start_27 rfl ?_
      refine G.iload_n (pc := 28) dm_X11_start_28 rfl ?_
      refine G.iastore (pc := 29) (ws1 := (w_M (0 : Int32) wheel now length at_ fault faultLine line words labels targets wrong unfit text code_ label labelWord target targetWord targetLine store common low high register (upd address (Int32.toNatClampNeg t) a) (upd status (Int32.toNatClampNeg t) (1 : Int32)) did ready timer trace)) dm_X11_start_29 rfl (q_t (q_g2 c6 c11 (by decide))) rfl ?_
      refine G.aload_n (pc := 30) dm_X11_start_30 rfl ?_
      refine G.getfield (pc := 31) dm_X11_start_31 gf_X11_57 rfl rfl ?_
      refine G.iload_n (pc := 34) dm_X11_start_34 rfl ?_
      refine G.aload_n (pc := 35) dm_X11_start_35 rfl ?_
      refine G.getfield (pc := 36) dm_X11_start_36 gf_X11_291 rfl rfl ?_
      refine G.iastore (pc := 39) (ws1 := (w_M (0 : Int32) wheel now length at_ fault faultLine line words labels targets wrong unfit text code_ label labelWord target targetWord targetLine store common low high register (upd address (Int32.toNatClampNeg t) a) (upd status (Int32.toNatClampNeg t) (1 : Int32)) did (upd ready (Int32.toNatClampNeg t) now) timer trace)) dm_X11_start_39 rfl (q_t (q_g2 c6 c11 (by decide))) rfl ?_
      refine G.iconst (pc := 40) (v := (1 : Int32)) dm_X11_start_40 qi_1 ?_
      cases hres
      exact G.zreturn (pc := 41) dm_X11_start_41 rfl (by decide) rfl rfl
    · rw [if_neg c11] at hres
      refine G.iconst (pc := 14) (v := (0 : Int32)) dm_X11_start_14 qi_0 ?_
      cases hres
      exact G.zreturn (pc := 15) dm_X11_start_15 rfl (by decide) rfl rfl
abbrev M_X11_register : g_M := (cX11_register, 3, RX11, (some .int), { frames := 0, cells := 0, slots := 0, locals := 0 }, 0, 0)
theorem dm_X11_register_0 : decode M_X11_register.1 0 = .ok (.aload_n 0, 1) := by decide +kernel
theorem dm_X11_register_1 : decode M_X11_register.1 1 = .ok (.iconst 0, 1) := by decide +kernel
theorem dm_X11_register_2 : decode M_X11_register.1 2 = .ok (.putfield 70, 3) := by decide +kernel
theorem dm_X11_register_5 : decode M_X11_register.1 5 = .ok (.iload_n 1, 1) := by decide +kernel
theorem dm_X11_register_6 : decode M_X11_register.1 6 = .ok (.ifCond .lt 18, 3) := by decide +kernel
theorem dm_X11_register_9 : decode M_X11_register.1 9 = .ok (.iload_n 1, 1) := by decide +kernel
theorem dm_X11_register_10 : decode M_X11_register.1 10 = .ok (.iconst 3, 1) := by decide +kernel
theorem dm_X11_register_11 : decode M_X11_register.1 11 = .ok (.if_icmp .gt 13, 3) := by decide +kernel
theorem dm_X11_register_14 : decode M_X11_register.1 14 = .ok (.iload_n 2, 1) := by decide +kernel
theorem dm_X11_register_15 : decode M_X11_register.1 15 = .ok (.ifCond .lt 9, 3) := by decide +kernel
theorem dm_X11_register_18 : decode M_X11_register.1 18 = .ok (.iload_n 2, 1) := by decide +kernel
theorem dm_X11_register_19 : decode M_X11_register.1 19 = .ok (.bipush 15, 2) := by decide +kernel
theorem dm_X11_register_21 : decode M_X11_register.1 21 = .ok (.if_icmp .le 7, 3) := by decide +kernel
theorem dm_X11_register_24 : decode M_X11_register.1 24 = .ok (.iconst 0, 1) := by decide +kernel
theorem dm_X11_register_25 : decode M_X11_register.1 25 = .ok (.goto 14, 3) := by decide +kernel
theorem dm_X11_register_28 : decode M_X11_register.1 28 = .ok (.aload_n 0, 1) := by decide +kernel
theorem dm_X11_register_29 : decode M_X11_register.1 29 = .ok (.getfield 45, 3) := by decide +kernel
theorem dm_X11_register_32 : decode M_X11_register.1 32 = .ok (.bipush 16, 2) := by decide +kernel
theorem dm_X11_register_34 : decode M_X11_register.1 34 = .ok (.iload_n 1, 1) := by decide +kernel
theorem dm_X11_register_35 : decode M_X11_register.1 35 = .ok (.imul, 1) := by decide +kernel
theorem dm_X11_register_36 : decode M_X11_register.1 36 = .ok (.iload_n 2, 1) := by decide +kernel
theorem dm_X11_register_37 : decode M_X11_register.1 37 = .ok (.iadd, 1) := by decide +kernel
theorem dm_X11_register_38 : decode M_X11_register.1 38 = .ok (.iaload, 1) := by decide +kernel
theorem dm_X11_register_39 : decode M_X11_register.1 39 = .ok (.ireturn, 1) := by decide +kernel
def f_X11_register (t : Int32) (k : Int32) (register : Nat → Int32) : Int32 × Int32 := (if t < 0 then ((0 : Int32), (0 : Int32)) else (if (3 : Int32) < t then ((0 : Int32), (0 : Int32)) else (if k < 0 then ((0 : Int32), (0 : Int32)) else (if k ≤ (15 : Int32) then ((register (Int32.toNatClampNeg (((16 : Int32) * t) + k))), (0 : Int32)) else ((0 : Int32), (0 : Int32))))))
set_option maxRecDepth 20000 in
theorem k_X11_register {t : Int32} {k : Int32} {refusal : Int32} {wheel : Int32} {now : Int32} {length : Int32} {at_ : Int32} {fault : Int32} {faultLine : Int32} {line : Int32} {words : Int32} {labels : Int32} {targets : Int32} {wrong : Int32} {unfit : Int32} {text : Nat → Int32} {code_ : Nat → Int32} {label : Nat → Int64} {labelWord : Nat → Int32} {target : Nat → Int64} {targetWord : Nat → Int32} {targetLine : Nat → Int32} {store : Nat → Int32} {common : Nat → Int32} {low : Nat → Int32} {high : Nat → Int32} {register : Nat → Int32} {address : Nat → Int32} {status : Nat → Int32} {did : Nat → Int32} {ready : Nat → Int32} {timer : Nat → Int32} {trace : Nat → Int32} {r_0 : Int32} {r_1 : Int32} (hres : (r_0, r_1) = f_X11_register t k register) : K M_X11_register yX11_register [.ref 0, .int t, .int k] (w_M refusal wheel now length at_ fault faultLine line words labels targets wrong unfit text code_ label labelWord target targetWord targetLine store common low high register address status did ready timer trace) (some (.int r_0)) (w_M r_1 wheel now length at_ fault faultLine line words labels targets wrong unfit text code_ label labelWord target targetWord targetLine store common low high register address status did ready timer trace) := by
  refine K.of (lv := [(0, .ref 0), (1, .int t), (2, .int k)]) (by decide +kernel) rfl rfl rfl ?_
  rw [f_X11_register] at hres
  refine G.aload_n (pc := 0) dm_X11_register_0 rfl ?_
  refine G.iconst (pc := 1) (v := (0 : Int32)) dm_X11_register_1 qi_0 ?_
  refine G.putfield (pc := 2) (ws1 := (w_M (0 : Int32) wheel now length at_ fault faultLine line words labels targets wrong unfit text code_ label labelWord target targetWord targetLine store common low high register address status did ready timer trace)) dm_X11_register_2 gw_X11_70 rfl (g_fit_i _) rfl rfl ?_
  refine G.iload_n (pc := 5) dm_X11_register_5 rfl ?_
  refine G.if_lt (pc := 6) (tgt := 24) dm_X11_register_6 (by decide) (fun c6 => ?_) (fun c6 => ?_)
  · rw [if_pos c6] at hres
    refine G.iconst (pc := 24) (v := (0 : Int32)) dm_X11_register_24 qi_0 ?_
    refine G.goto (pc := 25) (tgt := 39) dm_X11_register_25 (by decide) ?_
    cases hres
    exact G.ireturn (pc := 39) dm_X11_register_39 rfl rfl rfl
  · rw [if_neg c6] at hres
    refine G.iload_n (pc := 9) dm_X11_register_9 rfl ?_
    refine G.iconst (pc := 10) (v := (3 : Int32)) dm_X11_register_10 qi_3 ?_
    refine G.icmp_gt (pc := 11) (tgt := 24) dm_X11_register_11 (by decide) (fun c11 => ?_) (fun c11 => ?_)
    · rw [if_pos c11] at hres
      refine G.iconst (pc := 24) (v := (0 : Int32)) dm_X11_register_24 qi_0 ?_
      refine G.goto (pc := 25) (tgt := 39) dm_X11_register_25 (by decide) ?_
      cases hres
      exact G.ireturn (pc := 39) dm_X11_register_39 rfl rfl rfl
    · rw [if_neg c11] at hres
      refine G.iload_n (pc := 14) dm_X11_register_14 rfl ?_
      refine G.if_lt (pc := 15) (tgt := 24) dm_X11_register_15 (by decide) (fun c15 => ?_) (fun c15 => ?_)
      · rw [if_pos c15] at hres
        refine G.iconst (pc := 24) (v := (0 : Int32)) dm_X11_register_24 qi_0 ?_
        refine G.goto (pc := 25) (tgt := 39) dm_X11_register_25 (by decide) ?_
        cases hres
        exact G.ireturn (pc := 39) dm_X11_register_39 rfl rfl rfl
      · rw [if_neg c15] at hres
        refine G.iload_n (pc := 18) dm_X11_register_18 rfl ?_
        refine G.bipush (pc := 19) (v := (15 : Int32)) dm_X11_register_19 qb_15 ?_
        refine G.icmp_le (pc := 21) (tgt := 28) dm_X11_register_21 (by decide) (fun c21 => ?_) (fun c21 => ?_)
        · rw [if_pos c21] at hres
          refine G.aload_n (pc := 28) dm_X11_register_28 rfl ?_
          refine G.getfield (pc := 29) dm_X11_register_29 gf_X11_45 rfl rfl ?_
          refine G.bipush (pc := 32) (v := (16 : Int32)) dm_X11_register_32 qb_16 ?_
          refine G.iload_n (pc := 34) dm_X11_register_34 rfl ?_
          refine G.imul (pc := 35) dm_X11_register_35 ?_
          refine G.iload_n (pc := 36) dm_X11_register_36 rfl ?_
          refine G.iadd (pc := 37) dm_X11_register_37 ?_
          refine G.iaload (pc := 38) dm_X11_register_38 rfl (q_i16 (q_g1 c6 c11 (by decide)) (q_g2 c15 c21 (by decide))) ?_
          cases hres
          exact G.ireturn (pc := 39) dm_X11_register_39 rfl rfl rfl
        · rw [if_neg c21] at hres
          refine G.iconst (pc := 24) (v := (0 : Int32)) dm_X11_register_24 qi_0 ?_
          refine G.goto (pc := 25) (tgt := 39) dm_X11_register_25 (by decide) ?_
          cases hres
          exact G.ireturn (pc := 39) dm_X11_register_39 rfl rfl rfl
abbrev M_X11_state : g_M := (cX11_state, 3, RX11, (some .int), { frames := 0, cells := 0, slots := 0, locals := 0 }, 0, 0)
theorem dm_X11_state_0 : decode M_X11_state.1 0 = .ok (.aload_n 0, 1) := by decide +kernel
theorem dm_X11_state_1 : decode M_X11_state.1 1 = .ok (.iconst 0, 1) := by decide +kernel
theorem dm_X11_state_2 : decode M_X11_state.1 2 = .ok (.putfield 70, 3) := by decide +kernel
theorem dm_X11_state_5 : decode M_X11_state.1 5 = .ok (.iload_n 1, 1) := by decide +kernel
theorem dm_X11_state_6 : decode M_X11_state.1 6 = .ok (.ifCond .lt 8, 3) := by decide +kernel
theorem dm_X11_state_9 : decode M_X11_state.1 9 = .ok (.iload_n 1, 1) := by decide +kernel
theorem dm_X11_state_10 : decode M_X11_state.1 10 = .ok (.iconst 3, 1) := by decide +kernel
theorem dm_X11_state_11 : decode M_X11_state.1 11 = .ok (.if_icmp .le 5, 3) := by decide +kernel
theorem dm_X11_state_14 : decode M_X11_state.1 14 = .ok (.iconst (-1), 1) := by decide +kernel
theorem dm_X11_state_15 : decode M_X11_state.1 15 = .ok (.ireturn, 1) := by decide +kernel
theorem dm_X11_state_16 : decode M_X11_state.1 16 = .ok (.iload_n 2, 1) := by decide +kernel
theorem dm_X11_state_17 : decode M_X11_state.1 17 = .ok (.iconst 4, 1) := by decide +kernel
theorem dm_X11_state_18 : decode M_X11_state.1 18 = .ok (.if_icmp .lt 22, 3) := by decide +kernel
theorem dm_X11_state_21 : decode M_X11_state.1 21 = .ok (.iload_n 2, 1) := by decide +kernel
theorem dm_X11_state_22 : decode M_X11_state.1 22 = .ok (.bipush 7, 2) := by decide +kernel
theorem dm_X11_state_24 : decode M_X11_state.1 24 = .ok (.if_icmp .gt 16, 3) := by decide +kernel
theorem dm_X11_state_27 : decode M_X11_state.1 27 = .ok (.aload_n 0, 1) := by decide +kernel
theorem dm_X11_state_28 : decode M_X11_state.1 28 = .ok (.getfield 60, 3) := by decide +kernel
theorem dm_X11_state_31 : decode M_X11_state.1 31 = .ok (.iconst 4, 1) := by decide +kernel
theorem dm_X11_state_32 : decode M_X11_state.1 32 = .ok (.iload_n 1, 1) := by decide +kernel
theorem dm_X11_state_33 : decode M_X11_state.1 33 = .ok (.imul, 1) := by decide +kernel
theorem dm_X11_state_34 : decode M_X11_state.1 34 = .ok (.iload_n 2, 1) := by decide +kernel
theorem dm_X11_state_35 : decode M_X11_state.1 35 = .ok (.iadd, 1) := by decide +kernel
theorem dm_X11_state_36 : decode M_X11_state.1 36 = .ok (.iconst 4, 1) := by decide +kernel
theorem dm_X11_state_37 : decode M_X11_state.1 37 = .ok (.isub, 1) := by decide +kernel
theorem dm_X11_state_38 : decode M_X11_state.1 38 = .ok (.iaload, 1) := by decide +kernel
theorem dm_X11_state_39 : decode M_X11_state.1 39 = .ok (.ireturn, 1) := by decide +kernel
theorem dm_X11_state_40 : decode M_X11_state.1 40 = .ok (.iload_n 2, 1) := by decide +kernel
theorem dm_X11_state_41 : decode M_X11_state.1 41 = .ok (.ifCond .ne 12, 3) := by decide +kernel
theorem dm_X11_state_44 : decode M_X11_state.1 44 = .ok (.aload_n 0, 1) := by decide +kernel
theorem dm_X11_state_45 : decode M_X11_state.1 45 = .ok (.getfield 51, 3) := by decide +kernel
theorem dm_X11_state_48 : decode M_X11_state.1 48 = .ok (.iload_n 1, 1) := by decide +kernel
theorem dm_X11_state_49 : decode M_X11_state.1 49 = .ok (.iaload, 1) := by decide +kernel
theorem dm_X11_state_50 : decode M_X11_state.1 50 = .ok (.goto 46, 3) := by decide +kernel
theorem dm_X11_state_53 : decode M_X11_state.1 53 = .ok (.iload_n 2, 1) := by decide +kernel
theorem dm_X11_state_54 : decode M_X11_state.1 54 = .ok (.iconst 1, 1) := by decide +kernel
theorem dm_X11_state_55 : decode M_X11_state.1 55 = .ok (.if_icmp .ne 12, 3) := by decide +kernel
theorem dm_X11_state_58 : decode M_X11_state.1 58 = .ok (.aload_n 0, 1) := by decide +kernel
theorem dm_X11_state_59 : decode M_X11_state.1 59 = .ok (.getfield 48, 3) := by decide +kernel
theorem dm_X11_state_62 : decode M_X11_state.1 62 = .ok (.iload_n 1, 1) := by decide +kernel
theorem dm_X11_state_63 : decode M_X11_state.1 63 = .ok (.iaload, 1) := by decide +kernel
theorem dm_X11_state_64 : decode M_X11_state.1 64 = .ok (.goto 32, 3) := by decide +kernel
theorem dm_X11_state_67 : decode M_X11_state.1 67 = .ok (.iload_n 2, 1) := by decide +kernel
theorem dm_X11_state_68 : decode M_X11_state.1 68 = .ok (.iconst 2, 1) := by decide +kernel
theorem dm_X11_state_69 : decode M_X11_state.1 69 = .ok (.if_icmp .ne 12, 3) := by decide +kernel
theorem dm_X11_state_72 : decode M_X11_state.1 72 = .ok (.aload_n 0, 1) := by decide +kernel
theorem dm_X11_state_73 : decode M_X11_state.1 73 = .ok (.getfield 54, 3) := by decide +kernel
theorem dm_X11_state_76 : decode M_X11_state.1 76 = .ok (.iload_n 1, 1) := by decide +kernel
theorem dm_X11_state_77 : decode M_X11_state.1 77 = .ok (.iaload, 1) := by decide +kernel
theorem dm_X11_state_78 : decode M_X11_state.1 78 = .ok (.goto 18, 3) := by decide +kernel
theorem dm_X11_state_81 : decode M_X11_state.1 81 = .ok (.iload_n 2, 1) := by decide +kernel
theorem dm_X11_state_82 : decode M_X11_state.1 82 = .ok (.iconst 3, 1) := by decide +kernel
theorem dm_X11_state_83 : decode M_X11_state.1 83 = .ok (.if_icmp .ne 12, 3) := by decide +kernel
theorem dm_X11_state_86 : decode M_X11_state.1 86 = .ok (.aload_n 0, 1) := by decide +kernel
theorem dm_X11_state_87 : decode M_X11_state.1 87 = .ok (.getfield 57, 3) := by decide +kernel
theorem dm_X11_state_90 : decode M_X11_state.1 90 = .ok (.iload_n 1, 1) := by decide +kernel
theorem dm_X11_state_91 : decode M_X11_state.1 91 = .ok (.iaload, 1) := by decide +kernel
theorem dm_X11_state_92 : decode M_X11_state.1 92 = .ok (.goto 4, 3) := by decide +kernel
theorem dm_X11_state_95 : decode M_X11_state.1 95 = .ok (.iconst (-1), 1) := by decide +kernel
theorem dm_X11_state_96 : decode M_X11_state.1 96 = .ok (.ireturn, 1) := by decide +kernel
def f_X11_state_40 (refusal : Int32) (address : Nat → Int32) (status : Nat → Int32) (did : Nat → Int32) (ready : Nat → Int32) (l1 : Int32) (l2 : Int32) : Int32 × Int32 := (if l2 = 0 then ((status (Int32.toNatClampNeg l1)), refusal) else (if l2 = (1 : Int32) then ((address (Int32.toNatClampNeg l1)), refusal) else (if l2 = (2 : Int32) then ((did (Int32.toNatClampNeg l1)), refusal) else (if l2 = (3 : Int32) then ((ready (Int32.toNatClampNeg l1)), refusal) else ((-1 : Int32), refusal)))))
set_option maxRecDepth 20000 in
theorem j_X11_state_40 {l1 : Int32} {l2 : Int32} {refusal : Int32} {wheel : Int32} {now : Int32} {length : Int32} {at_ : Int32} {fault : Int32} {faultLine : Int32} {line : Int32} {words : Int32} {labels : Int32} {targets : Int32} {wrong : Int32} {unfit : Int32} {text : Nat → Int32} {code_ : Nat → Int32} {label : Nat → Int64} {labelWord : Nat → Int32} {target : Nat → Int64} {targetWord : Nat → Int32} {targetLine : Nat → Int32} {store : Nat → Int32} {common : Nat → Int32} {low : Nat → Int32} {high : Nat → Int32} {register : Nat → Int32} {address : Nat → Int32} {status : Nat → Int32} {did : Nat → Int32} {ready : Nat → Int32} {timer : Nat → Int32} {trace : Nat → Int32} {r_0 : Int32} {r_1 : Int32} (hres : (r_0, r_1) = (f_X11_state_40 refusal address status did ready l1 l2)) (ht : 0 ≤ l1.toInt ∧ l1.toInt < 4) : G M_X11_state 0 0 40 [(0, .ref 0), (1, .int l1), (2, .int l2)] [] (w_M refusal wheel now length at_ fault faultLine line words labels targets wrong unfit text code_ label labelWord target targetWord targetLine store common low high register address status did ready timer trace) (some (.int r_0)) (w_M r_1 wheel now length at_ fault faultLine line words labels targets wrong unfit text code_ label labelWord target targetWord targetLine store common low high register address status did ready timer trace) := by
  rw [f_X11_state_40] at hres
  refine G.iload_n (pc := 40) dm_X11_state_40 rfl ?_
  refine G.if_ne (pc := 41) (tgt := 53) dm_X11_state_41 (by decide) (fun c41 => ?_) (fun c41 => ?_)
  · rw [if_neg c41] at hres
    refine G.iload_n (pc := 53) dm_X11_state_53 rfl ?_
    refine G.iconst (pc := 54) (v := (1 : Int32)) dm_X11_state_54 qi_1 ?_
    refine G.icmp_ne (pc := 55) (tgt := 67) dm_X11_state_55 (by decide) (fun c55 => ?_) (fun c55 => ?_)
    · rw [if_neg c55] at hres
      refine G.iload_n (pc := 67) dm_X11_state_67 rfl ?_
      refine G.iconst (pc := 68) (v := (2 : Int32)) dm_X11_state_68 qi_2 ?_
      refine G.icmp_ne (pc := 69) (tgt := 81) dm_X11_state_69 (by decide) (fun c69 => ?_) (fun c69 => ?_)
      · rw [if_neg c69] at hres
        refine G.iload_n (pc := 81) dm_X11_state_81 rfl ?_
        refine G.iconst (pc := 82) (v := (3 : Int32)) dm_X11_state_82 qi_3 ?_
        refine G.icmp_ne (pc := 83) (tgt := 95) dm_X11_state_83 (by decide) (fun c83 => ?_) (fun c83 => ?_)
        · rw [if_neg c83] at hres
          refine G.iconst (pc := 95) (v := (-1 : Int32)) dm_X11_state_95 qi_m1 ?_
          cases hres
          exact G.ireturn (pc := 96) dm_X11_state_96 rfl rfl rfl
        · rw [if_pos c83] at hres
          refine G.aload_n (pc := 86) dm_X11_state_86 rfl ?_
          refine G.getfield (pc := 87) dm_X11_state_87 gf_X11_57 rfl rfl ?_
          refine G.iload_n (pc := 90) dm_X11_state_90 rfl ?_
          refine G.iaload (pc := 91) dm_X11_state_91 rfl (q_t ht) ?_
          refine G.goto (pc := 92) (tgt := 96) dm_X11_state_92 (by decide) ?_
          cases hres
          exact G.ireturn (pc := 96) dm_X11_state_96 rfl rfl rfl
      · rw [if_pos c69] at hres
        refine G.aload_n (pc := 72) dm_X11_state_72 rfl ?_
        refine G.getfield (pc := 73) dm_X11_state_73 gf_X11_54 rfl rfl ?_
        refine G.iload_n (pc := 76) dm_X11_state_76 rfl ?_
        refine G.iaload (pc := 77) dm_X11_state_77 rfl (q_t ht) ?_
        refine G.goto (pc := 78) (tgt := 96) dm_X11_state_78 (by decide) ?_
        cases hres
        exact G.ireturn (pc := 96) dm_X11_state_96 rfl rfl rfl
    · rw [if_pos c55] at hres
      refine G.aload_n (pc := 58) dm_X11_state_58 rfl ?_
      refine G.getfield (pc := 59) dm_X11_state_59 gf_X11_48 rfl rfl ?_
      refine G.iload_n (pc := 62) dm_X11_state_62 rfl ?_
      refine G.iaload (pc := 63) dm_X11_state_63 rfl (q_t ht) ?_
      refine G.goto (pc := 64) (tgt := 96) dm_X11_state_64 (by decide) ?_
      cases hres
      exact G.ireturn (pc := 96) dm_X11_state_96 rfl rfl rfl
  · rw [if_pos c41] at hres
    refine G.aload_n (pc := 44) dm_X11_state_44 rfl ?_
    refine G.getfield (pc := 45) dm_X11_state_45 gf_X11_51 rfl rfl ?_
    refine G.iload_n (pc := 48) dm_X11_state_48 rfl ?_
    refine G.iaload (pc := 49) dm_X11_state_49 rfl (q_t ht) ?_
    refine G.goto (pc := 50) (tgt := 96) dm_X11_state_50 (by decide) ?_
    cases hres
    exact G.ireturn (pc := 96) dm_X11_state_96 rfl rfl rfl
def f_X11_state (t : Int32) (what : Int32) (address : Nat → Int32) (status : Nat → Int32) (did : Nat → Int32) (ready : Nat → Int32) (timer : Nat → Int32) : Int32 × Int32 := (if t < 0 then ((-1 : Int32), (0 : Int32)) else (if t ≤ (3 : Int32) then (if what < (4 : Int32) then (f_X11_state_40 (0 : Int32) address status did ready t what) else (if (7 : Int32) < what then (f_X11_state_40 (0 : Int32) address status did ready t what) else ((timer (Int32.toNatClampNeg ((((4 : Int32) * t) + what) - (4 : Int32)))), (0 : Int32)))) else ((-1 : Int32), (0 : Int32))))
set_option maxRecDepth 20000 in
theorem k_X11_state {t : Int32} {what : Int32} {refusal : Int32} {wheel : Int32} {now : Int32} {length : Int32} {at_ : Int32} {fault : Int32} {faultLine : Int32} {line : Int32} {words : Int32} {labels : Int32} {targets : Int32} {wrong : Int32} {unfit : Int32} {text : Nat → Int32} {code_ : Nat → Int32} {label : Nat → Int64} {labelWord : Nat → Int32} {target : Nat → Int64} {targetWord : Nat → Int32} {targetLine : Nat → Int32} {store : Nat → Int32} {common : Nat → Int32} {low : Nat → Int32} {high : Nat → Int32} {register : Nat → Int32} {address : Nat → Int32} {status : Nat → Int32} {did : Nat → Int32} {ready : Nat → Int32} {timer : Nat → Int32} {trace : Nat → Int32} {r_0 : Int32} {r_1 : Int32} (hres : (r_0, r_1) = f_X11_state t what address status did ready timer) : K M_X11_state yX11_state [.ref 0, .int t, .int what] (w_M refusal wheel now length at_ fault faultLine line words labels targets wrong unfit text code_ label labelWord target targetWord targetLine store common low high register address status did ready timer trace) (some (.int r_0)) (w_M r_1 wheel now length at_ fault faultLine line words labels targets wrong unfit text code_ label labelWord target targetWord targetLine store common low high register address status did ready timer trace) := by
  refine K.of (lv := [(0, .ref 0), (1, .int t), (2, .int what)]) (by decide +kernel) rfl rfl rfl ?_
  rw [f_X11_state] at hres
  refine G.aload_n (pc := 0) dm_X11_state_0 rfl ?_
  refine G.iconst (pc := 1) (v := (0 : Int32)) dm_X11_state_1 qi_0 ?_
  refine G.putfield (pc := 2) (ws1 := (w_M (0 : Int32) wheel now length at_ fault faultLine line words labels targets wrong unfit text code_ label labelWord target targetWord targetLine store common low high register address status did ready timer trace)) dm_X11_state_2 gw_X11_70 rfl (g_fit_i _) rfl rfl ?_
  refine G.iload_n (pc := 5) dm_X11_state_5 rfl ?_
  refine G.if_lt (pc := 6) (tgt := 14) dm_X11_state_6 (by decide) (fun c6 => ?_) (fun c6 => ?_)
  · rw [if_pos c6] at hres
    refine G.iconst (pc := 14) (v := (-1 : Int32)) dm_X11_state_14 qi_m1 ?_
    cases hres
    exact G.ireturn (pc := 15) dm_X11_state_15 rfl rfl rfl
  · rw [if_neg c6] at hres
    refine G.iload_n (pc := 9) dm_X11_state_9 rfl ?_
    refine G.iconst (pc := 10) (v := (3 : Int32)) dm_X11_state_10 qi_3 ?_
    refine G.icmp_le (pc := 11) (tgt := 16) dm_X11_state_11 (by decide) (fun c11 => ?_) (fun c11 => ?_)
    · rw [if_pos c11] at hres
      refine G.iload_n (pc := 16) dm_X11_state_16 rfl ?_
      refine G.iconst (pc := 17) (v := (4 : Int32)) dm_X11_state_17 qi_4 ?_
      refine G.icmp_lt (pc := 18) (tgt := 40) dm_X11_state_18 (by decide) (fun c18 => ?_) (fun c18 => ?_)
      · rw [if_pos c18] at hres
        exact j_X11_state_40 hres (q_g2 c6 c11 (by decide))
      · rw [if_neg c18] at hres
        refine G.iload_n (pc := 21) dm_X11_state_21 rfl ?_
        refine G.bipush (pc := 22) (v := (7 : Int32)) dm_X11_state_22 qb_7 ?_
        refine G.icmp_gt (pc := 24) (tgt := 40) dm_X11_state_24 (by decide) (fun c24 => ?_) (fun c24 => ?_)
        · rw [if_pos c24] at hres
          exact j_X11_state_40 hres (q_g2 c6 c11 (by decide))
        · rw [if_neg c24] at hres
          refine G.aload_n (pc := 27) dm_X11_state_27 rfl ?_
          refine G.getfield (pc := 28) dm_X11_state_28 gf_X11_60 rfl rfl ?_
          refine G.iconst (pc := 31) (v := (4 : Int32)) dm_X11_state_31 qi_4 ?_
          refine G.iload_n (pc := 32) dm_X11_state_32 rfl ?_
          refine G.imul (pc := 33) dm_X11_state_33 ?_
          refine G.iload_n (pc := 34) dm_X11_state_34 rfl ?_
          refine G.iadd (pc := 35) dm_X11_state_35 ?_
          refine G.iconst (pc := 36) (v := (4 : Int32)) dm_X11_state_36 qi_4 ?_
          refine G.isub (pc := 37) dm_X11_state_37 ?_
          refine G.iaload (pc := 38) dm_X11_state_38 rfl (q_i4m (q_g2 c6 c11 (by decide)) c18 c24) ?_
          cases hres
          exact G.ireturn (pc := 39) dm_X11_state_39 rfl rfl rfl
    · rw [if_neg c11] at hres
      refine G.iconst (pc := 14) (v := (-1 : Int32)) dm_X11_state_14 qi_m1 ?_
      cases hres
      exact G.ireturn (pc := 15) dm_X11_state_15 rfl rfl rfl
abbrev M_X11_trace : g_M := (cX11_trace, 4, RX11, (some .int), { frames := 0, cells := 0, slots := 0, locals := 0 }, 0, 0)
theorem dm_X11_trace_0 : decode M_X11_trace.1 0 = .ok (.aload_n 0, 1) := by decide +kernel
theorem dm_X11_trace_1 : decode M_X11_trace.1 1 = .ok (.iconst 0, 1) := by decide +kernel
theorem dm_X11_trace_2 : decode M_X11_trace.1 2 = .ok (.putfield 70, 3) := by decide +kernel
theorem dm_X11_trace_5 : decode M_X11_trace.1 5 = .ok (.iload_n 1, 1) := by decide +kernel
theorem dm_X11_trace_6 : decode M_X11_trace.1 6 = .ok (.ifCond .lt 37, 3) := by decide +kernel
theorem dm_X11_trace_9 : decode M_X11_trace.1 9 = .ok (.iload_n 1, 1) := by decide +kernel
theorem dm_X11_trace_10 : decode M_X11_trace.1 10 = .ok (.iconst 3, 1) := by decide +kernel
theorem dm_X11_trace_11 : decode M_X11_trace.1 11 = .ok (.if_icmp .gt 32, 3) := by decide +kernel
theorem dm_X11_trace_14 : decode M_X11_trace.1 14 = .ok (.iload_n 2, 1) := by decide +kernel
theorem dm_X11_trace_15 : decode M_X11_trace.1 15 = .ok (.ifCond .lt 28, 3) := by decide +kernel
theorem dm_X11_trace_18 : decode M_X11_trace.1 18 = .ok (.iload_n 2, 1) := by decide +kernel
theorem dm_X11_trace_19 : decode M_X11_trace.1 19 = .ok (.bipush 15, 2) := by decide +kernel
theorem dm_X11_trace_21 : decode M_X11_trace.1 21 = .ok (.if_icmp .gt 22, 3) := by decide +kernel
theorem dm_X11_trace_24 : decode M_X11_trace.1 24 = .ok (.iload_n 2, 1) := by decide +kernel
theorem dm_X11_trace_25 : decode M_X11_trace.1 25 = .ok (.aload_n 0, 1) := by decide +kernel
theorem dm_X11_trace_26 : decode M_X11_trace.1 26 = .ok (.getfield 54, 3) := by decide +kernel
theorem dm_X11_trace_29 : decode M_X11_trace.1 29 = .ok (.iload_n 1, 1) := by decide +kernel
theorem dm_X11_trace_30 : decode M_X11_trace.1 30 = .ok (.iaload, 1) := by decide +kernel
theorem dm_X11_trace_31 : decode M_X11_trace.1 31 = .ok (.if_icmp .ge 12, 3) := by decide +kernel
theorem dm_X11_trace_34 : decode M_X11_trace.1 34 = .ok (.iload_n 3, 1) := by decide +kernel
theorem dm_X11_trace_35 : decode M_X11_trace.1 35 = .ok (.ifCond .lt 8, 3) := by decide +kernel
theorem dm_X11_trace_38 : decode M_X11_trace.1 38 = .ok (.iload_n 3, 1) := by decide +kernel
theorem dm_X11_trace_39 : decode M_X11_trace.1 39 = .ok (.iconst 2, 1) := by decide +kernel
theorem dm_X11_trace_40 : decode M_X11_trace.1 40 = .ok (.if_icmp .le 5, 3) := by decide +kernel
theorem dm_X11_trace_43 : decode M_X11_trace.1 43 = .ok (.iconst (-1), 1) := by decide +kernel
theorem dm_X11_trace_44 : decode M_X11_trace.1 44 = .ok (.ireturn, 1) := by decide +kernel
theorem dm_X11_trace_45 : decode M_X11_trace.1 45 = .ok (.aload_n 0, 1) := by decide +kernel
theorem dm_X11_trace_46 : decode M_X11_trace.1 46 = .ok (.getfield 63, 3) := by decide +kernel
theorem dm_X11_trace_49 : decode M_X11_trace.1 49 = .ok (.bipush 48, 2) := by decide +kernel
theorem dm_X11_trace_51 : decode M_X11_trace.1 51 = .ok (.iload_n 1, 1) := by decide +kernel
theorem dm_X11_trace_52 : decode M_X11_trace.1 52 = .ok (.imul, 1) := by decide +kernel
theorem dm_X11_trace_53 : decode M_X11_trace.1 53 = .ok (.iconst 3, 1) := by decide +kernel
theorem dm_X11_trace_54 : decode M_X11_trace.1 54 = .ok (.aload_n 0, 1) := by decide +kernel
theorem dm_X11_trace_55 : decode M_X11_trace.1 55 = .ok (.getfield 54, 3) := by decide +kernel
theorem dm_X11_trace_58 : decode M_X11_trace.1 58 = .ok (.iload_n 1, 1) := by decide +kernel
theorem dm_X11_trace_59 : decode M_X11_trace.1 59 = .ok (.iaload, 1) := by decide +kernel
theorem dm_X11_trace_60 : decode M_X11_trace.1 60 = .ok (.iconst 1, 1) := by decide +kernel
theorem dm_X11_trace_61 : decode M_X11_trace.1 61 = .ok (.isub, 1) := by decide +kernel
theorem dm_X11_trace_62 : decode M_X11_trace.1 62 = .ok (.iload_n 2, 1) := by decide +kernel
theorem dm_X11_trace_63 : decode M_X11_trace.1 63 = .ok (.isub, 1) := by decide +kernel
theorem dm_X11_trace_64 : decode M_X11_trace.1 64 = .ok (.bipush 16, 2) := by decide +kernel
theorem dm_X11_trace_66 : decode M_X11_trace.1 66 = .ok (.irem, 1) := by decide +kernel
theorem dm_X11_trace_67 : decode M_X11_trace.1 67 = .ok (.imul, 1) := by decide +kernel
theorem dm_X11_trace_68 : decode M_X11_trace.1 68 = .ok (.iadd, 1) := by decide +kernel
theorem dm_X11_trace_69 : decode M_X11_trace.1 69 = .ok (.iload_n 3, 1) := by decide +kernel
theorem dm_X11_trace_70 : decode M_X11_trace.1 70 = .ok (.iadd, 1) := by decide +kernel
theorem dm_X11_trace_71 : decode M_X11_trace.1 71 = .ok (.iaload, 1) := by decide +kernel
theorem dm_X11_trace_72 : decode M_X11_trace.1 72 = .ok (.ireturn, 1) := by decide +kernel
def f_X11_trace (t : Int32) (k : Int32) (what : Int32) (did : Nat → Int32) (trace : Nat → Int32) : Int32 × Int32 := (if t < 0 then ((-1 : Int32), (0 : Int32)) else (if (3 : Int32) < t then ((-1 : Int32), (0 : Int32)) else (if k < 0 then ((-1 : Int32), (0 : Int32)) else (if (15 : Int32) < k then ((-1 : Int32), (0 : Int32)) else (if (did (Int32.toNatClampNeg t)) ≤ k then ((-1 : Int32), (0 : Int32)) else (if what < 0 then ((-1 : Int32), (0 : Int32)) else (if what ≤ (2 : Int32) then ((trace (Int32.toNatClampNeg ((((48 : Int32) * t) + ((3 : Int32) * ((((did (Int32.toNatClampNeg t)) - (1 : Int32)) - k) - (((did (Int32.toNatClampNeg t)) - (1 : Int32)) - k) / (16 : Int32) * (16 : Int32)))) + what))), (0 : Int32)) else ((-1 : Int32), (0 : Int32)))))))))
set_option maxRecDepth 20000 in
theorem k_X11_trace {t : Int32} {k : Int32} {what : Int32} {refusal : Int32} {wheel : Int32} {now : Int32} {length : Int32} {at_ : Int32} {fault : Int32} {faultLine : Int32} {line : Int32} {words : Int32} {labels : Int32} {targets : Int32} {wrong : Int32} {unfit : Int32} {text : Nat → Int32} {code_ : Nat → Int32} {label : Nat → Int64} {labelWord : Nat → Int32} {target : Nat → Int64} {targetWord : Nat → Int32} {targetLine : Nat → Int32} {store : Nat → Int32} {common : Nat → Int32} {low : Nat → Int32} {high : Nat → Int32} {register : Nat → Int32} {address : Nat → Int32} {status : Nat → Int32} {did : Nat → Int32} {ready : Nat → Int32} {timer : Nat → Int32} {trace : Nat → Int32} {r_0 : Int32} {r_1 : Int32} (hres : (r_0, r_1) = f_X11_trace t k what did trace) : K M_X11_trace yX11_trace [.ref 0, .int t, .int k, .int what] (w_M refusal wheel now length at_ fault faultLine line words labels targets wrong unfit text code_ label labelWord target targetWord targetLine store common low high register address status did ready timer trace) (some (.int r_0)) (w_M r_1 wheel now length at_ fault faultLine line words labels targets wrong unfit text code_ label labelWord target targetWord targetLine store common low high register address status did ready timer trace) := by
  refine K.of (lv := [(0, .ref 0), (1, .int t), (2, .int k), (3, .int what)]) (by decide +kernel) rfl rfl rfl ?_
  rw [f_X11_trace] at hres
  refine G.aload_n (pc := 0) dm_X11_trace_0 rfl ?_
  refine G.iconst (pc := 1) (v := (0 : Int32)) dm_X11_trace_1 qi_0 ?_
  refine G.putfield (pc := 2) (ws1 := (w_M (0 : Int32) wheel now length at_ fault faultLine line words labels targets wrong unfit text code_ label labelWord target targetWord targetLine store common low high register address status did ready timer trace)) dm_X11_trace_2 gw_X11_70 rfl (g_fit_i _) rfl rfl ?_
  refine G.iload_n (pc := 5) dm_X11_trace_5 rfl ?_
  refine G.if_lt (pc := 6) (tgt := 43) dm_X11_trace_6 (by decide) (fun c6 => ?_) (fun c6 => ?_)
  · rw [if_pos c6] at hres
    refine G.iconst (pc := 43) (v := (-1 : Int32)) dm_X11_trace_43 qi_m1 ?_
    cases hres
    exact G.ireturn (pc := 44) dm_X11_trace_44 rfl rfl rfl
  · rw [if_neg c6] at hres
    refine G.iload_n (pc := 9) dm_X11_trace_9 rfl ?_
    refine G.iconst (pc := 10) (v := (3 : Int32)) dm_X11_trace_10 qi_3 ?_
    refine G.icmp_gt (pc := 11) (tgt := 43) dm_X11_trace_11 (by decide) (fun c11 => ?_) (fun c11 => ?_)
    · rw [if_pos c11] at hres
      refine G.iconst (pc := 43) (v := (-1 : Int32)) dm_X11_trace_43 qi_m1 ?_
      cases hres
      exact G.ireturn (pc := 44) dm_X11_trace_44 rfl rfl rfl
    · rw [if_neg c11] at hres
      refine G.iload_n (pc := 14) dm_X11_trace_14 rfl ?_
      refine G.if_lt (pc := 15) (tgt := 43) dm_X11_trace_15 (by decide) (fun c15 => ?_) (fun c15 => ?_)
      · rw [if_pos c15] at hres
        refine G.iconst (pc := 43) (v := (-1 : Int32)) dm_X11_trace_43 qi_m1 ?_
        cases hres
        exact G.ireturn (pc := 44) dm_X11_trace_44 rfl rfl rfl
      · rw [if_neg c15] at hres
        refine G.iload_n (pc := 18) dm_X11_trace_18 rfl ?_
        refine G.bipush (pc := 19) (v := (15 : Int32)) dm_X11_trace_19 qb_15 ?_
        refine G.icmp_gt (pc := 21) (tgt := 43) dm_X11_trace_21 (by decide) (fun c21 => ?_) (fun c21 => ?_)
        · rw [if_pos c21] at hres
          refine G.iconst (pc := 43) (v := (-1 : Int32)) dm_X11_trace_43 qi_m1 ?_
          cases hres
          exact G.ireturn (pc := 44) dm_X11_trace_44 rfl rfl rfl
        · rw [if_neg c21] at hres
          refine G.iload_n (pc := 24) dm_X11_trace_24 rfl ?_
          refine G.aload_n (pc := 25) dm_X11_trace_25 rfl ?_
          refine G.getfield (pc := 26) dm_X11_trace_26 gf_X11_54 rfl rfl ?_
          refine G.iload_n (pc := 29) dm_X11_trace_29 rfl ?_
          refine G.iaload (pc := 30) dm_X11_trace_30 rfl (q_t (q_g1 c6 c11 (by decide))) ?_
          refine G.icmp_ge (pc := 31) (tgt := 43) dm_X11_trace_31 (by decide) (fun c31 => ?_) (fun c31 => ?_)
          · rw [if_pos c31] at hres
            refine G.iconst (pc := 43) (v := (-1 : Int32)) dm_X11_trace_43 qi_m1 ?_
            cases hres
            exact G.ireturn (pc := 44) dm_X11_trace_44 rfl rfl rfl
          · rw [if_neg c31] at hres
            refine G.iload_n (pc := 34) dm_X11_trace_34 rfl ?_
            refine G.if_lt (pc := 35) (tgt := 43) dm_X11_trace_35 (by decide) (fun c35 => ?_) (fun c35 => ?_)
            · rw [if_pos c35] at hres
              refine G.iconst (pc := 43) (v := (-1 : Int32)) dm_X11_trace_43 qi_m1 ?_
              cases hres
              exact G.ireturn (pc := 44) dm_X11_trace_44 rfl rfl rfl
            · rw [if_neg c35] at hres
              refine G.iload_n (pc := 38) dm_X11_trace_38 rfl ?_
              refine G.iconst (pc := 39) (v := (2 : Int32)) dm_X11_trace_39 qi_2 ?_
              refine G.icmp_le (pc := 40) (tgt := 45) dm_X11_trace_40 (by decide) (fun c40 => ?_) (fun c40 => ?_)
              · rw [if_pos c40] at hres
                refine G.aload_n (pc := 45) dm_X11_trace_45 rfl ?_
                refine G.getfield (pc := 46) dm_X11_trace_46 gf_X11_63 rfl rfl ?_
                refine G.bipush (pc := 49) (v := (48 : Int32)) dm_X11_trace_49 qb_48 ?_
                refine G.iload_n (pc := 51) dm_X11_trace_51 rfl ?_
                refine G.imul (pc := 52) dm_X11_trace_52 ?_
                refine G.iconst (pc := 53) (v := (3 : Int32)) dm_X11_trace_53 qi_3 ?_
                refine G.aload_n (pc := 54) dm_X11_trace_54 rfl ?_
                refine G.getfield (pc := 55) dm_X11_trace_55 gf_X11_54 rfl rfl ?_
                refine G.iload_n (pc := 58) dm_X11_trace_58 rfl ?_
                refine G.iaload (pc := 59) dm_X11_trace_59 rfl (q_t (q_g1 c6 c11 (by decide))) ?_
                refine G.iconst (pc := 60) (v := (1 : Int32)) dm_X11_trace_60 qi_1 ?_
                refine G.isub (pc := 61) dm_X11_trace_61 ?_
                refine G.iload_n (pc := 62) dm_X11_trace_62 rfl ?_
                refine G.isub (pc := 63) dm_X11_trace_63 ?_
                refine G.bipush (pc := 64) (v := (16 : Int32)) dm_X11_trace_64 qb_16 ?_
                refine G.irem (pc := 66) dm_X11_trace_66 (by decide) ?_
                refine G.imul (pc := 67) dm_X11_trace_67 ?_
                refine G.iadd (pc := 68) dm_X11_trace_68 ?_
                refine G.iload_n (pc := 69) dm_X11_trace_69 rfl ?_
                refine G.iadd (pc := 70) dm_X11_trace_70 ?_
                refine G.iaload (pc := 71) dm_X11_trace_71 rfl (q_trk (q_g1 c6 c11 (by decide)) c31 (q_g1 (n := 16) c15 c21 (by decide)).1 (q_g2 c35 c40 (by decide))) ?_
                cases hres
                exact G.ireturn (pc := 72) dm_X11_trace_72 rfl rfl rfl
              · rw [if_neg c40] at hres
                refine G.iconst (pc := 43) (v := (-1 : Int32)) dm_X11_trace_43 qi_m1 ?_
                cases hres
                exact G.ireturn (pc := 44) dm_X11_trace_44 rfl rfl rfl
end
