section
-- ===== PART A: goes FIRST, ahead of the names: the tables' words, and 'selects' of the private methods out of them =====
/-- a private method of a class that the tables say can be made, by its rows of tables_1 -/
def lw_okq (q : MethodName × Nat) : Prop := (q.1.cls ≠ "java/lang/invoke/MethodHandle" ∧ q.1.cls ≠ "java/lang/invoke/VarHandle") ∧ Cond.instantiable q.1.cls q.2 ∈ tables_1 ∧ Cond.privateMethod q.1 ∈ tables_1 ∧ Cond.instanceMethod q.1 ∈ tables_1
theorem lw_p0 : lw_okq (⟨"TimedThreads$TimedThread", "attempt", "(ILTimedThreads$SharedMemory;)LTimedThreads$Outcome;"⟩, 12) := ⟨⟨by decide +kernel, by decide +kernel⟩, List.mem_of_getElem? (i := 57) (by decide +kernel), List.mem_of_getElem? (i := 306) (by decide +kernel), List.mem_of_getElem? (i := 307) (by decide +kernel)⟩
theorem lw_p1 : lw_okq (⟨"TimedThreads$TimedThread", "loadUpper", "(I)LTimedThreads$Outcome;"⟩, 12) := ⟨⟨by decide +kernel, by decide +kernel⟩, List.mem_of_getElem? (i := 57) (by decide +kernel), List.mem_of_getElem? (i := 321) (by decide +kernel), List.mem_of_getElem? (i := 322) (by decide +kernel)⟩
theorem lw_p2 : lw_okq (⟨"TimedThreads$TimedThread", "setRegister", "(II)V"⟩, 12) := ⟨⟨by decide +kernel, by decide +kernel⟩, List.mem_of_getElem? (i := 57) (by decide +kernel), List.mem_of_getElem? (i := 334) (by decide +kernel), List.mem_of_getElem? (i := 335) (by decide +kernel)⟩
theorem lw_p3 : lw_okq (⟨"TimedThreads$TimedThread", "jump", "(I)LTimedThreads$Outcome;"⟩, 12) := ⟨⟨by decide +kernel, by decide +kernel⟩, List.mem_of_getElem? (i := 57) (by decide +kernel), List.mem_of_getElem? (i := 340) (by decide +kernel), List.mem_of_getElem? (i := 341) (by decide +kernel)⟩
theorem lw_p4 : lw_okq (⟨"TimedThreads$TimedThread", "jumpToRegister", "(I)LTimedThreads$Outcome;"⟩, 12) := ⟨⟨by decide +kernel, by decide +kernel⟩, List.mem_of_getElem? (i := 57) (by decide +kernel), List.mem_of_getElem? (i := 348) (by decide +kernel), List.mem_of_getElem? (i := 349) (by decide +kernel)⟩
theorem lw_p5 : lw_okq (⟨"TimedThreads$TimedThread", "branch", "(I)LTimedThreads$Outcome;"⟩, 12) := ⟨⟨by decide +kernel, by decide +kernel⟩, List.mem_of_getElem? (i := 57) (by decide +kernel), List.mem_of_getElem? (i := 361) (by decide +kernel), List.mem_of_getElem? (i := 362) (by decide +kernel)⟩
theorem lw_p6 : lw_okq (⟨"TimedThreads$TimedThread", "load", "(IILTimedThreads$SharedMemory;)LTimedThreads$Outcome;"⟩, 12) := ⟨⟨by decide +kernel, by decide +kernel⟩, List.mem_of_getElem? (i := 57) (by decide +kernel), List.mem_of_getElem? (i := 378) (by decide +kernel), List.mem_of_getElem? (i := 379) (by decide +kernel)⟩
theorem lw_p7 : lw_okq (⟨"TimedThreads$TimedThread", "canReach", "(II)Z"⟩, 12) := ⟨⟨by decide +kernel, by decide +kernel⟩, List.mem_of_getElem? (i := 57) (by decide +kernel), List.mem_of_getElem? (i := 382) (by decide +kernel), List.mem_of_getElem? (i := 383) (by decide +kernel)⟩
theorem lw_p8 : lw_okq (⟨"TimedThreads$TimedThread", "rowOf", "(ILTimedThreads$SharedMemory;)[I"⟩, 12) := ⟨⟨by decide +kernel, by decide +kernel⟩, List.mem_of_getElem? (i := 57) (by decide +kernel), List.mem_of_getElem? (i := 386) (by decide +kernel), List.mem_of_getElem? (i := 387) (by decide +kernel)⟩
theorem lw_p9 : lw_okq (⟨"TimedThreads$TimedThread", "setRetirement", "(IILTimedThreads$SharedMemory;)V"⟩, 12) := ⟨⟨by decide +kernel, by decide +kernel⟩, List.mem_of_getElem? (i := 57) (by decide +kernel), List.mem_of_getElem? (i := 396) (by decide +kernel), List.mem_of_getElem? (i := 397) (by decide +kernel)⟩
theorem lw_p10 : lw_okq (⟨"TimedThreads$TimedThread", "save", "(IILTimedThreads$SharedMemory;)LTimedThreads$Outcome;"⟩, 12) := ⟨⟨by decide +kernel, by decide +kernel⟩, List.mem_of_getElem? (i := 57) (by decide +kernel), List.mem_of_getElem? (i := 405) (by decide +kernel), List.mem_of_getElem? (i := 406) (by decide +kernel)⟩
theorem lw_p11 : lw_okq (⟨"TimedThreads$TimedThread", "computeWithNumber", "(I)LTimedThreads$Outcome;"⟩, 12) := ⟨⟨by decide +kernel, by decide +kernel⟩, List.mem_of_getElem? (i := 57) (by decide +kernel), List.mem_of_getElem? (i := 413) (by decide +kernel), List.mem_of_getElem? (i := 414) (by decide +kernel)⟩
theorem lw_p12 : lw_okq (⟨"TimedThreads$TimedThread", "computeWithRegister", "(I)LTimedThreads$Outcome;"⟩, 12) := ⟨⟨by decide +kernel, by decide +kernel⟩, List.mem_of_getElem? (i := 57) (by decide +kernel), List.mem_of_getElem? (i := 423) (by decide +kernel), List.mem_of_getElem? (i := 424) (by decide +kernel)⟩
theorem lw_p13 : lw_okq (⟨"TimedThreads$TimedThread", "timed", "(II)LTimedThreads$Outcome;"⟩, 12) := ⟨⟨by decide +kernel, by decide +kernel⟩, List.mem_of_getElem? (i := 57) (by decide +kernel), List.mem_of_getElem? (i := 427) (by decide +kernel), List.mem_of_getElem? (i := 428) (by decide +kernel)⟩
theorem lw_p14 : lw_okq (⟨"TimedThreads$TimedThread", "setTimer", "(III)LTimedThreads$Outcome;"⟩, 12) := ⟨⟨by decide +kernel, by decide +kernel⟩, List.mem_of_getElem? (i := 57) (by decide +kernel), List.mem_of_getElem? (i := 431) (by decide +kernel), List.mem_of_getElem? (i := 432) (by decide +kernel)⟩
theorem lw_p15 : lw_okq (⟨"TimedThreads$TimedThread", "halt", "(I)LTimedThreads$Outcome;"⟩, 12) := ⟨⟨by decide +kernel, by decide +kernel⟩, List.mem_of_getElem? (i := 57) (by decide +kernel), List.mem_of_getElem? (i := 444) (by decide +kernel), List.mem_of_getElem? (i := 445) (by decide +kernel)⟩
def lw_privs_1 : List (MethodName × Nat) := [(⟨"TimedThreads$TimedThread", "attempt", "(ILTimedThreads$SharedMemory;)LTimedThreads$Outcome;"⟩, 12), (⟨"TimedThreads$TimedThread", "loadUpper", "(I)LTimedThreads$Outcome;"⟩, 12), (⟨"TimedThreads$TimedThread", "setRegister", "(II)V"⟩, 12), (⟨"TimedThreads$TimedThread", "jump", "(I)LTimedThreads$Outcome;"⟩, 12), (⟨"TimedThreads$TimedThread", "jumpToRegister", "(I)LTimedThreads$Outcome;"⟩, 12), (⟨"TimedThreads$TimedThread", "branch", "(I)LTimedThreads$Outcome;"⟩, 12), (⟨"TimedThreads$TimedThread", "load", "(IILTimedThreads$SharedMemory;)LTimedThreads$Outcome;"⟩, 12), (⟨"TimedThreads$TimedThread", "canReach", "(II)Z"⟩, 12), (⟨"TimedThreads$TimedThread", "rowOf", "(ILTimedThreads$SharedMemory;)[I"⟩, 12), (⟨"TimedThreads$TimedThread", "setRetirement", "(IILTimedThreads$SharedMemory;)V"⟩, 12), (⟨"TimedThreads$TimedThread", "save", "(IILTimedThreads$SharedMemory;)LTimedThreads$Outcome;"⟩, 12), (⟨"TimedThreads$TimedThread", "computeWithNumber", "(I)LTimedThreads$Outcome;"⟩, 12), (⟨"TimedThreads$TimedThread", "computeWithRegister", "(I)LTimedThreads$Outcome;"⟩, 12), (⟨"TimedThreads$TimedThread", "timed", "(II)LTimedThreads$Outcome;"⟩, 12), (⟨"TimedThreads$TimedThread", "setTimer", "(III)LTimedThreads$Outcome;"⟩, 12), (⟨"TimedThreads$TimedThread", "halt", "(I)LTimedThreads$Outcome;"⟩, 12)]
theorem lw_r1 : ∀ q ∈ lw_privs_1, lw_okq q := List.forall_mem_cons.mpr ⟨lw_p0, List.forall_mem_cons.mpr ⟨lw_p1, List.forall_mem_cons.mpr ⟨lw_p2, List.forall_mem_cons.mpr ⟨lw_p3, List.forall_mem_cons.mpr ⟨lw_p4, List.forall_mem_cons.mpr ⟨lw_p5, List.forall_mem_cons.mpr ⟨lw_p6, List.forall_mem_cons.mpr ⟨lw_p7, List.forall_mem_cons.mpr ⟨lw_p8, List.forall_mem_cons.mpr ⟨lw_p9, List.forall_mem_cons.mpr ⟨lw_p10, List.forall_mem_cons.mpr ⟨lw_p11, List.forall_mem_cons.mpr ⟨lw_p12, List.forall_mem_cons.mpr ⟨lw_p13, List.forall_mem_cons.mpr ⟨lw_p14, List.forall_mem_cons.mpr ⟨lw_p15, fun _ h => absurd h List.not_mem_nil⟩⟩⟩⟩⟩⟩⟩⟩⟩⟩⟩⟩⟩⟩⟩⟩
theorem lw_p16 : lw_okq (⟨"java/lang/Throwable", "fillInStackTrace", "(I)Ljava/lang/Throwable;"⟩, 6) := ⟨⟨by decide +kernel, by decide +kernel⟩, List.mem_of_getElem? (i := 538) (by decide +kernel), List.mem_of_getElem? (i := 536) (by decide +kernel), List.mem_of_getElem? (i := 537) (by decide +kernel)⟩
theorem lw_p17 : lw_okq (⟨"TimedThreads$Tokens", "takeLetters", "()V"⟩, 6) := ⟨⟨by decide +kernel, by decide +kernel⟩, List.mem_of_getElem? (i := 166) (by decide +kernel), List.mem_of_getElem? (i := 616) (by decide +kernel), List.mem_of_getElem? (i := 617) (by decide +kernel)⟩
theorem lw_p18 : lw_okq (⟨"TimedThreads$Tokens", "takeRegister", "()V"⟩, 6) := ⟨⟨by decide +kernel, by decide +kernel⟩, List.mem_of_getElem? (i := 166) (by decide +kernel), List.mem_of_getElem? (i := 626) (by decide +kernel), List.mem_of_getElem? (i := 627) (by decide +kernel)⟩
theorem lw_p19 : lw_okq (⟨"TimedThreads$Tokens", "takeDigits", "()J"⟩, 6) := ⟨⟨by decide +kernel, by decide +kernel⟩, List.mem_of_getElem? (i := 166) (by decide +kernel), List.mem_of_getElem? (i := 630) (by decide +kernel), List.mem_of_getElem? (i := 631) (by decide +kernel)⟩
theorem lw_p20 : lw_okq (⟨"TimedThreads$Tokens", "add", "(CJ)V"⟩, 6) := ⟨⟨by decide +kernel, by decide +kernel⟩, List.mem_of_getElem? (i := 166) (by decide +kernel), List.mem_of_getElem? (i := 637) (by decide +kernel), List.mem_of_getElem? (i := 638) (by decide +kernel)⟩
theorem lw_p21 : lw_okq (⟨"TimedThreads$Tokens", "takeNumber", "(Z)V"⟩, 6) := ⟨⟨by decide +kernel, by decide +kernel⟩, List.mem_of_getElem? (i := 166) (by decide +kernel), List.mem_of_getElem? (i := 641) (by decide +kernel), List.mem_of_getElem? (i := 642) (by decide +kernel)⟩
theorem lw_p22 : lw_okq (⟨"TimedThreads$Tokens", "takeMark", "(C)V"⟩, 6) := ⟨⟨by decide +kernel, by decide +kernel⟩, List.mem_of_getElem? (i := 166) (by decide +kernel), List.mem_of_getElem? (i := 645) (by decide +kernel), List.mem_of_getElem? (i := 646) (by decide +kernel)⟩
theorem lw_p23 : lw_okq (⟨"TimedThreads$Assembler", "readLine", "()V"⟩, 15) := ⟨⟨by decide +kernel, by decide +kernel⟩, List.mem_of_getElem? (i := 142) (by decide +kernel), List.mem_of_getElem? (i := 653) (by decide +kernel), List.mem_of_getElem? (i := 654) (by decide +kernel)⟩
theorem lw_p24 : lw_okq (⟨"TimedThreads$Assembler", "readInstruction", "(I)V"⟩, 15) := ⟨⟨by decide +kernel, by decide +kernel⟩, List.mem_of_getElem? (i := 142) (by decide +kernel), List.mem_of_getElem? (i := 670) (by decide +kernel), List.mem_of_getElem? (i := 671) (by decide +kernel)⟩
theorem lw_p25 : lw_okq (⟨"TimedThreads$Assembler", "readPiece", "(C)V"⟩, 15) := ⟨⟨by decide +kernel, by decide +kernel⟩, List.mem_of_getElem? (i := 142) (by decide +kernel), List.mem_of_getElem? (i := 722) (by decide +kernel), List.mem_of_getElem? (i := 723) (by decide +kernel)⟩
theorem lw_p26 : lw_okq (⟨"TimedThreads$Assembler", "putPiece", "(CJ)V"⟩, 15) := ⟨⟨by decide +kernel, by decide +kernel⟩, List.mem_of_getElem? (i := 142) (by decide +kernel), List.mem_of_getElem? (i := 729) (by decide +kernel), List.mem_of_getElem? (i := 730) (by decide +kernel)⟩
theorem lw_p27 : lw_okq (⟨"TimedThreads$Assembler", "fitted", "(JJJ)I"⟩, 15) := ⟨⟨by decide +kernel, by decide +kernel⟩, List.mem_of_getElem? (i := 142) (by decide +kernel), List.mem_of_getElem? (i := 735) (by decide +kernel), List.mem_of_getElem? (i := 736) (by decide +kernel)⟩
theorem lw_p28 : lw_okq (⟨"TimedThreads$Assembler", "noteOdd", "(J)V"⟩, 15) := ⟨⟨by decide +kernel, by decide +kernel⟩, List.mem_of_getElem? (i := 142) (by decide +kernel), List.mem_of_getElem? (i := 747) (by decide +kernel), List.mem_of_getElem? (i := 748) (by decide +kernel)⟩
theorem lw_p29 : lw_okq (⟨"TimedThreads$Assembler", "faultOfLine", "(I)I"⟩, 15) := ⟨⟨by decide +kernel, by decide +kernel⟩, List.mem_of_getElem? (i := 142) (by decide +kernel), List.mem_of_getElem? (i := 761) (by decide +kernel), List.mem_of_getElem? (i := 762) (by decide +kernel)⟩
theorem lw_p30 : lw_okq (⟨"TimedThreads$Assembler", "setFault", "(II)V"⟩, 15) := ⟨⟨by decide +kernel, by decide +kernel⟩, List.mem_of_getElem? (i := 142) (by decide +kernel), List.mem_of_getElem? (i := 769) (by decide +kernel), List.mem_of_getElem? (i := 770) (by decide +kernel)⟩
theorem lw_p31 : lw_okq (⟨"TimedThreads$Assembler", "keepLine", "(I)V"⟩, 15) := ⟨⟨by decide +kernel, by decide +kernel⟩, List.mem_of_getElem? (i := 142) (by decide +kernel), List.mem_of_getElem? (i := 773) (by decide +kernel), List.mem_of_getElem? (i := 774) (by decide +kernel)⟩
def lw_privs_2 : List (MethodName × Nat) := [(⟨"java/lang/Throwable", "fillInStackTrace", "(I)Ljava/lang/Throwable;"⟩, 6), (⟨"TimedThreads$Tokens", "takeLetters", "()V"⟩, 6), (⟨"TimedThreads$Tokens", "takeRegister", "()V"⟩, 6), (⟨"TimedThreads$Tokens", "takeDigits", "()J"⟩, 6), (⟨"TimedThreads$Tokens", "add", "(CJ)V"⟩, 6), (⟨"TimedThreads$Tokens", "takeNumber", "(Z)V"⟩, 6), (⟨"TimedThreads$Tokens", "takeMark", "(C)V"⟩, 6), (⟨"TimedThreads$Assembler", "readLine", "()V"⟩, 15), (⟨"TimedThreads$Assembler", "readInstruction", "(I)V"⟩, 15), (⟨"TimedThreads$Assembler", "readPiece", "(C)V"⟩, 15), (⟨"TimedThreads$Assembler", "putPiece", "(CJ)V"⟩, 15), (⟨"TimedThreads$Assembler", "fitted", "(JJJ)I"⟩, 15), (⟨"TimedThreads$Assembler", "noteOdd", "(J)V"⟩, 15), (⟨"TimedThreads$Assembler", "faultOfLine", "(I)I"⟩, 15), (⟨"TimedThreads$Assembler", "setFault", "(II)V"⟩, 15), (⟨"TimedThreads$Assembler", "keepLine", "(I)V"⟩, 15)]
theorem lw_r2 : ∀ q ∈ lw_privs_2, lw_okq q := List.forall_mem_cons.mpr ⟨lw_p16, List.forall_mem_cons.mpr ⟨lw_p17, List.forall_mem_cons.mpr ⟨lw_p18, List.forall_mem_cons.mpr ⟨lw_p19, List.forall_mem_cons.mpr ⟨lw_p20, List.forall_mem_cons.mpr ⟨lw_p21, List.forall_mem_cons.mpr ⟨lw_p22, List.forall_mem_cons.mpr ⟨lw_p23, List.forall_mem_cons.mpr ⟨lw_p24, List.forall_mem_cons.mpr ⟨lw_p25, List.forall_mem_cons.mpr ⟨lw_p26, List.forall_mem_cons.mpr ⟨lw_p27, List.forall_mem_cons.mpr ⟨lw_p28, List.forall_mem_cons.mpr ⟨lw_p29, List.forall_mem_cons.mpr ⟨lw_p30, List.forall_mem_cons.mpr ⟨lw_p31, fun _ h => absurd h List.not_mem_nil⟩⟩⟩⟩⟩⟩⟩⟩⟩⟩⟩⟩⟩⟩⟩⟩
theorem lw_p32 : lw_okq (⟨"TimedThreads$Assembler", "resolveTargets", "()V"⟩, 15) := ⟨⟨by decide +kernel, by decide +kernel⟩, List.mem_of_getElem? (i := 142) (by decide +kernel), List.mem_of_getElem? (i := 781) (by decide +kernel), List.mem_of_getElem? (i := 782) (by decide +kernel)⟩
theorem lw_p33 : lw_okq (⟨"TimedThreadsModel", "refuse", "(I)I"⟩, 31) := ⟨⟨by decide +kernel, by decide +kernel⟩, List.mem_of_getElem? (i := 789) (by decide +kernel), List.mem_of_getElem? (i := 912) (by decide +kernel), List.mem_of_getElem? (i := 913) (by decide +kernel)⟩
theorem lw_p34 : lw_okq (⟨"TimedThreadsModel", "takeLine", "(I)V"⟩, 31) := ⟨⟨by decide +kernel, by decide +kernel⟩, List.mem_of_getElem? (i := 789) (by decide +kernel), List.mem_of_getElem? (i := 916) (by decide +kernel), List.mem_of_getElem? (i := 917) (by decide +kernel)⟩
theorem lw_p35 : lw_okq (⟨"TimedThreadsModel", "skip", "()V"⟩, 31) := ⟨⟨by decide +kernel, by decide +kernel⟩, List.mem_of_getElem? (i := 789) (by decide +kernel), List.mem_of_getElem? (i := 920) (by decide +kernel), List.mem_of_getElem? (i := 921) (by decide +kernel)⟩
theorem lw_p36 : lw_okq (⟨"TimedThreadsModel", "character", "(I)I"⟩, 31) := ⟨⟨by decide +kernel, by decide +kernel⟩, List.mem_of_getElem? (i := 789) (by decide +kernel), List.mem_of_getElem? (i := 924) (by decide +kernel), List.mem_of_getElem? (i := 925) (by decide +kernel)⟩
theorem lw_p37 : lw_okq (⟨"TimedThreadsModel", "letters", "()J"⟩, 31) := ⟨⟨by decide +kernel, by decide +kernel⟩, List.mem_of_getElem? (i := 789) (by decide +kernel), List.mem_of_getElem? (i := 928) (by decide +kernel), List.mem_of_getElem? (i := 929) (by decide +kernel)⟩
theorem lw_p38 : lw_okq (⟨"TimedThreadsModel", "labelOf", "(J)I"⟩, 31) := ⟨⟨by decide +kernel, by decide +kernel⟩, List.mem_of_getElem? (i := 789) (by decide +kernel), List.mem_of_getElem? (i := 935) (by decide +kernel), List.mem_of_getElem? (i := 936) (by decide +kernel)⟩
theorem lw_p39 : lw_okq (⟨"TimedThreadsModel", "operands", "(I)I"⟩, 31) := ⟨⟨by decide +kernel, by decide +kernel⟩, List.mem_of_getElem? (i := 789) (by decide +kernel), List.mem_of_getElem? (i := 982) (by decide +kernel), List.mem_of_getElem? (i := 983) (by decide +kernel)⟩
theorem lw_p40 : lw_okq (⟨"TimedThreadsModel", "pair", "(II)I"⟩, 31) := ⟨⟨by decide +kernel, by decide +kernel⟩, List.mem_of_getElem? (i := 789) (by decide +kernel), List.mem_of_getElem? (i := 986) (by decide +kernel), List.mem_of_getElem? (i := 987) (by decide +kernel)⟩
theorem lw_p41 : lw_okq (⟨"TimedThreadsModel", "takeRegister", "()I"⟩, 31) := ⟨⟨by decide +kernel, by decide +kernel⟩, List.mem_of_getElem? (i := 789) (by decide +kernel), List.mem_of_getElem? (i := 990) (by decide +kernel), List.mem_of_getElem? (i := 991) (by decide +kernel)⟩
theorem lw_p42 : lw_okq (⟨"TimedThreadsModel", "need", "(I)V"⟩, 31) := ⟨⟨by decide +kernel, by decide +kernel⟩, List.mem_of_getElem? (i := 789) (by decide +kernel), List.mem_of_getElem? (i := 997) (by decide +kernel), List.mem_of_getElem? (i := 998) (by decide +kernel)⟩
theorem lw_p43 : lw_okq (⟨"TimedThreadsModel", "number", "(JJ)J"⟩, 31) := ⟨⟨by decide +kernel, by decide +kernel⟩, List.mem_of_getElem? (i := 789) (by decide +kernel), List.mem_of_getElem? (i := 1002) (by decide +kernel), List.mem_of_getElem? (i := 1003) (by decide +kernel)⟩
theorem lw_p44 : lw_okq (⟨"TimedThreadsModel", "distance", "(Z)I"⟩, 31) := ⟨⟨by decide +kernel, by decide +kernel⟩, List.mem_of_getElem? (i := 789) (by decide +kernel), List.mem_of_getElem? (i := 1015) (by decide +kernel), List.mem_of_getElem? (i := 1016) (by decide +kernel)⟩
theorem lw_p45 : lw_okq (⟨"TimedThreadsModel", "isEnd", "()Z"⟩, 31) := ⟨⟨by decide +kernel, by decide +kernel⟩, List.mem_of_getElem? (i := 789) (by decide +kernel), List.mem_of_getElem? (i := 1032) (by decide +kernel), List.mem_of_getElem? (i := 1033) (by decide +kernel)⟩
theorem lw_p46 : lw_okq (⟨"TimedThreadsModel", "link", "(I)V"⟩, 31) := ⟨⟨by decide +kernel, by decide +kernel⟩, List.mem_of_getElem? (i := 789) (by decide +kernel), List.mem_of_getElem? (i := 1036) (by decide +kernel), List.mem_of_getElem? (i := 1037) (by decide +kernel)⟩
theorem lw_p47 : lw_okq (⟨"TimedThreadsModel", "turn", "(I)I"⟩, 31) := ⟨⟨by decide +kernel, by decide +kernel⟩, List.mem_of_getElem? (i := 789) (by decide +kernel), List.mem_of_getElem? (i := 1068) (by decide +kernel), List.mem_of_getElem? (i := 1069) (by decide +kernel)⟩
def lw_privs_3 : List (MethodName × Nat) := [(⟨"TimedThreads$Assembler", "resolveTargets", "()V"⟩, 15), (⟨"TimedThreadsModel", "refuse", "(I)I"⟩, 31), (⟨"TimedThreadsModel", "takeLine", "(I)V"⟩, 31), (⟨"TimedThreadsModel", "skip", "()V"⟩, 31), (⟨"TimedThreadsModel", "character", "(I)I"⟩, 31), (⟨"TimedThreadsModel", "letters", "()J"⟩, 31), (⟨"TimedThreadsModel", "labelOf", "(J)I"⟩, 31), (⟨"TimedThreadsModel", "operands", "(I)I"⟩, 31), (⟨"TimedThreadsModel", "pair", "(II)I"⟩, 31), (⟨"TimedThreadsModel", "takeRegister", "()I"⟩, 31), (⟨"TimedThreadsModel", "need", "(I)V"⟩, 31), (⟨"TimedThreadsModel", "number", "(JJ)J"⟩, 31), (⟨"TimedThreadsModel", "distance", "(Z)I"⟩, 31), (⟨"TimedThreadsModel", "isEnd", "()Z"⟩, 31), (⟨"TimedThreadsModel", "link", "(I)V"⟩, 31), (⟨"TimedThreadsModel", "turn", "(I)I"⟩, 31)]
theorem lw_r3 : ∀ q ∈ lw_privs_3, lw_okq q := List.forall_mem_cons.mpr ⟨lw_p32, List.forall_mem_cons.mpr ⟨lw_p33, List.forall_mem_cons.mpr ⟨lw_p34, List.forall_mem_cons.mpr ⟨lw_p35, List.forall_mem_cons.mpr ⟨lw_p36, List.forall_mem_cons.mpr ⟨lw_p37, List.forall_mem_cons.mpr ⟨lw_p38, List.forall_mem_cons.mpr ⟨lw_p39, List.forall_mem_cons.mpr ⟨lw_p40, List.forall_mem_cons.mpr ⟨lw_p41, List.forall_mem_cons.mpr ⟨lw_p42, List.forall_mem_cons.mpr ⟨lw_p43, List.forall_mem_cons.mpr ⟨lw_p44, List.forall_mem_cons.mpr ⟨lw_p45, List.forall_mem_cons.mpr ⟨lw_p46, List.forall_mem_cons.mpr ⟨lw_p47, fun _ h => absurd h List.not_mem_nil⟩⟩⟩⟩⟩⟩⟩⟩⟩⟩⟩⟩⟩⟩⟩⟩
theorem lw_p48 : lw_okq (⟨"TimedThreadsModel", "stop", "(I)I"⟩, 31) := ⟨⟨by decide +kernel, by decide +kernel⟩, List.mem_of_getElem? (i := 789) (by decide +kernel), List.mem_of_getElem? (i := 1075) (by decide +kernel), List.mem_of_getElem? (i := 1076) (by decide +kernel)⟩
theorem lw_p49 : lw_okq (⟨"TimedThreadsModel", "set", "(III)V"⟩, 31) := ⟨⟨by decide +kernel, by decide +kernel⟩, List.mem_of_getElem? (i := 789) (by decide +kernel), List.mem_of_getElem? (i := 1079) (by decide +kernel), List.mem_of_getElem? (i := 1080) (by decide +kernel)⟩
theorem lw_p50 : lw_okq (⟨"TimedThreadsModel", "done", "(III)I"⟩, 31) := ⟨⟨by decide +kernel, by decide +kernel⟩, List.mem_of_getElem? (i := 789) (by decide +kernel), List.mem_of_getElem? (i := 1083) (by decide +kernel), List.mem_of_getElem? (i := 1084) (by decide +kernel)⟩
theorem lw_p51 : lw_okq (⟨"TimedThreadsModel", "jump", "(IIZ)I"⟩, 31) := ⟨⟨by decide +kernel, by decide +kernel⟩, List.mem_of_getElem? (i := 789) (by decide +kernel), List.mem_of_getElem? (i := 1087) (by decide +kernel), List.mem_of_getElem? (i := 1088) (by decide +kernel)⟩
theorem lw_p52 : lw_okq (⟨"TimedThreadsModel", "branch", "(II)I"⟩, 31) := ⟨⟨by decide +kernel, by decide +kernel⟩, List.mem_of_getElem? (i := 789) (by decide +kernel), List.mem_of_getElem? (i := 1091) (by decide +kernel), List.mem_of_getElem? (i := 1092) (by decide +kernel)⟩
theorem lw_p53 : lw_okq (⟨"TimedThreadsModel", "moveWord", "(IIZ)I"⟩, 31) := ⟨⟨by decide +kernel, by decide +kernel⟩, List.mem_of_getElem? (i := 789) (by decide +kernel), List.mem_of_getElem? (i := 1102) (by decide +kernel), List.mem_of_getElem? (i := 1103) (by decide +kernel)⟩
theorem lw_p54 : lw_okq (⟨"TimedThreadsModel", "isThere", "(III)Z"⟩, 31) := ⟨⟨by decide +kernel, by decide +kernel⟩, List.mem_of_getElem? (i := 789) (by decide +kernel), List.mem_of_getElem? (i := 1106) (by decide +kernel), List.mem_of_getElem? (i := 1107) (by decide +kernel)⟩
theorem lw_p55 : lw_okq (⟨"TimedThreadsModel", "wordAt", "(II)I"⟩, 31) := ⟨⟨by decide +kernel, by decide +kernel⟩, List.mem_of_getElem? (i := 789) (by decide +kernel), List.mem_of_getElem? (i := 1110) (by decide +kernel), List.mem_of_getElem? (i := 1111) (by decide +kernel)⟩
theorem lw_p56 : lw_okq (⟨"TimedThreadsModel", "put", "(III)V"⟩, 31) := ⟨⟨by decide +kernel, by decide +kernel⟩, List.mem_of_getElem? (i := 789) (by decide +kernel), List.mem_of_getElem? (i := 1114) (by decide +kernel), List.mem_of_getElem? (i := 1115) (by decide +kernel)⟩
theorem lw_p57 : lw_okq (⟨"TimedThreadsModel", "first", "(I)I"⟩, 31) := ⟨⟨by decide +kernel, by decide +kernel⟩, List.mem_of_getElem? (i := 789) (by decide +kernel), List.mem_of_getElem? (i := 1118) (by decide +kernel), List.mem_of_getElem? (i := 1119) (by decide +kernel)⟩
theorem lw_p58 : lw_okq (⟨"TimedThreadsModel", "calculate", "(IIZ)I"⟩, 31) := ⟨⟨by decide +kernel, by decide +kernel⟩, List.mem_of_getElem? (i := 789) (by decide +kernel), List.mem_of_getElem? (i := 1122) (by decide +kernel), List.mem_of_getElem? (i := 1123) (by decide +kernel)⟩
theorem lw_p59 : lw_okq (⟨"TimedThreadsModel", "clock", "(II)I"⟩, 31) := ⟨⟨by decide +kernel, by decide +kernel⟩, List.mem_of_getElem? (i := 789) (by decide +kernel), List.mem_of_getElem? (i := 1129) (by decide +kernel), List.mem_of_getElem? (i := 1130) (by decide +kernel)⟩
def lw_privs_4 : List (MethodName × Nat) := [(⟨"TimedThreadsModel", "stop", "(I)I"⟩, 31), (⟨"TimedThreadsModel", "set", "(III)V"⟩, 31), (⟨"TimedThreadsModel", "done", "(III)I"⟩, 31), (⟨"TimedThreadsModel", "jump", "(IIZ)I"⟩, 31), (⟨"TimedThreadsModel", "branch", "(II)I"⟩, 31), (⟨"TimedThreadsModel", "moveWord", "(IIZ)I"⟩, 31), (⟨"TimedThreadsModel", "isThere", "(III)Z"⟩, 31), (⟨"TimedThreadsModel", "wordAt", "(II)I"⟩, 31), (⟨"TimedThreadsModel", "put", "(III)V"⟩, 31), (⟨"TimedThreadsModel", "first", "(I)I"⟩, 31), (⟨"TimedThreadsModel", "calculate", "(IIZ)I"⟩, 31), (⟨"TimedThreadsModel", "clock", "(II)I"⟩, 31)]
theorem lw_r4 : ∀ q ∈ lw_privs_4, lw_okq q := List.forall_mem_cons.mpr ⟨lw_p48, List.forall_mem_cons.mpr ⟨lw_p49, List.forall_mem_cons.mpr ⟨lw_p50, List.forall_mem_cons.mpr ⟨lw_p51, List.forall_mem_cons.mpr ⟨lw_p52, List.forall_mem_cons.mpr ⟨lw_p53, List.forall_mem_cons.mpr ⟨lw_p54, List.forall_mem_cons.mpr ⟨lw_p55, List.forall_mem_cons.mpr ⟨lw_p56, List.forall_mem_cons.mpr ⟨lw_p57, List.forall_mem_cons.mpr ⟨lw_p58, List.forall_mem_cons.mpr ⟨lw_p59, fun _ h => absurd h List.not_mem_nil⟩⟩⟩⟩⟩⟩⟩⟩⟩⟩⟩⟩
def lw_privs : List (MethodName × Nat) := lw_privs_1 ++ (lw_privs_2 ++ (lw_privs_3 ++ (lw_privs_4)))
def lw_tbl : List Cond := k2_sels lw_privs ++ tables_1
theorem lw_privs_ok : ∀ q ∈ lw_privs, lw_okq q := by
  show ∀ q ∈ lw_privs_1 ++ (lw_privs_2 ++ (lw_privs_3 ++ (lw_privs_4))), lw_okq q
  exact List.forall_mem_append.mpr ⟨lw_r1, List.forall_mem_append.mpr ⟨lw_r2, List.forall_mem_append.mpr ⟨lw_r3, lw_r4⟩⟩⟩
/-! ===== BEGIN words of one list among another's, by their places ===== -/
theorem goodIn_r {big : List Cond} (ws : List Cond) (ps : List Nat) (hp : ws = ps.filterMap (fun i => big[i]?)) (h : ws.all goodWord = true) : GoodIn big ws := by
  intro w hw
  have h1 := List.all_eq_true.mp h w hw
  rw [hp] at hw
  obtain ⟨i, -, hi⟩ := List.mem_filterMap.mp hw
  have hm : w ∈ big := by first | exact List.mem_of_getElem? hi | exact List.getElem?_mem hi
  exact ⟨hm, good_of_word h1⟩
theorem goodIn_app {big a b : List Cond} (ha : GoodIn big a) (hb : GoodIn big b) : GoodIn big (a ++ b) := fun w h => (List.mem_append.mp h).elim (ha w) (hb w)
theorem goodIn_ca {big a b : List Cond} {c : Cond} (ha : GoodIn big (c :: a)) (hb : GoodIn big b) : GoodIn big (c :: (a ++ b)) := fun w h => (List.mem_cons.mp h).elim (fun e => ha w (List.mem_cons.mpr (Or.inl e))) (fun h => (List.mem_append.mp h).elim (fun h => ha w (List.mem_cons.mpr (Or.inr h))) (hb w))
theorem goodIn_sub {big ws : List Cond} (hm : ∀ w ∈ ws, w ∈ big) (h : ws.all goodWord = true) : GoodIn big ws := fun w hw => ⟨hm w hw, good_of_word (List.all_eq_true.mp h w hw)⟩
/-! ===== END ===== -/
/-! THE CLAIM OUT OF ONE WALK OF THE LAW'S BODY. Your part is whole_start (and what it stands on); all else here is the same for every law, but numbers. -/
def R_law : String := "TimedThreadsLaw"
def lw_P (b : Addr) (xs : List Int32) (args : Array Value) (s : State) : Prop := args = #[.ref b] ∧ s.IntsAt b xs ∧ xs.length ≤ 2049 ∧ (Jvm.Cond.and given_1 narrow_1).before args s = true
def lw_Q (_ : Array Value) (s : State) (o : Outcome) (t : State) : Prop := o = .returned (some (.int 1)) ∧ Framed s o t [] 601024 7293000
def lw_Z (below : List Frame) (a : Array Value) (s : State) : State → Prop := fun t => ∃ o, t.status = .running ∧ Ended t below o ∧ lw_Q a s o t
/-- the law's own end, with 1 on the stack, nothing written that was there before, its room as the claim has it -/
theorem lw_ret {p : Program} {l : Launch} {e : Env} {s : State} {m : MethodId} {below : List Frame} {meth : Method} {c : Code} {b : Nat} (hx : p.tables.exec = Jvm.exec) (hb : c.code = code) (hr : meth.sig.returnType = ret) (hlocks : meth.locks = false) {pc : Nat} {H : Heap} {ls : Array Slot} (hdg : decode code pc = .ok (.ireturn, 1)) : W p l e room_1 s m #[Value.ref b] below meth c H [] 601024 7293000 (lw_Z below #[Value.ref b] s) (F0 m pc ls [.int 1]) := by
  intro T hT X
  obtain ⟨fs, hret, hrun, hended, hW, hframe⟩ := X.leave (v := some (.int 1)) (hlocks := hlocks) (fun h => by rw [hr] at h; cases h)
  have hmeth' : T.vm.method? m = some meth := X.method'
  refine ⟨T.setFrames fs, ?_, .returned (some (.int 1)), hrun, hended, rfl, ⟨_, rfl⟩, hW, hframe⟩
  jvm_step X.here [X.here.top, hx, hb, hdg, hmeth', hr, ret, narrow_b1]
  (try refine ⟨rfl, ?_⟩); (try refine ⟨rfl, ?_⟩)
  first | (intro acts; rw [hret _ acts rfl rfl rfl]) | rw [hret _ _ rfl rfl rfl]
  exact Steps.refl _
/-- what holds at the law's entry: the machine, the code, the tables' words (any of lw_tbl by 'hts w (by decide +kernel)'), the script of L ints xs at the cell b, what the Statement gives of the start (any of its parts by flat_of_before) -/
def lw_At (p : Program) (s : State) (m : MethodId) (meth : Method) (c : Code) (b L : Nat) (xs : Nat → Int32) : Prop :=
  p.tables.exec = Jvm.exec ∧ c.code = code ∧ meth.sig.returnType = ret ∧ c.maxLocals = 7 ∧ s.vm.findClass R_law = some m.cls ∧ (∀ w ∈ lw_tbl, w.before #[Value.ref b] s = true) ∧ va_X b L xs s s.heap ∧ b < s.heap.size ∧ meth.locks = false ∧ (Jvm.Cond.and given_1 narrow_1).before #[Value.ref b] s = true
end
section
def RX0 : String := "TimedThreads$Assembler"
def TX0 : u_T := fun k => match k with
  | 0 => ("TimedThreads$Assembler", "words", "[I", true)
  | 1 => ("TimedThreads$Assembler", "count", "I", false)
  | 2 => ("TimedThreads$Assembler", "faultKind", "I", false)
  | 3 => ("TimedThreads$Assembler", "faultLine", "I", false)
  | 4 => ("TimedThreads$Assembler", "targets", "[J", true)
  | 5 => ("TimedThreads$Assembler", "lines", "[I", true)
  | 6 => ("TimedThreads$Assembler", "labels", "LTimedThreads$Labels;", true)
  | 7 => ("TimedThreads$Assembler", "tokens", "LTimedThreads$Tokens;", true)
  | 8 => ("TimedThreads$Assembler", "at", "I", false)
  | 9 => ("TimedThreads$Assembler", "label", "J", false)
  | 10 => ("TimedThreads$Assembler", "hasWord", "Z", false)
  | 11 => ("TimedThreads$Assembler", "word", "I", false)
  | 12 => ("TimedThreads$Assembler", "target", "J", false)
  | 13 => ("TimedThreads$Assembler", "malformed", "Z", false)
  | _ => ("TimedThreads$Assembler", "misfit", "Z", false)
def tyX0 : Nat → FieldType := fun k => match k with
  | 0 => .array .int
  | 1 => .int
  | 2 => .int
  | 3 => .int
  | 4 => .array .long
  | 5 => .array .int
  | 6 => .object "TimedThreads$Labels"
  | 7 => .object "TimedThreads$Tokens"
  | 8 => .int
  | 9 => .long
  | 10 => .boolean
  | 11 => .int
  | 12 => .long
  | 13 => .boolean
  | _ => .boolean
abbrev wsX00 : List Cond := u_ws RX0 TX0 15
theorem nmX0 : ∀ a, a < 15 → ∀ b, b < 15 → a ≠ b → (TX0 a).2.1 ≠ (TX0 b).2.1 := by decide +kernel
theorem tyX0_ok : ∀ k, k < 15 → parseFieldDescriptor (TX0 k).2.2.1 = some (tyX0 k) := by decide +kernel
abbrev cX0_init : ByteArray := prog_2_method_1_code
def yX0_init : MethodName := ⟨RX0, "<init>", "()V"⟩
abbrev cX0_read : ByteArray := prog_2_method_2_code
def yX0_read : MethodName := ⟨RX0, "read", "(LTimedThreads$Text;I)V"⟩
abbrev cX0_readLine : ByteArray := prog_2_method_3_code
def yX0_readLine : MethodName := ⟨RX0, "readLine", "()V"⟩
abbrev cX0_faultOfLine : ByteArray := prog_2_method_4_code
def yX0_faultOfLine : MethodName := ⟨RX0, "faultOfLine", "(I)I"⟩
abbrev cX0_keepLine : ByteArray := prog_2_method_5_code
def yX0_keepLine : MethodName := ⟨RX0, "keepLine", "(I)V"⟩
abbrev cX0_setFault : ByteArray := prog_2_method_6_code
def yX0_setFault : MethodName := ⟨RX0, "setFault", "(II)V"⟩
abbrev cX0_mnemonicOf : ByteArray := prog_2_method_7_code
def yX0_mnemonicOf : MethodName := ⟨RX0, "mnemonicOf", "(J)I"⟩
abbrev cX0_readInstruction : ByteArray := prog_2_method_8_code
def yX0_readInstruction : MethodName := ⟨RX0, "readInstruction", "(I)V"⟩
abbrev cX0_readPiece : ByteArray := prog_2_method_9_code
def yX0_readPiece : MethodName := ⟨RX0, "readPiece", "(C)V"⟩
abbrev cX0_kindOf : ByteArray := prog_2_method_10_code
def yX0_kindOf : MethodName := ⟨RX0, "kindOf", "(C)C"⟩
abbrev cX0_putPiece : ByteArray := prog_2_method_11_code
def yX0_putPiece : MethodName := ⟨RX0, "putPiece", "(CJ)V"⟩
abbrev cX0_fitted : ByteArray := prog_2_method_12_code
def yX0_fitted : MethodName := ⟨RX0, "fitted", "(JJJ)I"⟩
abbrev cX0_noteOdd : ByteArray := prog_2_method_13_code
def yX0_noteOdd : MethodName := ⟨RX0, "noteOdd", "(J)V"⟩
abbrev cX0_resolveTargets : ByteArray := prog_2_method_14_code
def yX0_resolveTargets : MethodName := ⟨RX0, "resolveTargets", "()V"⟩
def RX1 : String := "TimedThreads$Fields"
def TX1 : u_T := fun k => match k with
  | _ => ("", "", "", false)
def tyX1 : Nat → FieldType := fun k => match k with
  | _ => .int
abbrev wsX10 : List Cond := u_ws RX1 TX1 0
theorem nmX1 : ∀ a, a < 0 → ∀ b, b < 0 → a ≠ b → (TX1 a).2.1 ≠ (TX1 b).2.1 := by decide +kernel
theorem tyX1_ok : ∀ k, k < 0 → parseFieldDescriptor (TX1 k).2.2.1 = some (tyX1 k) := by decide +kernel
abbrev cX1_op : ByteArray := prog_3_method_2_code
def yX1_op : MethodName := ⟨RX1, "op", "(I)I"⟩
abbrev cX1_rd : ByteArray := prog_3_method_3_code
def yX1_rd : MethodName := ⟨RX1, "rd", "(I)I"⟩
abbrev cX1_f : ByteArray := prog_3_method_4_code
def yX1_f : MethodName := ⟨RX1, "f", "(I)I"⟩
abbrev cX1_rs : ByteArray := prog_3_method_5_code
def yX1_rs : MethodName := ⟨RX1, "rs", "(I)I"⟩
abbrev cX1_rt : ByteArray := prog_3_method_6_code
def yX1_rt : MethodName := ⟨RX1, "rt", "(I)I"⟩
abbrev cX1_g : ByteArray := prog_3_method_7_code
def yX1_g : MethodName := ⟨RX1, "g", "(I)I"⟩
abbrev cX1_numberI : ByteArray := prog_3_method_8_code
def yX1_numberI : MethodName := ⟨RX1, "numberI", "(I)I"⟩
abbrev cX1_numberS : ByteArray := prog_3_method_9_code
def yX1_numberS : MethodName := ⟨RX1, "numberS", "(I)I"⟩
abbrev cX1_numberB : ByteArray := prog_3_method_10_code
def yX1_numberB : MethodName := ⟨RX1, "numberB", "(I)I"⟩
abbrev cX1_numberJ : ByteArray := prog_3_method_11_code
def yX1_numberJ : MethodName := ⟨RX1, "numberJ", "(I)I"⟩
abbrev cX1_numberU : ByteArray := prog_3_method_12_code
def yX1_numberU : MethodName := ⟨RX1, "numberU", "(I)I"⟩
abbrev cX1_bitsOfS : ByteArray := prog_3_method_13_code
def yX1_bitsOfS : MethodName := ⟨RX1, "bitsOfS", "(I)I"⟩
abbrev cX1_bitsOfB : ByteArray := prog_3_method_14_code
def yX1_bitsOfB : MethodName := ⟨RX1, "bitsOfB", "(I)I"⟩
abbrev cX1_bitsOfJ : ByteArray := prog_3_method_15_code
def yX1_bitsOfJ : MethodName := ⟨RX1, "bitsOfJ", "(I)I"⟩
def RX2 : String := "TimedThreads$History"
def TX2 : u_T := fun k => match k with
  | 0 => ("TimedThreads$History", "count", "I", false)
  | 1 => ("TimedThreads$History", "addresses", "[I", true)
  | 2 => ("TimedThreads$History", "cycles", "[I", true)
  | _ => ("TimedThreads$History", "retirements", "[I", true)
def tyX2 : Nat → FieldType := fun k => match k with
  | 0 => .int
  | 1 => .array .int
  | 2 => .array .int
  | _ => .array .int
abbrev wsX20 : List Cond := u_ws RX2 TX2 4
theorem nmX2 : ∀ a, a < 4 → ∀ b, b < 4 → a ≠ b → (TX2 a).2.1 ≠ (TX2 b).2.1 := by decide +kernel
theorem tyX2_ok : ∀ k, k < 4 → parseFieldDescriptor (TX2 k).2.2.1 = some (tyX2 k) := by decide +kernel
abbrev cX2_init : ByteArray := prog_4_method_1_code
def yX2_init : MethodName := ⟨RX2, "<init>", "()V"⟩
abbrev cX2_add : ByteArray := prog_4_method_2_code
def yX2_add : MethodName := ⟨RX2, "add", "(III)V"⟩
abbrev cX2_entry : ByteArray := prog_4_method_3_code
def yX2_entry : MethodName := ⟨RX2, "entry", "(II)I"⟩
abbrev cX2_placeOf : ByteArray := prog_4_method_4_code
def yX2_placeOf : MethodName := ⟨RX2, "placeOf", "(I)I"⟩
def RX3 : String := "TimedThreads$Labels"
def TX3 : u_T := fun k => match k with
  | 0 => ("TimedThreads$Labels", "count", "I", false)
  | 1 => ("TimedThreads$Labels", "keys", "[J", true)
  | _ => ("TimedThreads$Labels", "places", "[I", true)
def tyX3 : Nat → FieldType := fun k => match k with
  | 0 => .int
  | 1 => .array .long
  | _ => .array .int
abbrev wsX30 : List Cond := u_ws RX3 TX3 3
theorem nmX3 : ∀ a, a < 3 → ∀ b, b < 3 → a ≠ b → (TX3 a).2.1 ≠ (TX3 b).2.1 := by decide +kernel
theorem tyX3_ok : ∀ k, k < 3 → parseFieldDescriptor (TX3 k).2.2.1 = some (tyX3 k) := by decide +kernel
abbrev cX3_init : ByteArray := prog_5_method_1_code
def yX3_init : MethodName := ⟨RX3, "<init>", "()V"⟩
abbrev cX3_add : ByteArray := prog_5_method_2_code
def yX3_add : MethodName := ⟨RX3, "add", "(JI)V"⟩
abbrev cX3_find : ByteArray := prog_5_method_3_code
def yX3_find : MethodName := ⟨RX3, "find", "(J)I"⟩
def RX4 : String := "TimedThreads$Mnemonic"
def TX4 : u_T := fun k => match k with
  | _ => ("", "", "", false)
def tyX4 : Nat → FieldType := fun k => match k with
  | _ => .int
abbrev wsX40 : List Cond := u_ws RX4 TX4 0
theorem nmX4 : ∀ a, a < 0 → ∀ b, b < 0 → a ≠ b → (TX4 a).2.1 ≠ (TX4 b).2.1 := by decide +kernel
theorem tyX4_ok : ∀ k, k < 0 → parseFieldDescriptor (TX4 k).2.2.1 = some (tyX4 k) := by decide +kernel
def RX5 : String := "TimedThreads$Outcome"
def TX5 : u_T := fun k => match k with
  | _ => ("", "", "", false)
def tyX5 : Nat → FieldType := fun k => match k with
  | _ => .int
abbrev wsX50 : List Cond := u_ws RX5 TX5 0
theorem nmX5 : ∀ a, a < 0 → ∀ b, b < 0 → a ≠ b → (TX5 a).2.1 ≠ (TX5 b).2.1 := by decide +kernel
theorem tyX5_ok : ∀ k, k < 0 → parseFieldDescriptor (TX5 k).2.2.1 = some (tyX5 k) := by decide +kernel
def RX6 : String := "TimedThreads$SharedMemory"
def TX6 : u_T := fun k => match k with
  | 0 => ("TimedThreads$SharedMemory", "words", "[I", true)
  | _ => ("TimedThreads$SharedMemory", "wheel", "I", true)
def tyX6 : Nat → FieldType := fun k => match k with
  | 0 => .array .int
  | _ => .int
abbrev wsX60 : List Cond := u_ws RX6 TX6 2
theorem nmX6 : ∀ a, a < 2 → ∀ b, b < 2 → a ≠ b → (TX6 a).2.1 ≠ (TX6 b).2.1 := by decide +kernel
theorem tyX6_ok : ∀ k, k < 2 → parseFieldDescriptor (TX6 k).2.2.1 = some (tyX6 k) := by decide +kernel
abbrev cX6_init : ByteArray := prog_8_method_1_code
def yX6_init : MethodName := ⟨RX6, "<init>", "(I)V"⟩
abbrev cX6_retirement : ByteArray := prog_8_method_2_code
def yX6_retirement : MethodName := ⟨RX6, "retirement", "(II)I"⟩
def RX7 : String := "TimedThreads$Text"
def TX7 : u_T := fun k => match k with
  | 0 => ("TimedThreads$Text", "characters", "[C", true)
  | _ => ("TimedThreads$Text", "length", "I", false)
def tyX7 : Nat → FieldType := fun k => match k with
  | 0 => .array .char
  | _ => .int
abbrev wsX70 : List Cond := u_ws RX7 TX7 2
theorem nmX7 : ∀ a, a < 2 → ∀ b, b < 2 → a ≠ b → (TX7 a).2.1 ≠ (TX7 b).2.1 := by decide +kernel
theorem tyX7_ok : ∀ k, k < 2 → parseFieldDescriptor (TX7 k).2.2.1 = some (tyX7 k) := by decide +kernel
abbrev cX7_init : ByteArray := prog_9_method_1_code
def yX7_init : MethodName := ⟨RX7, "<init>", "()V"⟩
abbrev cX7_canBeTyped : ByteArray := prog_9_method_2_code
def yX7_canBeTyped : MethodName := ⟨RX7, "canBeTyped", "(JI)Z"⟩
abbrev cX7_add : ByteArray := prog_9_method_3_code
def yX7_add : MethodName := ⟨RX7, "add", "(JI)V"⟩
abbrev cX7_byteOf : ByteArray := prog_9_method_4_code
def yX7_byteOf : MethodName := ⟨RX7, "byteOf", "(JI)C"⟩
def RX8 : String := "TimedThreads$TimedThread"
def TX8 : u_T := fun k => match k with
  | 0 => ("TimedThreads$TimedThread", "registers", "[I", true)
  | 1 => ("TimedThreads$TimedThread", "store", "[I", true)
  | 2 => ("TimedThreads$TimedThread", "history", "LTimedThreads$History;", true)
  | 3 => ("TimedThreads$TimedThread", "low", "I", false)
  | 4 => ("TimedThreads$TimedThread", "high", "I", false)
  | 5 => ("TimedThreads$TimedThread", "number", "I", true)
  | 6 => ("TimedThreads$TimedThread", "timers", "[I", true)
  | 7 => ("TimedThreads$TimedThread", "status", "I", false)
  | 8 => ("TimedThreads$TimedThread", "address", "I", false)
  | 9 => ("TimedThreads$TimedThread", "ready", "I", false)
  | 10 => ("TimedThreads$TimedThread", "nextAddress", "I", false)
  | _ => ("TimedThreads$TimedThread", "retirement", "I", false)
def tyX8 : Nat → FieldType := fun k => match k with
  | 0 => .array .int
  | 1 => .array .int
  | 2 => .object "TimedThreads$History"
  | 3 => .int
  | 4 => .int
  | 5 => .int
  | 6 => .array .int
  | 7 => .int
  | 8 => .int
  | 9 => .int
  | 10 => .int
  | _ => .int
abbrev wsX80 : List Cond := u_ws RX8 TX8 12
theorem nmX8 : ∀ a, a < 12 → ∀ b, b < 12 → a ≠ b → (TX8 a).2.1 ≠ (TX8 b).2.1 := by decide +kernel
theorem tyX8_ok : ∀ k, k < 12 → parseFieldDescriptor (TX8 k).2.2.1 = some (tyX8 k) := by decide +kernel
abbrev cX8_init : ByteArray := prog_10_method_1_code
def yX8_init : MethodName := ⟨RX8, "<init>", "(I)V"⟩
abbrev cX8_begin : ByteArray := prog_10_method_2_code
def yX8_begin : MethodName := ⟨RX8, "begin", "(II)V"⟩
abbrev cX8_condition : ByteArray := prog_10_method_3_code
def yX8_condition : MethodName := ⟨RX8, "condition", "(I)I"⟩
abbrev cX8_takeTurn : ByteArray := prog_10_method_4_code
def yX8_takeTurn : MethodName := ⟨RX8, "takeTurn", "(ILTimedThreads$SharedMemory;)Z"⟩
abbrev cX8_attempt : ByteArray := prog_10_method_5_code
def yX8_attempt : MethodName := ⟨RX8, "attempt", "(ILTimedThreads$SharedMemory;)LTimedThreads$Outcome;"⟩
abbrev cX8_loadUpper : ByteArray := prog_10_method_6_code
def yX8_loadUpper : MethodName := ⟨RX8, "loadUpper", "(I)LTimedThreads$Outcome;"⟩
abbrev cX8_jump : ByteArray := prog_10_method_7_code
def yX8_jump : MethodName := ⟨RX8, "jump", "(I)LTimedThreads$Outcome;"⟩
abbrev cX8_jumpToRegister : ByteArray := prog_10_method_8_code
def yX8_jumpToRegister : MethodName := ⟨RX8, "jumpToRegister", "(I)LTimedThreads$Outcome;"⟩
abbrev cX8_branch : ByteArray := prog_10_method_9_code
def yX8_branch : MethodName := ⟨RX8, "branch", "(I)LTimedThreads$Outcome;"⟩
abbrev cX8_isSo : ByteArray := prog_10_method_10_code
def yX8_isSo : MethodName := ⟨RX8, "isSo", "(III)Z"⟩
abbrev cX8_isBelowUnsigned : ByteArray := prog_10_method_11_code
def yX8_isBelowUnsigned : MethodName := ⟨RX8, "isBelowUnsigned", "(II)Z"⟩
abbrev cX8_load : ByteArray := prog_10_method_12_code
def yX8_load : MethodName := ⟨RX8, "load", "(IILTimedThreads$SharedMemory;)LTimedThreads$Outcome;"⟩
abbrev cX8_save : ByteArray := prog_10_method_13_code
def yX8_save : MethodName := ⟨RX8, "save", "(IILTimedThreads$SharedMemory;)LTimedThreads$Outcome;"⟩
abbrev cX8_canReach : ByteArray := prog_10_method_14_code
def yX8_canReach : MethodName := ⟨RX8, "canReach", "(II)Z"⟩
abbrev cX8_rowOf : ByteArray := prog_10_method_15_code
def yX8_rowOf : MethodName := ⟨RX8, "rowOf", "(ILTimedThreads$SharedMemory;)[I"⟩
abbrev cX8_placeOf : ByteArray := prog_10_method_16_code
def yX8_placeOf : MethodName := ⟨RX8, "placeOf", "(I)I"⟩
abbrev cX8_bitOf : ByteArray := prog_10_method_17_code
def yX8_bitOf : MethodName := ⟨RX8, "bitOf", "(I)I"⟩
abbrev cX8_setRetirement : ByteArray := prog_10_method_18_code
def yX8_setRetirement : MethodName := ⟨RX8, "setRetirement", "(IILTimedThreads$SharedMemory;)V"⟩
abbrev cX8_computeWithNumber : ByteArray := prog_10_method_19_code
def yX8_computeWithNumber : MethodName := ⟨RX8, "computeWithNumber", "(I)LTimedThreads$Outcome;"⟩
abbrev cX8_computeWithRegister : ByteArray := prog_10_method_20_code
def yX8_computeWithRegister : MethodName := ⟨RX8, "computeWithRegister", "(I)LTimedThreads$Outcome;"⟩
abbrev cX8_compute : ByteArray := prog_10_method_21_code
def yX8_compute : MethodName := ⟨RX8, "compute", "(IZII)I"⟩
abbrev cX8_timed : ByteArray := prog_10_method_22_code
def yX8_timed : MethodName := ⟨RX8, "timed", "(II)LTimedThreads$Outcome;"⟩
abbrev cX8_setTimer : ByteArray := prog_10_method_23_code
def yX8_setTimer : MethodName := ⟨RX8, "setTimer", "(III)LTimedThreads$Outcome;"⟩
abbrev cX8_halt : ByteArray := prog_10_method_24_code
def yX8_halt : MethodName := ⟨RX8, "halt", "(I)LTimedThreads$Outcome;"⟩
abbrev cX8_setRegister : ByteArray := prog_10_method_25_code
def yX8_setRegister : MethodName := ⟨RX8, "setRegister", "(II)V"⟩
abbrev cX8_isInStore : ByteArray := prog_10_method_26_code
def yX8_isInStore : MethodName := ⟨RX8, "isInStore", "(I)Z"⟩
abbrev cX8_isAligned : ByteArray := prog_10_method_27_code
def yX8_isAligned : MethodName := ⟨RX8, "isAligned", "(I)Z"⟩
def RX9 : String := "TimedThreads$Tokens"
def TX9 : u_T := fun k => match k with
  | 0 => ("TimedThreads$Tokens", "kinds", "[C", true)
  | 1 => ("TimedThreads$Tokens", "values", "[J", true)
  | 2 => ("TimedThreads$Tokens", "count", "I", false)
  | 3 => ("TimedThreads$Tokens", "characters", "[C", false)
  | 4 => ("TimedThreads$Tokens", "length", "I", false)
  | _ => ("TimedThreads$Tokens", "at", "I", false)
def tyX9 : Nat → FieldType := fun k => match k with
  | 0 => .array .char
  | 1 => .array .long
  | 2 => .int
  | 3 => .array .char
  | 4 => .int
  | _ => .int
abbrev wsX90 : List Cond := u_ws RX9 TX9 6
theorem nmX9 : ∀ a, a < 6 → ∀ b, b < 6 → a ≠ b → (TX9 a).2.1 ≠ (TX9 b).2.1 := by decide +kernel
theorem tyX9_ok : ∀ k, k < 6 → parseFieldDescriptor (TX9 k).2.2.1 = some (tyX9 k) := by decide +kernel
abbrev cX9_init : ByteArray := prog_11_method_1_code
def yX9_init : MethodName := ⟨RX9, "<init>", "()V"⟩
abbrev cX9_withLetter : ByteArray := prog_11_method_2_code
def yX9_withLetter : MethodName := ⟨RX9, "withLetter", "(JC)J"⟩
abbrev cX9_split : ByteArray := prog_11_method_3_code
def yX9_split : MethodName := ⟨RX9, "split", "(LTimedThreads$Text;)V"⟩
abbrev cX9_kindAt : ByteArray := prog_11_method_4_code
def yX9_kindAt : MethodName := ⟨RX9, "kindAt", "(I)C"⟩
abbrev cX9_valueAt : ByteArray := prog_11_method_5_code
def yX9_valueAt : MethodName := ⟨RX9, "valueAt", "(I)J"⟩
abbrev cX9_size : ByteArray := prog_11_method_6_code
def yX9_size : MethodName := ⟨RX9, "size", "()I"⟩
abbrev cX9_takeMark : ByteArray := prog_11_method_7_code
def yX9_takeMark : MethodName := ⟨RX9, "takeMark", "(C)V"⟩
abbrev cX9_takeLetters : ByteArray := prog_11_method_8_code
def yX9_takeLetters : MethodName := ⟨RX9, "takeLetters", "()V"⟩
abbrev cX9_takeRegister : ByteArray := prog_11_method_9_code
def yX9_takeRegister : MethodName := ⟨RX9, "takeRegister", "()V"⟩
abbrev cX9_takeNumber : ByteArray := prog_11_method_10_code
def yX9_takeNumber : MethodName := ⟨RX9, "takeNumber", "(Z)V"⟩
abbrev cX9_takeDigits : ByteArray := prog_11_method_11_code
def yX9_takeDigits : MethodName := ⟨RX9, "takeDigits", "()J"⟩
abbrev cX9_add : ByteArray := prog_11_method_12_code
def yX9_add : MethodName := ⟨RX9, "add", "(CJ)V"⟩
abbrev cX9_isLetter : ByteArray := prog_11_method_13_code
def yX9_isLetter : MethodName := ⟨RX9, "isLetter", "(C)Z"⟩
abbrev cX9_isDigit : ByteArray := prog_11_method_14_code
def yX9_isDigit : MethodName := ⟨RX9, "isDigit", "(C)Z"⟩
def RX10 : String := "TimedThreads"
def TX10 : u_T := fun k => match k with
  | 0 => ("TimedThreads", "memory", "LTimedThreads$SharedMemory;", true)
  | 1 => ("TimedThreads", "threads", "[LTimedThreads$TimedThread;", true)
  | 2 => ("TimedThreads", "text", "LTimedThreads$Text;", true)
  | 3 => ("TimedThreads", "assembler", "LTimedThreads$Assembler;", true)
  | _ => ("TimedThreads", "cycle", "I", false)
def tyX10 : Nat → FieldType := fun k => match k with
  | 0 => .object "TimedThreads$SharedMemory"
  | 1 => .array (.object "TimedThreads$TimedThread")
  | 2 => .object "TimedThreads$Text"
  | 3 => .object "TimedThreads$Assembler"
  | _ => .int
abbrev wsX100 : List Cond := u_ws RX10 TX10 5
theorem nmX10 : ∀ a, a < 5 → ∀ b, b < 5 → a ≠ b → (TX10 a).2.1 ≠ (TX10 b).2.1 := by decide +kernel
theorem tyX10_ok : ∀ k, k < 5 → parseFieldDescriptor (TX10 k).2.2.1 = some (tyX10 k) := by decide +kernel
abbrev cX10_init : ByteArray := prog_1_method_1_code
def yX10_init : MethodName := ⟨RX10, "<init>", "(I)V"⟩
abbrev cX10_type : ByteArray := prog_1_method_2_code
def yX10_type : MethodName := ⟨RX10, "type", "(JI)I"⟩
abbrev cX10_clear : ByteArray := prog_1_method_3_code
def yX10_clear : MethodName := ⟨RX10, "clear", "()I"⟩
abbrev cX10_assemble : ByteArray := prog_1_method_4_code
def yX10_assemble : MethodName := ⟨RX10, "assemble", "(II)I"⟩
abbrev cX10_fault : ByteArray := prog_1_method_5_code
def yX10_fault : MethodName := ⟨RX10, "fault", "(I)I"⟩
abbrev cX10_peek : ByteArray := prog_1_method_6_code
def yX10_peek : MethodName := ⟨RX10, "peek", "(II)I"⟩
abbrev cX10_poke : ByteArray := prog_1_method_7_code
def yX10_poke : MethodName := ⟨RX10, "poke", "(III)Z"⟩
abbrev cX10_shared : ByteArray := prog_1_method_8_code
def yX10_shared : MethodName := ⟨RX10, "shared", "(I)I"⟩
abbrev cX10_part : ByteArray := prog_1_method_9_code
def yX10_part : MethodName := ⟨RX10, "part", "(III)Z"⟩
abbrev cX10_start : ByteArray := prog_1_method_10_code
def yX10_start : MethodName := ⟨RX10, "start", "(II)Z"⟩
abbrev cX10_run : ByteArray := prog_1_method_11_code
def yX10_run : MethodName := ⟨RX10, "run", "(I)I"⟩
abbrev cX10_now : ByteArray := prog_1_method_12_code
def yX10_now : MethodName := ⟨RX10, "now", "()I"⟩
abbrev cX10_register : ByteArray := prog_1_method_13_code
def yX10_register : MethodName := ⟨RX10, "register", "(II)I"⟩
abbrev cX10_state : ByteArray := prog_1_method_14_code
def yX10_state : MethodName := ⟨RX10, "state", "(II)I"⟩
abbrev cX10_trace : ByteArray := prog_1_method_15_code
def yX10_trace : MethodName := ⟨RX10, "trace", "(III)I"⟩
abbrev cX10_isThread : ByteArray := prog_1_method_16_code
def yX10_isThread : MethodName := ⟨RX10, "isThread", "(I)Z"⟩
abbrev cX10_isStoreWord : ByteArray := prog_1_method_17_code
def yX10_isStoreWord : MethodName := ⟨RX10, "isStoreWord", "(II)Z"⟩
abbrev cX10_isRegister : ByteArray := prog_1_method_18_code
def yX10_isRegister : MethodName := ⟨RX10, "isRegister", "(I)Z"⟩
def RX11 : String := "TimedThreadsModel"
def TX11 : u_T := fun k => match k with
  | 0 => ("TimedThreadsModel", "refusal", "I", false)
  | 1 => ("TimedThreadsModel", "wheel", "I", false)
  | 2 => ("TimedThreadsModel", "now", "I", false)
  | 3 => ("TimedThreadsModel", "text", "[C", false)
  | 4 => ("TimedThreadsModel", "length", "I", false)
  | 5 => ("TimedThreadsModel", "at", "I", false)
  | 6 => ("TimedThreadsModel", "fault", "I", false)
  | 7 => ("TimedThreadsModel", "faultLine", "I", false)
  | 8 => ("TimedThreadsModel", "line", "I", false)
  | 9 => ("TimedThreadsModel", "words", "I", false)
  | 10 => ("TimedThreadsModel", "labels", "I", false)
  | 11 => ("TimedThreadsModel", "targets", "I", false)
  | 12 => ("TimedThreadsModel", "wrong", "Z", false)
  | 13 => ("TimedThreadsModel", "unfit", "Z", false)
  | 14 => ("TimedThreadsModel", "code", "[I", false)
  | 15 => ("TimedThreadsModel", "label", "[J", false)
  | 16 => ("TimedThreadsModel", "labelWord", "[I", false)
  | 17 => ("TimedThreadsModel", "target", "[J", false)
  | 18 => ("TimedThreadsModel", "targetWord", "[I", false)
  | 19 => ("TimedThreadsModel", "targetLine", "[I", false)
  | 20 => ("TimedThreadsModel", "store", "[I", false)
  | 21 => ("TimedThreadsModel", "common", "[I", false)
  | 22 => ("TimedThreadsModel", "low", "[I", false)
  | 23 => ("TimedThreadsModel", "high", "[I", false)
  | 24 => ("TimedThreadsModel", "register", "[I", false)
  | 25 => ("TimedThreadsModel", "address", "[I", false)
  | 26 => ("TimedThreadsModel", "status", "[I", false)
  | 27 => ("TimedThreadsModel", "did", "[I", false)
  | 28 => ("TimedThreadsModel", "ready", "[I", false)
  | 29 => ("TimedThreadsModel", "timer", "[I", false)
  | _ => ("TimedThreadsModel", "trace", "[I", false)
def tyX11 : Nat → FieldType := fun k => match k with
  | 0 => .int
  | 1 => .int
  | 2 => .int
  | 3 => .array .char
  | 4 => .int
  | 5 => .int
  | 6 => .int
  | 7 => .int
  | 8 => .int
  | 9 => .int
  | 10 => .int
  | 11 => .int
  | 12 => .boolean
  | 13 => .boolean
  | 14 => .array .int
  | 15 => .array .long
  | 16 => .array .int
  | 17 => .array .long
  | 18 => .array .int
  | 19 => .array .int
  | 20 => .array .int
  | 21 => .array .int
  | 22 => .array .int
  | 23 => .array .int
  | 24 => .array .int
  | 25 => .array .int
  | 26 => .array .int
  | 27 => .array .int
  | 28 => .array .int
  | 29 => .array .int
  | _ => .array .int
abbrev wsX110 : List Cond := u_ws RX11 TX11 31
theorem nmX11 : ∀ a, a < 31 → ∀ b, b < 31 → a ≠ b → (TX11 a).2.1 ≠ (TX11 b).2.1 := by decide +kernel
theorem tyX11_ok : ∀ k, k < 31 → parseFieldDescriptor (TX11 k).2.2.1 = some (tyX11 k) := by decide +kernel
abbrev cX11_init : ByteArray := prog_13_method_1_code
def yX11_init : MethodName := ⟨RX11, "<init>", "(I)V"⟩
abbrev cX11_thrown : ByteArray := prog_13_method_2_code
def yX11_thrown : MethodName := ⟨RX11, "thrown", "()I"⟩
abbrev cX11_refuse : ByteArray := prog_13_method_3_code
def yX11_refuse : MethodName := ⟨RX11, "refuse", "(I)I"⟩
abbrev cX11_isCharacter : ByteArray := prog_13_method_4_code
def yX11_isCharacter : MethodName := ⟨RX11, "isCharacter", "(J)Z"⟩
abbrev cX11_type : ByteArray := prog_13_method_5_code
def yX11_type : MethodName := ⟨RX11, "type", "(JI)I"⟩
abbrev cX11_clear : ByteArray := prog_13_method_6_code
def yX11_clear : MethodName := ⟨RX11, "clear", "()I"⟩
abbrev cX11_character : ByteArray := prog_13_method_7_code
def yX11_character : MethodName := ⟨RX11, "character", "(I)I"⟩
abbrev cX11_isLetter : ByteArray := prog_13_method_8_code
def yX11_isLetter : MethodName := ⟨RX11, "isLetter", "(I)Z"⟩
abbrev cX11_isDigit : ByteArray := prog_13_method_9_code
def yX11_isDigit : MethodName := ⟨RX11, "isDigit", "(I)Z"⟩
abbrev cX11_skip : ByteArray := prog_13_method_10_code
def yX11_skip : MethodName := ⟨RX11, "skip", "()V"⟩
abbrev cX11_isEnd : ByteArray := prog_13_method_11_code
def yX11_isEnd : MethodName := ⟨RX11, "isEnd", "()Z"⟩
abbrev cX11_letters : ByteArray := prog_13_method_12_code
def yX11_letters : MethodName := ⟨RX11, "letters", "()J"⟩
abbrev cX11_need : ByteArray := prog_13_method_13_code
def yX11_need : MethodName := ⟨RX11, "need", "(I)V"⟩
abbrev cX11_takeRegister : ByteArray := prog_13_method_14_code
def yX11_takeRegister : MethodName := ⟨RX11, "takeRegister", "()I"⟩
abbrev cX11_number : ByteArray := prog_13_method_15_code
def yX11_number : MethodName := ⟨RX11, "number", "(JJ)J"⟩
abbrev cX11_lookup : ByteArray := prog_13_method_16_code
def yX11_lookup : MethodName := ⟨RX11, "lookup", "(J)I"⟩
abbrev cX11_immediate : ByteArray := prog_13_method_17_code
def yX11_immediate : MethodName := ⟨RX11, "immediate", "(I)I"⟩
abbrev cX11_storing : ByteArray := prog_13_method_18_code
def yX11_storing : MethodName := ⟨RX11, "storing", "(I)I"⟩
abbrev cX11_branching : ByteArray := prog_13_method_19_code
def yX11_branching : MethodName := ⟨RX11, "branching", "(I)I"⟩
abbrev cX11_jumping : ByteArray := prog_13_method_20_code
def yX11_jumping : MethodName := ⟨RX11, "jumping", "(I)I"⟩
abbrev cX11_distance : ByteArray := prog_13_method_21_code
def yX11_distance : MethodName := ⟨RX11, "distance", "(Z)I"⟩
abbrev cX11_pair : ByteArray := prog_13_method_22_code
def yX11_pair : MethodName := ⟨RX11, "pair", "(II)I"⟩
abbrev cX11_operands : ByteArray := prog_13_method_23_code
def yX11_operands : MethodName := ⟨RX11, "operands", "(I)I"⟩
abbrev cX11_labelOf : ByteArray := prog_13_method_24_code
def yX11_labelOf : MethodName := ⟨RX11, "labelOf", "(J)I"⟩
abbrev cX11_takeLine : ByteArray := prog_13_method_25_code
def yX11_takeLine : MethodName := ⟨RX11, "takeLine", "(I)V"⟩
abbrev cX11_link : ByteArray := prog_13_method_26_code
def yX11_link : MethodName := ⟨RX11, "link", "(I)V"⟩
abbrev cX11_assemble : ByteArray := prog_13_method_27_code
def yX11_assemble : MethodName := ⟨RX11, "assemble", "(II)I"⟩
abbrev cX11_fault : ByteArray := prog_13_method_28_code
def yX11_fault : MethodName := ⟨RX11, "fault", "(I)I"⟩
abbrev cX11_peek : ByteArray := prog_13_method_29_code
def yX11_peek : MethodName := ⟨RX11, "peek", "(II)I"⟩
abbrev cX11_poke : ByteArray := prog_13_method_30_code
def yX11_poke : MethodName := ⟨RX11, "poke", "(III)Z"⟩
abbrev cX11_shared : ByteArray := prog_13_method_31_code
def yX11_shared : MethodName := ⟨RX11, "shared", "(I)I"⟩
abbrev cX11_part : ByteArray := prog_13_method_32_code
def yX11_part : MethodName := ⟨RX11, "part", "(III)Z"⟩
abbrev cX11_isOwn : ByteArray := prog_13_method_33_code
def yX11_isOwn : MethodName := ⟨RX11, "isOwn", "(I)Z"⟩
abbrev cX11_isThere : ByteArray := prog_13_method_34_code
def yX11_isThere : MethodName := ⟨RX11, "isThere", "(III)Z"⟩
abbrev cX11_wordAt : ByteArray := prog_13_method_35_code
def yX11_wordAt : MethodName := ⟨RX11, "wordAt", "(II)I"⟩
abbrev cX11_put : ByteArray := prog_13_method_36_code
def yX11_put : MethodName := ⟨RX11, "put", "(III)V"⟩
abbrev cX11_start : ByteArray := prog_13_method_37_code
def yX11_start : MethodName := ⟨RX11, "start", "(II)Z"⟩
abbrev cX11_set : ByteArray := prog_13_method_38_code
def yX11_set : MethodName := ⟨RX11, "set", "(III)V"⟩
abbrev cX11_done : ByteArray := prog_13_method_39_code
def yX11_done : MethodName := ⟨RX11, "done", "(III)I"⟩
abbrev cX11_stop : ByteArray := prog_13_method_40_code
def yX11_stop : MethodName := ⟨RX11, "stop", "(I)I"⟩
abbrev cX11_isLess : ByteArray := prog_13_method_41_code
def yX11_isLess : MethodName := ⟨RX11, "isLess", "(II)Z"⟩
abbrev cX11_worked : ByteArray := prog_13_method_42_code
def yX11_worked : MethodName := ⟨RX11, "worked", "(IZII)I"⟩
abbrev cX11_goes : ByteArray := prog_13_method_43_code
def yX11_goes : MethodName := ⟨RX11, "goes", "(III)Z"⟩
abbrev cX11_first : ByteArray := prog_13_method_44_code
def yX11_first : MethodName := ⟨RX11, "first", "(I)I"⟩
abbrev cX11_moveWord : ByteArray := prog_13_method_45_code
def yX11_moveWord : MethodName := ⟨RX11, "moveWord", "(IIZ)I"⟩
abbrev cX11_calculate : ByteArray := prog_13_method_46_code
def yX11_calculate : MethodName := ⟨RX11, "calculate", "(IIZ)I"⟩
abbrev cX11_jump : ByteArray := prog_13_method_47_code
def yX11_jump : MethodName := ⟨RX11, "jump", "(IIZ)I"⟩
abbrev cX11_branch : ByteArray := prog_13_method_48_code
def yX11_branch : MethodName := ⟨RX11, "branch", "(II)I"⟩
abbrev cX11_clock : ByteArray := prog_13_method_49_code
def yX11_clock : MethodName := ⟨RX11, "clock", "(II)I"⟩
abbrev cX11_turn : ByteArray := prog_13_method_50_code
def yX11_turn : MethodName := ⟨RX11, "turn", "(I)I"⟩
abbrev cX11_run : ByteArray := prog_13_method_51_code
def yX11_run : MethodName := ⟨RX11, "run", "(I)I"⟩
abbrev cX11_now : ByteArray := prog_13_method_52_code
def yX11_now : MethodName := ⟨RX11, "now", "()I"⟩
abbrev cX11_register : ByteArray := prog_13_method_53_code
def yX11_register : MethodName := ⟨RX11, "register", "(II)I"⟩
abbrev cX11_state : ByteArray := prog_13_method_54_code
def yX11_state : MethodName := ⟨RX11, "state", "(II)I"⟩
abbrev cX11_trace : ByteArray := prog_13_method_55_code
def yX11_trace : MethodName := ⟨RX11, "trace", "(III)I"⟩
def RJx29ce0 : String := "java/lang/Enum"
def TJx29ce0 : u_T := fun k => match k with
  | _ => ("", "", "", false)
def tyJx29ce0 : Nat → FieldType := fun k => match k with
  | _ => .int
abbrev wsJx29ce00 : List Cond := u_ws RJx29ce0 TJx29ce0 0
theorem nmJx29ce0 : ∀ a, a < 0 → ∀ b, b < 0 → a ≠ b → (TJx29ce0 a).2.1 ≠ (TJx29ce0 b).2.1 := by decide +kernel
theorem tyJx29ce0_ok : ∀ k, k < 0 → parseFieldDescriptor (TJx29ce0 k).2.2.1 = some (tyJx29ce0 k) := by decide +kernel
def RJ9 : String := "java/lang/Math"
def TJ9 : u_T := fun k => match k with
  | _ => ("", "", "", false)
def tyJ9 : Nat → FieldType := fun k => match k with
  | _ => .int
abbrev wsJ90 : List Cond := u_ws RJ9 TJ9 0
theorem nmJ9 : ∀ a, a < 0 → ∀ b, b < 0 → a ≠ b → (TJ9 a).2.1 ≠ (TJ9 b).2.1 := by decide +kernel
theorem tyJ9_ok : ∀ k, k < 0 → parseFieldDescriptor (TJ9 k).2.2.1 = some (tyJ9 k) := by decide +kernel
abbrev cJ9_floorMod_7cf53 : ByteArray := prog_18_method_50_code
def yJ9_floorMod_7cf53 : MethodName := ⟨RJ9, "floorMod", "(II)I"⟩
abbrev cJ9_max_7cf53 : ByteArray := prog_18_method_65_code
def yJ9_max_7cf53 : MethodName := ⟨RJ9, "max", "(II)I"⟩
abbrev cJ9_max_f86c9 : ByteArray := prog_18_method_66_code
def yJ9_max_f86c9 : MethodName := ⟨RJ9, "max", "(JJ)J"⟩
abbrev cJ9_min_7cf53 : ByteArray := prog_18_method_69_code
def yJ9_min_7cf53 : MethodName := ⟨RJ9, "min", "(II)I"⟩
abbrev cJ9_min_f86c9 : ByteArray := prog_18_method_70_code
def yJ9_min_f86c9 : MethodName := ⟨RJ9, "min", "(JJ)J"⟩
def RJ0 : String := "java/lang/String"
def TJ0 : u_T := fun k => match k with
  | _ => ("", "", "", false)
def tyJ0 : Nat → FieldType := fun k => match k with
  | _ => .int
abbrev wsJ00 : List Cond := u_ws RJ0 TJ0 0
theorem nmJ0 : ∀ a, a < 0 → ∀ b, b < 0 → a ≠ b → (TJ0 a).2.1 ≠ (TJ0 b).2.1 := by decide +kernel
theorem tyJ0_ok : ∀ k, k < 0 → parseFieldDescriptor (TJ0 k).2.2.1 = some (tyJ0 k) := by decide +kernel
abbrev cJ0_length_8abf5 : ByteArray := prog_20_method_54_code
def yJ0_length_8abf5 : MethodName := ⟨RJ0, "length", "()I"⟩
abbrev cJ0_charAt_5068e : ByteArray := prog_20_method_56_code
def yJ0_charAt_5068e : MethodName := ⟨RJ0, "charAt", "(I)C"⟩
abbrev cJ0_coder_7d493 : ByteArray := prog_20_method_152_code
def yJ0_coder_7d493 : MethodName := ⟨RJ0, "coder", "()B"⟩
abbrev cJ0_isLatin1_aae02 : ByteArray := prog_20_method_154_code
def yJ0_isLatin1_aae02 : MethodName := ⟨RJ0, "isLatin1", "()Z"⟩
abbrev cJ0_checkIndex_df160 : ByteArray := prog_20_method_155_code
def yJ0_checkIndex_df160 : MethodName := ⟨RJ0, "checkIndex", "(II)V"⟩
def RJ1 : String := "java/lang/StringLatin1"
def TJ1 : u_T := fun k => match k with
  | _ => ("", "", "", false)
def tyJ1 : Nat → FieldType := fun k => match k with
  | _ => .int
abbrev wsJ10 : List Cond := u_ws RJ1 TJ1 0
theorem nmJ1 : ∀ a, a < 0 → ∀ b, b < 0 → a ≠ b → (TJ1 a).2.1 ≠ (TJ1 b).2.1 := by decide +kernel
theorem tyJ1_ok : ∀ k, k < 0 → parseFieldDescriptor (TJ1 k).2.2.1 = some (tyJ1 k) := by decide +kernel
abbrev cJ1_charAt_3b067 : ByteArray := prog_21_method_2_code
def yJ1_charAt_3b067 : MethodName := ⟨RJ1, "charAt", "([BI)C"⟩
def RJ2 : String := "java/lang/StringUTF16"
def TJ2 : u_T := fun k => match k with
  | _ => ("", "", "", false)
def tyJ2 : Nat → FieldType := fun k => match k with
  | _ => .int
abbrev wsJ20 : List Cond := u_ws RJ2 TJ2 0
theorem nmJ2 : ∀ a, a < 0 → ∀ b, b < 0 → a ≠ b → (TJ2 a).2.1 ≠ (TJ2 b).2.1 := by decide +kernel
theorem tyJ2_ok : ∀ k, k < 0 → parseFieldDescriptor (TJ2 k).2.2.1 = some (tyJ2 k) := by decide +kernel
abbrev cJ2_getChar_3b067 : ByteArray := prog_22_method_5_code
def yJ2_getChar_3b067 : MethodName := ⟨RJ2, "getChar", "([BI)C"⟩
abbrev cJ2_length_9d52b : ByteArray := prog_22_method_6_code
def yJ2_length_9d52b : MethodName := ⟨RJ2, "length", "([B)I"⟩
abbrev cJ2_charAt_3b067 : ByteArray := prog_22_method_83_code
def yJ2_charAt_3b067 : MethodName := ⟨RJ2, "charAt", "([BI)C"⟩
abbrev cJ2_checkIndex_2214a : ByteArray := prog_22_method_91_code
def yJ2_checkIndex_2214a : MethodName := ⟨RJ2, "checkIndex", "(I[B)V"⟩
def RJ10 : String := "java/lang/System"
def TJ10 : u_T := fun k => match k with
  | _ => ("", "", "", false)
def tyJ10 : Nat → FieldType := fun k => match k with
  | _ => .int
abbrev wsJ100 : List Cond := u_ws RJ10 TJ10 0
theorem nmJ10 : ∀ a, a < 0 → ∀ b, b < 0 → a ≠ b → (TJ10 a).2.1 ≠ (TJ10 b).2.1 := by decide +kernel
theorem tyJ10_ok : ∀ k, k < 0 → parseFieldDescriptor (TJ10 k).2.2.1 = some (tyJ10 k) := by decide +kernel
def RJ3 : String := "jdk/internal/util/Preconditions"
def TJ3 : u_T := fun k => match k with
  | _ => ("", "", "", false)
def tyJ3 : Nat → FieldType := fun k => match k with
  | _ => .int
abbrev wsJ30 : List Cond := u_ws RJ3 TJ3 0
theorem nmJ3 : ∀ a, a < 0 → ∀ b, b < 0 → a ≠ b → (TJ3 a).2.1 ≠ (TJ3 b).2.1 := by decide +kernel
theorem tyJ3_ok : ∀ k, k < 0 → parseFieldDescriptor (TJ3 k).2.2.1 = some (tyJ3 k) := by decide +kernel
abbrev cJ3_checkIndex_8e157 : ByteArray := prog_26_method_11_code
def yJ3_checkIndex_8e157 : MethodName := ⟨RJ3, "checkIndex", "(IILjava/util/function/BiFunction;)I"⟩
def RL : String := "TimedThreadsLaw"
abbrev cL_cell : ByteArray := method_2_code
def yL_cell : MethodName := ⟨RL, "cell", "([II)I"⟩
abbrev cL_type : ByteArray := method_3_code
def yL_type : MethodName := ⟨RL, "type", "(LTimedThreads;JI[J)I"⟩
abbrev cL_assemble : ByteArray := method_4_code
def yL_assemble : MethodName := ⟨RL, "assemble", "(LTimedThreads;II[J)I"⟩
abbrev cL_law : ByteArray := code
def yL_law : MethodName := ⟨RL, "law", "([I)Z"⟩
def wsJ0_checkIndex_df160 : List Cond := .code yJ0_checkIndex_df160 cJ0_checkIndex_df160 2 none :: ([.fieldLink RJ0 1053 "jdk/internal/util/Preconditions" "SIOOBE_FORMATTER" "Ljava/util/function/BiFunction;", .methodLink RJ0 1059 yJ3_checkIndex_8e157, .static yJ3_checkIndex_8e157, .initialized RJ3, .code yJ3_checkIndex_8e157 cJ3_checkIndex_8e157 3 (some .int)])
def wsX10_assemble_r10 : List Cond := [Cond.fieldLink RX3 15 "TimedThreads$Labels" "places" "[I", Cond.methodLink RX0 65 yX0_setFault, Cond.instanceMethod yX0_setFault, Cond.selects RX0 yX0_setFault yX0_setFault, Cond.code yX0_setFault cX0_setFault 3 none, Cond.methodLink RX0 69 yX0_keepLine, Cond.instanceMethod yX0_keepLine, Cond.selects RX0 yX0_keepLine yX0_keepLine, Cond.code yX0_keepLine cX0_keepLine 2 none, Cond.fieldLink RX0 9 "TimedThreads$Assembler" "words" "[I", Cond.fieldLink RX0 15 "TimedThreads$Assembler" "targets" "[J", Cond.fieldLink RX0 19 "TimedThreads$Assembler" "lines" "[I", Cond.methodLink RX0 114 yX3_add, Cond.instanceMethod yX3_add, Cond.selects RX3 yX3_add yX3_add, Cond.code yX3_add cX3_add 4 none, Cond.methodLink RX0 73 yX0_resolveTargets, Cond.instanceMethod yX0_resolveTargets, Cond.selects RX0 yX0_resolveTargets yX0_resolveTargets, Cond.code yX0_resolveTargets cX0_resolveTargets 5 none, Cond.methodLink RX0 195 yX1_op, Cond.static yX1_op, Cond.code yX1_op cX1_op 1 (some .int)]
abbrev vwCl : List vw_C := [(RX0, TX0, 15), (RX2, TX2, 4), (RX3, TX3, 3), (RX6, TX6, 2), (RX7, TX7, 2), (RX8, TX8, 12), (RX9, TX9, 6), (RX10, TX10, 5), (RX11, TX11, 31)]
end
section
def TT0 : List Cond := [Cond.classLink RL 8 RX10, Cond.instantiable RX10 5, Cond.initialized RX10, Cond.classLink RL 32 RX11, Cond.instantiable RX11 31, Cond.initialized RX11, Cond.arrayClass .long, Cond.constantLong RL 35 (4294967295), Cond.methodLink RL 23 yL_cell, Cond.static yL_cell, Cond.initialized RL, Cond.code yL_cell cL_cell 2 (some .int), Cond.methodLink RL 29 yX10_init, Cond.instanceMethod yX10_init, Cond.code yX10_init cX10_init 3 none, Cond.methodLink RX10 1 objectInit, Cond.instanceMethod objectInit, Cond.code objectInit ⟨#[0xb1]⟩ 1 none, Cond.classLink RX10 7 RX6, Cond.instantiable RX6 2, Cond.initialized RX6, Cond.methodLink RX10 11 Lib.Math.min.name, Cond.static Lib.Math.min.name, Cond.initialized "java/lang/Math"]
def TT1 : List Cond := [Cond.code Lib.Math.min.name Lib.Math.min.code 2 (some .int), Cond.methodLink RX10 17 Lib.Math.max.name, Cond.static Lib.Math.max.name, Cond.code Lib.Math.max.name Lib.Math.max.code 2 (some .int), Cond.fieldLink RX10 23 "TimedThreads" "memory" "LTimedThreads$SharedMemory;", Cond.classLink RX10 27 RX8, Cond.fieldLink RX10 29 "TimedThreads" "threads" "[LTimedThreads$TimedThread;", Cond.instantiable RX8 12, Cond.initialized RX8, Cond.classLink RX10 34 RX7, Cond.instantiable RX7 2, Cond.initialized RX7, Cond.fieldLink RX10 37 "TimedThreads" "text" "LTimedThreads$Text;", Cond.classLink RX10 41 RX0, Cond.instantiable RX0 15, Cond.initialized RX0, Cond.fieldLink RX10 44 "TimedThreads" "assembler" "LTimedThreads$Assembler;", Cond.methodLink RX10 20 yX6_init, Cond.instanceMethod yX6_init, Cond.code yX6_init cX6_init 2 none, Cond.methodLink RX6 3 objectInit, Cond.arrayClass .int, Cond.fieldLink RX6 9 "TimedThreads$SharedMemory" "words" "[I", Cond.fieldLink RX6 15 "TimedThreads$SharedMemory" "wheel" "I"]
def TT2 : List Cond := [Cond.methodLink RX10 33 yX8_init, Cond.instanceMethod yX8_init, Cond.code yX8_init cX8_init 2 none, Cond.methodLink RX8 3 objectInit, Cond.fieldLink RX8 9 "TimedThreads$TimedThread" "registers" "[I", Cond.fieldLink RX8 15 "TimedThreads$TimedThread" "store" "[I", Cond.classLink RX8 18 RX2, Cond.instantiable RX2 4, Cond.initialized RX2, Cond.fieldLink RX8 21 "TimedThreads$TimedThread" "history" "LTimedThreads$History;", Cond.fieldLink RX8 25 "TimedThreads$TimedThread" "timers" "[I", Cond.fieldLink RX8 28 "TimedThreads$TimedThread" "status" "I", Cond.fieldLink RX8 32 "TimedThreads$TimedThread" "number" "I", Cond.instanceMethod yX2_init, Cond.code yX2_init cX2_init 1 none, Cond.methodLink RX2 3 objectInit, Cond.fieldLink RX2 9 "TimedThreads$History" "addresses" "[I", Cond.fieldLink RX2 15 "TimedThreads$History" "cycles" "[I", Cond.fieldLink RX2 18 "TimedThreads$History" "retirements" "[I", Cond.instanceMethod yX7_init, Cond.code yX7_init cX7_init 1 none, Cond.methodLink RX7 3 objectInit, Cond.arrayClass .char, Cond.fieldLink RX7 9 "TimedThreads$Text" "characters" "[C"]
def TT3 : List Cond := [Cond.instanceMethod yX0_init, Cond.code yX0_init cX0_init 1 none, Cond.methodLink RX0 3 objectInit, Cond.fieldLink RX0 9 "TimedThreads$Assembler" "words" "[I", Cond.fieldLink RX0 15 "TimedThreads$Assembler" "targets" "[J", Cond.fieldLink RX0 19 "TimedThreads$Assembler" "lines" "[I", Cond.classLink RX0 22 RX3, Cond.instantiable RX3 3, Cond.initialized RX3, Cond.fieldLink RX0 25 "TimedThreads$Assembler" "labels" "LTimedThreads$Labels;", Cond.classLink RX0 29 RX9, Cond.instantiable RX9 6, Cond.initialized RX9, Cond.fieldLink RX0 32 "TimedThreads$Assembler" "tokens" "LTimedThreads$Tokens;", Cond.instanceMethod yX3_init, Cond.code yX3_init cX3_init 1 none, Cond.methodLink RX3 3 objectInit, Cond.fieldLink RX3 9 "TimedThreads$Labels" "keys" "[J", Cond.fieldLink RX3 15 "TimedThreads$Labels" "places" "[I", Cond.instanceMethod yX9_init, Cond.code yX9_init cX9_init 1 none, Cond.methodLink RX9 3 objectInit, Cond.fieldLink RX9 9 "TimedThreads$Tokens" "kinds" "[C", Cond.fieldLink RX9 15 "TimedThreads$Tokens" "values" "[J"]
def TT4 : List Cond := [Cond.methodLink RL 34 yX11_init, Cond.instanceMethod yX11_init, Cond.code yX11_init cX11_init 2 none, Cond.methodLink RX11 1 objectInit, Cond.fieldLink RX11 7 "TimedThreadsModel" "text" "[C", Cond.fieldLink RX11 13 "TimedThreadsModel" "code" "[I", Cond.fieldLink RX11 17 "TimedThreadsModel" "label" "[J", Cond.fieldLink RX11 21 "TimedThreadsModel" "labelWord" "[I", Cond.fieldLink RX11 24 "TimedThreadsModel" "target" "[J", Cond.fieldLink RX11 27 "TimedThreadsModel" "targetWord" "[I", Cond.fieldLink RX11 30 "TimedThreadsModel" "targetLine" "[I", Cond.fieldLink RX11 33 "TimedThreadsModel" "store" "[I", Cond.fieldLink RX11 36 "TimedThreadsModel" "common" "[I", Cond.fieldLink RX11 39 "TimedThreadsModel" "low" "[I", Cond.fieldLink RX11 42 "TimedThreadsModel" "high" "[I", Cond.fieldLink RX11 45 "TimedThreadsModel" "register" "[I", Cond.fieldLink RX11 48 "TimedThreadsModel" "address" "[I", Cond.fieldLink RX11 51 "TimedThreadsModel" "status" "[I", Cond.fieldLink RX11 54 "TimedThreadsModel" "did" "[I", Cond.fieldLink RX11 57 "TimedThreadsModel" "ready" "[I", Cond.fieldLink RX11 60 "TimedThreadsModel" "timer" "[I", Cond.fieldLink RX11 63 "TimedThreadsModel" "trace" "[I", Cond.fieldLink RX11 66 "TimedThreadsModel" "wheel" "I", Cond.methodLink RL 37 yL_type]
def TT5 : List Cond := [Cond.static yL_type, Cond.codeWith yL_type cL_type 6 (some .int) [(0, 11, 14, 13), (0, 11, 18, 15)], Cond.classLink RL 13 "java/lang/IllegalArgumentException", Cond.classLink RL 15 "java/lang/IllegalStateException", Cond.methodLink RL 7 yX10_type, Cond.instanceMethod yX10_type, Cond.selects RX10 yX10_type yX10_type, Cond.code yX10_type cX10_type 4 (some .int), Cond.classLink RX10 52 "java/lang/IllegalArgumentException", Cond.initialized "java/lang/IllegalArgumentException", Cond.classLink RX10 59 "java/lang/IllegalStateException", Cond.initialized "java/lang/IllegalStateException", Cond.fieldLink RX10 55 "TimedThreads$Text" "length" "I", Cond.methodLink RX10 48 yX7_canBeTyped, Cond.static yX7_canBeTyped, Cond.code yX7_canBeTyped cX7_canBeTyped 5 (some .boolean), Cond.methodLink RX7 15 yX7_byteOf, Cond.static yX7_byteOf, Cond.code yX7_byteOf cX7_byteOf 3 (some .char), Cond.constantLong RX7 23 (255), Cond.methodLink RX10 62 yX7_add, Cond.instanceMethod yX7_add, Cond.selects RX7 yX7_add yX7_add, Cond.code yX7_add cX7_add 5 none]
def TT6 : List Cond := [Cond.fieldLink RX7 19 "TimedThreads$Text" "length" "I", Cond.methodLink RL 40 yX11_type, Cond.instanceMethod yX11_type, Cond.selects RX11 yX11_type yX11_type, Cond.code yX11_type cX11_type 6 (some .int), Cond.constantLong RX11 79 (255), Cond.fieldLink RX11 85 "TimedThreadsModel" "length" "I", Cond.fieldLink RX11 70 "TimedThreadsModel" "refusal" "I", Cond.methodLink RX11 81 yX11_isCharacter, Cond.static yX11_isCharacter, Cond.code yX11_isCharacter cX11_isCharacter 2 (some .boolean), Cond.constantLong RX11 73 (10), Cond.constantLong RX11 75 (32), Cond.constantLong RX11 77 (126), Cond.methodLink RL 41 yX11_thrown, Cond.instanceMethod yX11_thrown, Cond.selects RX11 yX11_thrown yX11_thrown, Cond.code yX11_thrown cX11_thrown 1 (some .int), Cond.methodLink RL 45 yX10_clear, Cond.instanceMethod yX10_clear, Cond.selects RX10 yX10_clear yX10_clear, Cond.code yX10_clear cX10_clear 2 (some .int), Cond.methodLink RL 48 yX11_clear, Cond.instanceMethod yX11_clear]
def TT7 : List Cond := [Cond.selects RX11 yX11_clear yX11_clear, Cond.code yX11_clear cX11_clear 2 (some .int), Cond.methodLink RL 49 yL_assemble, Cond.static yL_assemble, Cond.codeWith yL_assemble cL_assemble 5 (some .int) [(0, 10, 13, 21), (0, 10, 17, 13)], Cond.classLink RL 21 "java/util/NoSuchElementException", Cond.methodLink RL 17 yX10_assemble, Cond.instanceMethod yX10_assemble, Cond.selects RX10 yX10_assemble yX10_assemble, Cond.code yX10_assemble cX10_assemble 3 (some .int), Cond.classLink RX10 70 "java/util/NoSuchElementException", Cond.initialized "java/util/NoSuchElementException", Cond.fieldLink RX10 77 "TimedThreads$Assembler" "faultKind" "I", Cond.fieldLink RX10 80 "TimedThreads$Assembler" "words" "[I", Cond.fieldLink RX10 84 "TimedThreads$TimedThread" "store" "[I", Cond.fieldLink RX10 87 "TimedThreads$Assembler" "count" "I", Cond.methodLink RX10 90 arraycopyName, Cond.native arraycopyName, Cond.static arraycopyName, Cond.initialized "java/lang/System", Cond.methodLink RX10 66 yX10_isStoreWord, Cond.static yX10_isStoreWord, Cond.code yX10_isStoreWord cX10_isStoreWord 2 (some .boolean), Cond.methodLink RX10 100 yX10_isThread]
def TT8 : List Cond := [Cond.static yX10_isThread, Cond.code yX10_isThread cX10_isThread 1 (some .boolean), Cond.methodLink RX10 73 yX0_read, Cond.instanceMethod yX0_read, Cond.selects RX0 yX0_read yX0_read, Cond.code yX0_read cX0_read 5 none, Cond.fieldLink RX0 40 "TimedThreads$Assembler" "at" "I", Cond.fieldLink RX0 44 "TimedThreads$Assembler" "count" "I", Cond.fieldLink RX0 47 "TimedThreads$Labels" "count" "I", Cond.fieldLink RX0 48 "TimedThreads$Assembler" "faultKind" "I", Cond.fieldLink RX0 51 "TimedThreads$Assembler" "faultLine" "I", Cond.methodLink RX0 36 yX9_split, Cond.instanceMethod yX9_split, Cond.selects RX9 yX9_split yX9_split, Cond.code yX9_split cX9_split 4 none, Cond.fieldLink RX9 19 "TimedThreads$Text" "characters" "[C", Cond.fieldLink RX9 24 "TimedThreads$Tokens" "characters" "[C", Cond.fieldLink RX9 25 "TimedThreads$Text" "length" "I", Cond.fieldLink RX9 29 "TimedThreads$Tokens" "length" "I", Cond.fieldLink RX9 30 "TimedThreads$Tokens" "count" "I", Cond.fieldLink RX9 33 "TimedThreads$Tokens" "at" "I", Cond.methodLink RX9 36 yX9_isLetter, Cond.static yX9_isLetter, Cond.code yX9_isLetter cX9_isLetter 1 (some .boolean)]
def TT9 : List Cond := [Cond.methodLink RX9 40 yX9_takeLetters, Cond.instanceMethod yX9_takeLetters, Cond.selects RX9 yX9_takeLetters yX9_takeLetters, Cond.code yX9_takeLetters cX9_takeLetters 5 none, Cond.methodLink RX9 58 yX9_withLetter, Cond.static yX9_withLetter, Cond.code yX9_withLetter cX9_withLetter 3 (some .long), Cond.methodLink RX9 43 yX9_isDigit, Cond.static yX9_isDigit, Cond.code yX9_isDigit cX9_isDigit 1 (some .boolean), Cond.methodLink RX9 62 yX9_takeRegister, Cond.instanceMethod yX9_takeRegister, Cond.selects RX9 yX9_takeRegister yX9_takeRegister, Cond.code yX9_takeRegister cX9_takeRegister 4 none, Cond.constantLong RX9 69 (16), Cond.methodLink RX9 65 yX9_takeDigits, Cond.instanceMethod yX9_takeDigits, Cond.selects RX9 yX9_takeDigits yX9_takeDigits, Cond.code yX9_takeDigits cX9_takeDigits 4 (some .long), Cond.constantLong RX9 71 (10), Cond.constantLong RX9 73 (1099511627776), Cond.methodLink RX9 54 yX9_add, Cond.instanceMethod yX9_add, Cond.selects RX9 yX9_add yX9_add]
def TT10 : List Cond := [Cond.code yX9_add cX9_add 4 none, Cond.methodLink RX9 46 yX9_takeNumber, Cond.instanceMethod yX9_takeNumber, Cond.selects RX9 yX9_takeNumber yX9_takeNumber, Cond.code yX9_takeNumber cX9_takeNumber 5 none, Cond.methodLink RX9 50 yX9_takeMark, Cond.instanceMethod yX9_takeMark, Cond.selects RX9 yX9_takeMark yX9_takeMark, Cond.code yX9_takeMark cX9_takeMark 2 none, Cond.methodLink RX0 54 yX9_size, Cond.instanceMethod yX9_size, Cond.selects RX9 yX9_size yX9_size, Cond.code yX9_size cX9_size 1 (some .int), Cond.methodLink RX0 58 yX0_readLine, Cond.instanceMethod yX0_readLine, Cond.selects RX0 yX0_readLine yX0_readLine, Cond.code yX0_readLine cX0_readLine 1 none, Cond.fieldLink RX0 76 "TimedThreads$Assembler" "label" "J", Cond.fieldLink RX0 80 "TimedThreads$Assembler" "hasWord" "Z", Cond.fieldLink RX0 84 "TimedThreads$Assembler" "word" "I", Cond.fieldLink RX0 87 "TimedThreads$Assembler" "target" "J", Cond.fieldLink RX0 90 "TimedThreads$Assembler" "malformed" "Z", Cond.fieldLink RX0 93 "TimedThreads$Assembler" "misfit" "Z", Cond.methodLink RX0 96 yX9_kindAt]
def TT11 : List Cond := [Cond.instanceMethod yX9_kindAt, Cond.selects RX9 yX9_kindAt yX9_kindAt, Cond.code yX9_kindAt cX9_kindAt 2 (some .char), Cond.methodLink RX0 100 yX9_valueAt, Cond.instanceMethod yX9_valueAt, Cond.selects RX9 yX9_valueAt yX9_valueAt, Cond.code yX9_valueAt cX9_valueAt 2 (some .long), Cond.methodLink RX0 104 yX0_mnemonicOf, Cond.static yX0_mnemonicOf, Cond.code yX0_mnemonicOf cX0_mnemonicOf 3 (some .int), Cond.fieldLink RX0 122 "TimedThreads$Mnemonic" "key" "J", Cond.methodLink RX0 108 yX0_readInstruction, Cond.instanceMethod yX0_readInstruction, Cond.selects RX0 yX0_readInstruction yX0_readInstruction, Cond.code yX0_readInstruction cX0_readInstruction 4 none, Cond.fieldLink RX0 127 "TimedThreads$Mnemonic" "bits" "I", Cond.fieldLink RX0 130 "TimedThreads$Mnemonic" "pieces" "Ljava/lang/String;", Cond.methodLink RX0 134 yJ0_length_8abf5, Cond.instanceMethod yJ0_length_8abf5, Cond.selects RJ0 yJ0_length_8abf5 yJ0_length_8abf5, Cond.initialized RJ0, Cond.code yJ0_length_8abf5 cJ0_length_8abf5 1 (some .int), Cond.fieldLink RJ0 9 "java/lang/String" "value" "[B", Cond.methodLink RJ0 335 yJ0_coder_7d493]
def TT12 : List Cond := [Cond.instanceMethod yJ0_coder_7d493, Cond.selects RJ0 yJ0_coder_7d493 yJ0_coder_7d493, Cond.code yJ0_coder_7d493 cJ0_coder_7d493 1 (some .byte), Cond.fieldLink RJ0 38 "java/lang/String" "COMPACT_STRINGS" "Z", Cond.fieldLink RJ0 15 "java/lang/String" "coder" "B", Cond.methodLink RX0 139 yJ0_charAt_5068e, Cond.instanceMethod yJ0_charAt_5068e, Cond.selects RJ0 yJ0_charAt_5068e yJ0_charAt_5068e, Cond.code yJ0_charAt_5068e cJ0_charAt_5068e 2 (some .char), Cond.methodLink RJ0 492 yJ0_isLatin1_aae02, Cond.instanceMethod yJ0_isLatin1_aae02, Cond.selects RJ0 yJ0_isLatin1_aae02 yJ0_isLatin1_aae02, Cond.code yJ0_isLatin1_aae02 cJ0_isLatin1_aae02 1 (some .boolean), Cond.methodLink RJ0 495 yJ1_charAt_3b067, Cond.static yJ1_charAt_3b067, Cond.initialized RJ1, Cond.code yJ1_charAt_3b067 cJ1_charAt_3b067 2 (some .char), Cond.methodLink RJ1 9 yJ0_checkIndex_df160, Cond.static yJ0_checkIndex_df160, Cond.code yJ0_checkIndex_df160 cJ0_checkIndex_df160 2 none, Cond.fieldLink RJ0 1053 "jdk/internal/util/Preconditions" "SIOOBE_FORMATTER" "Ljava/util/function/BiFunction;", Cond.methodLink RJ0 1059 yJ3_checkIndex_8e157, Cond.static yJ3_checkIndex_8e157, Cond.initialized RJ3]
def TT13 : List Cond := [Cond.code yJ3_checkIndex_8e157 cJ3_checkIndex_8e157 3 (some .int), Cond.methodLink RJ0 498 yJ2_charAt_3b067, Cond.static yJ2_charAt_3b067, Cond.initialized RJ2, Cond.code yJ2_charAt_3b067 cJ2_charAt_3b067 2 (some .char), Cond.methodLink RJ2 67 yJ2_checkIndex_2214a, Cond.static yJ2_checkIndex_2214a, Cond.code yJ2_checkIndex_2214a cJ2_checkIndex_2214a 2 none, Cond.methodLink RJ2 48 yJ2_length_9d52b, Cond.static yJ2_length_9d52b, Cond.code yJ2_length_9d52b cJ2_length_9d52b 1 (some .int), Cond.methodLink RJ2 414 yJ0_checkIndex_df160, Cond.methodLink RJ2 71 yJ2_getChar_3b067, Cond.static yJ2_getChar_3b067, Cond.code yJ2_getChar_3b067 cJ2_getChar_3b067 2 (some .char), Cond.fieldLink RJ2 44 "java/lang/StringUTF16" "$assertionsDisabled" "Z", Cond.fieldLink RJ2 59 "java/lang/StringUTF16" "HI_BYTE_SHIFT" "I", Cond.fieldLink RJ2 63 "java/lang/StringUTF16" "LO_BYTE_SHIFT" "I", Cond.methodLink RX0 142 yX0_readPiece, Cond.instanceMethod yX0_readPiece, Cond.selects RX0 yX0_readPiece yX0_readPiece, Cond.code yX0_readPiece cX0_readPiece 5 none, Cond.methodLink RX0 146 yX0_kindOf, Cond.static yX0_kindOf]
def TT14 : List Cond := [Cond.code yX0_kindOf cX0_kindOf 1 (some .char), Cond.methodLink RX0 150 yX0_putPiece, Cond.instanceMethod yX0_putPiece, Cond.selects RX0 yX0_putPiece yX0_putPiece, Cond.code yX0_putPiece cX0_putPiece 4 none, Cond.constantLong RX0 154 (-2048), Cond.constantLong RX0 156 (2047), Cond.constantLong RX0 167 (31), Cond.constantLong RX0 169 (1048575), Cond.constantLong RX0 171 (3), Cond.constantLong RX0 173 (-2147483648), Cond.constantLong RX0 175 (4294967295), Cond.constantLong RX0 181 (-4096), Cond.constantLong RX0 183 (4094), Cond.constantLong RX0 188 (-1048576), Cond.constantLong RX0 190 (1048574), Cond.methodLink RX0 158 yX0_fitted, Cond.instanceMethod yX0_fitted, Cond.selects RX0 yX0_fitted yX0_fitted, Cond.code yX0_fitted cX0_fitted 7 (some .int), Cond.methodLink RX0 162 yX1_bitsOfS, Cond.static yX1_bitsOfS, Cond.initialized RX1, Cond.code yX1_bitsOfS cX1_bitsOfS 1 (some .int)]
def TT15 : List Cond := [Cond.methodLink RX0 177 yX0_noteOdd, Cond.instanceMethod yX0_noteOdd, Cond.selects RX0 yX0_noteOdd yX0_noteOdd, Cond.code yX0_noteOdd cX0_noteOdd 3 none, Cond.methodLink RX0 185 yX1_bitsOfB, Cond.static yX1_bitsOfB, Cond.code yX1_bitsOfB cX1_bitsOfB 1 (some .int), Cond.methodLink RX0 192 yX1_bitsOfJ, Cond.static yX1_bitsOfJ, Cond.code yX1_bitsOfJ cX1_bitsOfJ 1 (some .int), Cond.constant RX1 15 (1044480), Cond.methodLink RX0 61 yX0_faultOfLine, Cond.instanceMethod yX0_faultOfLine, Cond.selects RX0 yX0_faultOfLine yX0_faultOfLine, Cond.code yX0_faultOfLine cX0_faultOfLine 2 (some .int), Cond.methodLink RX0 111 yX3_find, Cond.instanceMethod yX3_find, Cond.selects RX3 yX3_find yX3_find, Cond.code yX3_find cX3_find 4 (some .int), Cond.fieldLink RX3 19 "TimedThreads$Labels" "count" "I", Cond.methodLink RX0 65 yX0_setFault, Cond.instanceMethod yX0_setFault, Cond.selects RX0 yX0_setFault yX0_setFault, Cond.code yX0_setFault cX0_setFault 3 none]
def TT16 : List Cond := [Cond.methodLink RX0 69 yX0_keepLine, Cond.instanceMethod yX0_keepLine, Cond.selects RX0 yX0_keepLine yX0_keepLine, Cond.code yX0_keepLine cX0_keepLine 2 none, Cond.methodLink RX0 114 yX3_add, Cond.instanceMethod yX3_add, Cond.selects RX3 yX3_add yX3_add, Cond.code yX3_add cX3_add 4 none, Cond.methodLink RX0 73 yX0_resolveTargets, Cond.instanceMethod yX0_resolveTargets, Cond.selects RX0 yX0_resolveTargets yX0_resolveTargets, Cond.code yX0_resolveTargets cX0_resolveTargets 5 none, Cond.methodLink RX0 195 yX1_op, Cond.static yX1_op, Cond.code yX1_op cX1_op 1 (some .int), Cond.methodLink RL 52 yX11_assemble, Cond.instanceMethod yX11_assemble, Cond.selects RX11 yX11_assemble yX11_assemble, Cond.code yX11_assemble cX11_assemble 5 (some .int), Cond.fieldLink RX11 88 "TimedThreadsModel" "at" "I", Cond.fieldLink RX11 205 "TimedThreadsModel" "line" "I", Cond.fieldLink RX11 202 "TimedThreadsModel" "words" "I", Cond.fieldLink RX11 256 "TimedThreadsModel" "labels" "I", Cond.fieldLink RX11 199 "TimedThreadsModel" "targets" "I"]
def TT17 : List Cond := [Cond.fieldLink RX11 273 "TimedThreadsModel" "fault" "I", Cond.fieldLink RX11 276 "TimedThreadsModel" "faultLine" "I", Cond.methodLink RX11 279 yX11_refuse, Cond.instanceMethod yX11_refuse, Cond.selects RX11 yX11_refuse yX11_refuse, Cond.code yX11_refuse cX11_refuse 2 (some .int), Cond.methodLink RX11 282 yX11_takeLine, Cond.instanceMethod yX11_takeLine, Cond.selects RX11 yX11_takeLine yX11_takeLine, Cond.code yX11_takeLine cX11_takeLine 10 none, Cond.fieldLink RX11 102 "TimedThreadsModel" "wrong" "Z", Cond.fieldLink RX11 111 "TimedThreadsModel" "unfit" "Z", Cond.methodLink RX11 95 yX11_skip, Cond.instanceMethod yX11_skip, Cond.selects RX11 yX11_skip yX11_skip, Cond.code yX11_skip cX11_skip 1 none, Cond.methodLink RX11 91 yX11_character, Cond.instanceMethod yX11_character, Cond.selects RX11 yX11_character yX11_character, Cond.code yX11_character cX11_character 2 (some .int), Cond.methodLink RX11 195 yX11_letters, Cond.instanceMethod yX11_letters, Cond.selects RX11 yX11_letters yX11_letters, Cond.code yX11_letters cX11_letters 4 (some .long)]
def TT18 : List Cond := [Cond.methodLink RX11 98 yX11_isLetter, Cond.static yX11_isLetter, Cond.code yX11_isLetter cX11_isLetter 1 (some .boolean), Cond.methodLink RX11 259 yX11_labelOf, Cond.instanceMethod yX11_labelOf, Cond.selects RX11 yX11_labelOf yX11_labelOf, Cond.code yX11_labelOf cX11_labelOf 5 (some .int), Cond.methodLink RX11 263 yX11_lookup, Cond.static yX11_lookup, Cond.code yX11_lookup cX11_lookup 2 (some .int), Cond.constantLong RX11 114 (6911340), Cond.constantLong RX11 116 (7102826), Cond.constantLong RX11 118 (1919705450), Cond.constantLong RX11 120 (7431522), Cond.constantLong RX11 122 (6647394), Cond.constantLong RX11 124 (7629922), Cond.constantLong RX11 126 (6645602), Cond.constantLong RX11 128 (1970564194), Cond.constantLong RX11 130 (1969579874), Cond.constantLong RX11 132 (30572), Cond.constantLong RX11 134 (25196), Cond.constantLong RX11 136 (7692908), Cond.constantLong RX11 138 (30579), Cond.constantLong RX11 140 (25203)]
def TT19 : List Cond := [Cond.constantLong RX11 142 (1768186977), Cond.constantLong RX11 144 (1769237619), Cond.constantLong RX11 146 (504280411251), Cond.constantLong RX11 148 (1769107320), Cond.constantLong RX11 150 (6910575), Cond.constantLong RX11 152 (1768189537), Cond.constantLong RX11 154 (1768713331), Cond.constantLong RX11 156 (1768714867), Cond.constantLong RX11 158 (1767993971), Cond.constant RX11 160 (534840), Cond.constantLong RX11 161 (6579297), Cond.constantLong RX11 163 (7105651), Cond.constantLong RX11 165 (7629939), Cond.constantLong RX11 167 (1970564211), Cond.constantLong RX11 169 (7499640), Cond.constantLong RX11 171 (7107187), Cond.constantLong RX11 173 (29295), Cond.constantLong RX11 175 (6581857), Cond.constantLong RX11 177 (6452595), Cond.constant RX11 179 (525105), Cond.constantLong RX11 180 (6386291), Cond.constant RX11 182 (535345), Cond.constantLong RX11 183 (1684104548), Cond.constantLong RX11 185 (435610155363)]
def TT20 : List Cond := [Cond.constantLong RX11 187 (1953259880), Cond.constantLong RX11 189 (1685221239), Cond.methodLink RX11 266 yX11_operands, Cond.instanceMethod yX11_operands, Cond.selects RX11 yX11_operands yX11_operands, Cond.code yX11_operands cX11_operands 6 (some .int), Cond.constantLong RX11 232 (31), Cond.constantLong RX11 234 (-2048), Cond.constantLong RX11 236 (2047), Cond.constantLong RX11 248 (1048575), Cond.constantLong RX11 250 (3), Cond.constantLong RX11 252 (-2147483648), Cond.constantLong RX11 254 (4294967295), Cond.methodLink RX11 228 yX11_pair, Cond.instanceMethod yX11_pair, Cond.selects RX11 yX11_pair yX11_pair, Cond.code yX11_pair cX11_pair 5 (some .int), Cond.methodLink RX11 220 yX11_takeRegister, Cond.instanceMethod yX11_takeRegister, Cond.selects RX11 yX11_takeRegister yX11_takeRegister, Cond.code yX11_takeRegister cX11_takeRegister 2 (some .int), Cond.methodLink RX11 106 yX11_isDigit, Cond.static yX11_isDigit, Cond.code yX11_isDigit cX11_isDigit 1 (some .boolean)]
def TT21 : List Cond := [Cond.methodLink RX11 224 yX11_need, Cond.instanceMethod yX11_need, Cond.selects RX11 yX11_need yX11_need, Cond.code yX11_need cX11_need 2 none, Cond.methodLink RX11 210 yX11_number, Cond.instanceMethod yX11_number, Cond.selects RX11 yX11_number yX11_number, Cond.code yX11_number cX11_number 10 (some .long), Cond.constantLong RX11 109 (48), Cond.methodLink RX11 238 yX11_immediate, Cond.static yX11_immediate, Cond.code yX11_immediate cX11_immediate 1 (some .int), Cond.methodLink RX11 241 yX11_storing, Cond.static yX11_storing, Cond.code yX11_storing cX11_storing 1 (some .int), Cond.methodLink RX11 244 yX11_distance, Cond.instanceMethod yX11_distance, Cond.selects RX11 yX11_distance yX11_distance, Cond.code yX11_distance cX11_distance 6 (some .int), Cond.constantLong RX11 191 (1048574), Cond.constantLong RX11 193 (4094), Cond.constantLong RX11 208 (2), Cond.methodLink RX11 214 yX11_jumping, Cond.static yX11_jumping]
def TT22 : List Cond := [Cond.code yX11_jumping cX11_jumping 1 (some .int), Cond.methodLink RX11 217 yX11_branching, Cond.static yX11_branching, Cond.code yX11_branching cX11_branching 1 (some .int), Cond.methodLink RX11 269 yX11_isEnd, Cond.instanceMethod yX11_isEnd, Cond.selects RX11 yX11_isEnd yX11_isEnd, Cond.code yX11_isEnd cX11_isEnd 1 (some .boolean), Cond.methodLink RX11 285 yX11_link, Cond.instanceMethod yX11_link, Cond.selects RX11 yX11_link yX11_link, Cond.code yX11_link cX11_link 7 none, Cond.methodLink RL 53 yX10_fault, Cond.instanceMethod yX10_fault, Cond.selects RX10 yX10_fault yX10_fault, Cond.code yX10_fault cX10_fault 2 (some .int), Cond.fieldLink RX10 96 "TimedThreads$Assembler" "faultLine" "I", Cond.methodLink RL 57 yX11_fault, Cond.instanceMethod yX11_fault, Cond.selects RX11 yX11_fault yX11_fault, Cond.code yX11_fault cX11_fault 2 (some .int), Cond.methodLink RL 58 yX10_peek, Cond.instanceMethod yX10_peek, Cond.selects RX10 yX10_peek yX10_peek]
def TT23 : List Cond := [Cond.code yX10_peek cX10_peek 3 (some .int), Cond.methodLink RL 61 yX11_peek, Cond.instanceMethod yX11_peek, Cond.selects RX11 yX11_peek yX11_peek, Cond.code yX11_peek cX11_peek 3 (some .int), Cond.methodLink RL 62 yX10_poke, Cond.instanceMethod yX10_poke, Cond.selects RX10 yX10_poke yX10_poke, Cond.code yX10_poke cX10_poke 4 (some .boolean), Cond.methodLink RL 66 yX11_poke, Cond.instanceMethod yX11_poke, Cond.selects RX11 yX11_poke yX11_poke, Cond.code yX11_poke cX11_poke 4 (some .boolean), Cond.methodLink RL 67 yX10_shared, Cond.instanceMethod yX10_shared, Cond.selects RX10 yX10_shared yX10_shared, Cond.code yX10_shared cX10_shared 2 (some .int), Cond.fieldLink RX10 99 "TimedThreads$SharedMemory" "words" "[I", Cond.methodLink RL 70 yX11_shared, Cond.instanceMethod yX11_shared, Cond.selects RX11 yX11_shared yX11_shared, Cond.code yX11_shared cX11_shared 2 (some .int), Cond.methodLink RL 71 yX10_part, Cond.instanceMethod yX10_part]
def TT24 : List Cond := [Cond.selects RX10 yX10_part yX10_part, Cond.code yX10_part cX10_part 4 (some .boolean), Cond.fieldLink RX10 104 "TimedThreads$TimedThread" "low" "I", Cond.fieldLink RX10 107 "TimedThreads$TimedThread" "high" "I", Cond.methodLink RL 74 yX11_part, Cond.instanceMethod yX11_part, Cond.selects RX11 yX11_part yX11_part, Cond.code yX11_part cX11_part 4 (some .boolean), Cond.methodLink RL 75 yX10_start, Cond.instanceMethod yX10_start, Cond.selects RX10 yX10_start yX10_start, Cond.code yX10_start cX10_start 3 (some .boolean), Cond.fieldLink RX10 110 "TimedThreads" "cycle" "I", Cond.methodLink RX10 113 yX8_begin, Cond.instanceMethod yX8_begin, Cond.selects RX8 yX8_begin yX8_begin, Cond.code yX8_begin cX8_begin 3 none, Cond.fieldLink RX8 35 "TimedThreads$TimedThread" "address" "I", Cond.fieldLink RX8 38 "TimedThreads$TimedThread" "ready" "I", Cond.methodLink RL 79 yX11_start, Cond.instanceMethod yX11_start, Cond.selects RX11 yX11_start yX11_start, Cond.code yX11_start cX11_start 3 (some .boolean), Cond.fieldLink RX11 291 "TimedThreadsModel" "now" "I"]
def TT25 : List Cond := [Cond.methodLink RL 80 yX10_run, Cond.instanceMethod yX10_run, Cond.selects RX10 yX10_run yX10_run, Cond.code yX10_run cX10_run 4 (some .int), Cond.methodLink RX10 117 yJ9_floorMod_7cf53, Cond.static yJ9_floorMod_7cf53, Cond.initialized RJ9, Cond.code yJ9_floorMod_7cf53 cJ9_floorMod_7cf53 3 (some .int), Cond.methodLink RX10 120 yX8_takeTurn, Cond.instanceMethod yX8_takeTurn, Cond.selects RX8 yX8_takeTurn yX8_takeTurn, Cond.code yX8_takeTurn cX8_takeTurn 4 (some .boolean), Cond.fieldLink RX8 48 "TimedThreads$Outcome" "FAULT" "LTimedThreads$Outcome;", Cond.fieldLink RX8 54 "TimedThreads$Outcome" "DONE" "LTimedThreads$Outcome;", Cond.fieldLink RX8 57 "TimedThreads$TimedThread" "retirement" "I", Cond.fieldLink RX8 64 "TimedThreads$TimedThread" "nextAddress" "I", Cond.methodLink RX8 44 yX8_attempt, Cond.instanceMethod yX8_attempt, Cond.selects RX8 yX8_attempt yX8_attempt, Cond.code yX8_attempt cX8_attempt 4 (some (.object "TimedThreads$Outcome")), Cond.methodLink RX8 67 yX8_isInStore, Cond.static yX8_isInStore, Cond.code yX8_isInStore cX8_isInStore 1 (some .boolean), Cond.methodLink RX8 71 yX8_isAligned]
def TT26 : List Cond := [Cond.static yX8_isAligned, Cond.code yX8_isAligned cX8_isAligned 1 (some .boolean), Cond.methodLink RX8 74 yX1_op, Cond.methodLink RX8 80 yX8_loadUpper, Cond.instanceMethod yX8_loadUpper, Cond.selects RX8 yX8_loadUpper yX8_loadUpper, Cond.code yX8_loadUpper cX8_loadUpper 3 (some (.object "TimedThreads$Outcome")), Cond.methodLink RX8 113 yX1_rd, Cond.static yX1_rd, Cond.code yX1_rd cX1_rd 1 (some .int), Cond.static yX10_isRegister, Cond.code yX10_isRegister cX10_isRegister 1 (some .boolean), Cond.methodLink RX8 119 yX1_numberU, Cond.static yX1_numberU, Cond.code yX1_numberU cX1_numberU 1 (some .int), Cond.methodLink RX8 122 yX8_setRegister, Cond.instanceMethod yX8_setRegister, Cond.selects RX8 yX8_setRegister yX8_setRegister, Cond.code yX8_setRegister cX8_setRegister 3 none, Cond.methodLink RX8 84 yX8_jump, Cond.instanceMethod yX8_jump, Cond.selects RX8 yX8_jump yX8_jump, Cond.code yX8_jump cX8_jump 3 (some (.object "TimedThreads$Outcome")), Cond.methodLink RX8 126 yX1_numberJ]
def TT27 : List Cond := [Cond.static yX1_numberJ, Cond.code yX1_numberJ cX1_numberJ 1 (some .int), Cond.methodLink RX8 87 yX8_jumpToRegister, Cond.instanceMethod yX8_jumpToRegister, Cond.selects RX8 yX8_jumpToRegister yX8_jumpToRegister, Cond.code yX8_jumpToRegister cX8_jumpToRegister 5 (some (.object "TimedThreads$Outcome")), Cond.methodLink RX8 129 yX1_rs, Cond.static yX1_rs, Cond.code yX1_rs cX1_rs 1 (some .int), Cond.methodLink RX8 132 yX1_f, Cond.static yX1_f, Cond.code yX1_f cX1_f 1 (some .int), Cond.methodLink RX8 135 yX1_numberI, Cond.static yX1_numberI, Cond.code yX1_numberI cX1_numberI 1 (some .int), Cond.methodLink RX8 90 yX8_branch, Cond.instanceMethod yX8_branch, Cond.selects RX8 yX8_branch yX8_branch, Cond.code yX8_branch cX8_branch 5 (some (.object "TimedThreads$Outcome")), Cond.methodLink RX8 138 yX1_rt, Cond.static yX1_rt, Cond.code yX1_rt cX1_rt 1 (some .int), Cond.methodLink RX8 141 yX8_isSo, Cond.static yX8_isSo]
def TT28 : List Cond := [Cond.code yX8_isSo cX8_isSo 3 (some .boolean), Cond.methodLink RX8 148 yX8_isBelowUnsigned, Cond.static yX8_isBelowUnsigned, Cond.code yX8_isBelowUnsigned cX8_isBelowUnsigned 2 (some .boolean), Cond.constantLong RX8 152 (4294967295), Cond.methodLink RX8 145 yX1_numberB, Cond.static yX1_numberB, Cond.code yX1_numberB cX1_numberB 1 (some .int), Cond.methodLink RX8 93 yX8_load, Cond.instanceMethod yX8_load, Cond.selects RX8 yX8_load yX8_load, Cond.code yX8_load cX8_load 11 (some (.object "TimedThreads$Outcome")), Cond.methodLink RX8 154 yX8_canReach, Cond.instanceMethod yX8_canReach, Cond.selects RX8 yX8_canReach yX8_canReach, Cond.code yX8_canReach cX8_canReach 4 (some .boolean), Cond.fieldLink RX8 174 "TimedThreads$TimedThread" "low" "I", Cond.fieldLink RX8 177 "TimedThreads$TimedThread" "high" "I", Cond.methodLink RX8 157 yX8_rowOf, Cond.instanceMethod yX8_rowOf, Cond.selects RX8 yX8_rowOf yX8_rowOf, Cond.code yX8_rowOf cX8_rowOf 3 (some (.array .int)), Cond.fieldLink RX8 180 "TimedThreads$SharedMemory" "words" "[I", Cond.methodLink RX8 161 yX8_placeOf]
def TT29 : List Cond := [Cond.static yX8_placeOf, Cond.code yX8_placeOf cX8_placeOf 1 (some .int), Cond.methodLink RX8 164 yX8_bitOf, Cond.static yX8_bitOf, Cond.code yX8_bitOf cX8_bitOf 1 (some .int), Cond.methodLink RX8 167 yX8_setRetirement, Cond.instanceMethod yX8_setRetirement, Cond.selects RX8 yX8_setRetirement yX8_setRetirement, Cond.code yX8_setRetirement cX8_setRetirement 4 none, Cond.methodLink RX8 185 yX6_retirement, Cond.instanceMethod yX6_retirement, Cond.selects RX6 yX6_retirement yX6_retirement, Cond.code yX6_retirement cX6_retirement 4 (some .int), Cond.methodLink RX6 19 yJ9_floorMod_7cf53, Cond.methodLink RX8 97 yX8_save, Cond.instanceMethod yX8_save, Cond.selects RX8 yX8_save yX8_save, Cond.code yX8_save cX8_save 13 (some (.object "TimedThreads$Outcome")), Cond.methodLink RX8 171 yX1_numberS, Cond.static yX1_numberS, Cond.code yX1_numberS cX1_numberS 1 (some .int), Cond.methodLink RX1 9 yX1_rd, Cond.methodLink RX8 100 yX8_computeWithNumber, Cond.instanceMethod yX8_computeWithNumber]
def TT30 : List Cond := [Cond.selects RX8 yX8_computeWithNumber yX8_computeWithNumber, Cond.code yX8_computeWithNumber cX8_computeWithNumber 8 (some (.object "TimedThreads$Outcome")), Cond.methodLink RX8 188 yX1_g, Cond.static yX1_g, Cond.code yX1_g cX1_g 1 (some .int), Cond.methodLink RX8 191 yX8_compute, Cond.static yX8_compute, Cond.code yX8_compute cX8_compute 4 (some .int), Cond.methodLink RX8 103 yX8_computeWithRegister, Cond.instanceMethod yX8_computeWithRegister, Cond.selects RX8 yX8_computeWithRegister yX8_computeWithRegister, Cond.code yX8_computeWithRegister cX8_computeWithRegister 8 (some (.object "TimedThreads$Outcome")), Cond.methodLink RX8 106 yX8_timed, Cond.instanceMethod yX8_timed, Cond.selects RX8 yX8_timed yX8_timed, Cond.code yX8_timed cX8_timed 5 (some (.object "TimedThreads$Outcome")), Cond.methodLink RX8 195 yX8_setTimer, Cond.instanceMethod yX8_setTimer, Cond.selects RX8 yX8_setTimer yX8_setTimer, Cond.code yX8_setTimer cX8_setTimer 7 (some (.object "TimedThreads$Outcome")), Cond.fieldLink RX8 199 "TimedThreads$Outcome" "TRY_AGAIN" "LTimedThreads$Outcome;", Cond.constantLong RX8 202 (2147483647), Cond.methodLink RX8 204 Lib.MathLoose.max_long.x, Cond.static Lib.MathLoose.max_long.x]
def TT31 : List Cond := [Cond.code Lib.MathLoose.max_long.x Lib.MathLoose.max_long.code 4 (some .long), Cond.methodLink RX8 210 Lib.MathLoose.min_long.x, Cond.static Lib.MathLoose.min_long.x, Cond.code Lib.MathLoose.min_long.x Lib.MathLoose.min_long.code 4 (some .long), Cond.methodLink RX8 110 yX8_halt, Cond.instanceMethod yX8_halt, Cond.selects RX8 yX8_halt yX8_halt, Cond.code yX8_halt cX8_halt 2 (some (.object "TimedThreads$Outcome")), Cond.methodLink RX8 60 yX2_add, Cond.instanceMethod yX2_add, Cond.selects RX2 yX2_add yX2_add, Cond.code yX2_add cX2_add 5 none, Cond.fieldLink RX2 21 "TimedThreads$History" "count" "I", Cond.methodLink RX2 25 yX2_placeOf, Cond.static yX2_placeOf, Cond.code yX2_placeOf cX2_placeOf 1 (some .int), Cond.methodLink RX2 29 yJ9_floorMod_7cf53, Cond.methodLink RL 83 yX11_run, Cond.instanceMethod yX11_run, Cond.selects RX11 yX11_run yX11_run, Cond.code yX11_run cX11_run 4 (some .int), Cond.methodLink RX11 349 yX11_turn, Cond.instanceMethod yX11_turn, Cond.selects RX11 yX11_turn yX11_turn]
def TT32 : List Cond := [Cond.code yX11_turn cX11_turn 4 (some .int), Cond.methodLink RX11 288 yX11_isOwn, Cond.static yX11_isOwn, Cond.code yX11_isOwn cX11_isOwn 1 (some .boolean), Cond.methodLink RX11 299 yX11_stop, Cond.instanceMethod yX11_stop, Cond.selects RX11 yX11_stop yX11_stop, Cond.code yX11_stop cX11_stop 2 (some .int), Cond.methodLink RX11 313 yX11_set, Cond.instanceMethod yX11_set, Cond.selects RX11 yX11_set yX11_set, Cond.code yX11_set cX11_set 4 none, Cond.methodLink RX11 319 yX11_done, Cond.instanceMethod yX11_done, Cond.selects RX11 yX11_done yX11_done, Cond.code yX11_done cX11_done 5 (some .int), Cond.methodLink RX11 333 yX11_jump, Cond.instanceMethod yX11_jump, Cond.selects RX11 yX11_jump yX11_jump, Cond.code yX11_jump cX11_jump 8 (some .int), Cond.methodLink RX11 337 yX11_branch, Cond.instanceMethod yX11_branch, Cond.selects RX11 yX11_branch yX11_branch, Cond.code yX11_branch cX11_branch 8 (some .int)]
def TT33 : List Cond := [Cond.methodLink RX11 327 yX11_goes, Cond.static yX11_goes, Cond.code yX11_goes cX11_goes 4 (some .boolean), Cond.methodLink RX11 295 yX11_isLess, Cond.static yX11_isLess, Cond.code yX11_isLess cX11_isLess 2 (some .boolean), Cond.constant RX11 294 (-2147483648), Cond.methodLink RX11 340 yX11_moveWord, Cond.instanceMethod yX11_moveWord, Cond.selects RX11 yX11_moveWord yX11_moveWord, Cond.code yX11_moveWord cX11_moveWord 13 (some .int), Cond.methodLink RX11 302 yX11_isThere, Cond.instanceMethod yX11_isThere, Cond.selects RX11 yX11_isThere yX11_isThere, Cond.code yX11_isThere cX11_isThere 4 (some .boolean), Cond.methodLink RX11 306 yX11_wordAt, Cond.instanceMethod yX11_wordAt, Cond.selects RX11 yX11_wordAt yX11_wordAt, Cond.code yX11_wordAt cX11_wordAt 3 (some .int), Cond.methodLink RX11 309 yX11_put, Cond.instanceMethod yX11_put, Cond.selects RX11 yX11_put yX11_put, Cond.code yX11_put cX11_put 4 none, Cond.methodLink RX11 316 yX11_first]
def TT34 : List Cond := [Cond.instanceMethod yX11_first, Cond.selects RX11 yX11_first yX11_first, Cond.code yX11_first cX11_first 3 (some .int), Cond.methodLink RX11 343 yX11_calculate, Cond.instanceMethod yX11_calculate, Cond.selects RX11 yX11_calculate yX11_calculate, Cond.code yX11_calculate cX11_calculate 13 (some .int), Cond.methodLink RX11 323 yX11_worked, Cond.static yX11_worked, Cond.code yX11_worked cX11_worked 4 (some .int), Cond.methodLink RX11 346 yX11_clock, Cond.instanceMethod yX11_clock, Cond.selects RX11 yX11_clock yX11_clock, Cond.code yX11_clock cX11_clock 8 (some .int), Cond.constantLong RX11 330 (2147483647), Cond.constant RX11 332 (2147483647), Cond.methodLink RL 84 yX10_now, Cond.instanceMethod yX10_now, Cond.selects RX10 yX10_now yX10_now, Cond.code yX10_now cX10_now 1 (some .int), Cond.methodLink RL 87 yX11_now, Cond.instanceMethod yX11_now, Cond.selects RX11 yX11_now yX11_now, Cond.code yX11_now cX11_now 1 (some .int)]
def TT35 : List Cond := [Cond.methodLink RL 88 yX10_register, Cond.instanceMethod yX10_register, Cond.selects RX10 yX10_register yX10_register, Cond.code yX10_register cX10_register 3 (some .int), Cond.fieldLink RX10 127 "TimedThreads$TimedThread" "registers" "[I", Cond.methodLink RX10 124 yX10_isRegister, Cond.methodLink RL 91 yX11_register, Cond.instanceMethod yX11_register, Cond.selects RX11 yX11_register yX11_register, Cond.code yX11_register cX11_register 3 (some .int), Cond.methodLink RL 92 yX10_state, Cond.instanceMethod yX10_state, Cond.selects RX10 yX10_state yX10_state, Cond.code yX10_state cX10_state 3 (some .int), Cond.methodLink RX10 130 yX8_condition, Cond.instanceMethod yX8_condition, Cond.selects RX8 yX8_condition yX8_condition, Cond.code yX8_condition cX8_condition 2 (some .int), Cond.fieldLink RX8 41 "TimedThreads$History" "count" "I", Cond.methodLink RL 95 yX11_state, Cond.instanceMethod yX11_state, Cond.selects RX11 yX11_state yX11_state, Cond.code yX11_state cX11_state 3 (some .int), Cond.methodLink RL 96 yX10_trace]
def TT36 : List Cond := [Cond.instanceMethod yX10_trace, Cond.selects RX10 yX10_trace yX10_trace, Cond.code yX10_trace cX10_trace 4 (some .int), Cond.fieldLink RX10 134 "TimedThreads$TimedThread" "history" "LTimedThreads$History;", Cond.methodLink RX10 138 yX2_entry, Cond.instanceMethod yX2_entry, Cond.selects RX2 yX2_entry yX2_entry, Cond.code yX2_entry cX2_entry 4 (some .int), Cond.methodLink RL 100 yX11_trace, Cond.instanceMethod yX11_trace, Cond.selects RX11 yX11_trace yX11_trace, Cond.code yX11_trace cX11_trace 4 (some .int)]
def TT : List Cond := TT0 ++ (TT1 ++ (TT2 ++ (TT3 ++ (TT4 ++ (TT5 ++ (TT6 ++ (TT7 ++ (TT8 ++ (TT9 ++ (TT10 ++ (TT11 ++ (TT12 ++ (TT13 ++ (TT14 ++ (TT15 ++ (TT16 ++ (TT17 ++ (TT18 ++ (TT19 ++ (TT20 ++ (TT21 ++ (TT22 ++ (TT23 ++ (TT24 ++ (TT25 ++ (TT26 ++ (TT27 ++ (TT28 ++ (TT29 ++ (TT30 ++ (TT31 ++ (TT32 ++ (TT33 ++ (TT34 ++ (TT35 ++ (TT36 ++ (wsX00 ++ (wsX20 ++ (wsX30 ++ (wsX60 ++ (wsX70 ++ (wsX80 ++ (wsX90 ++ (wsX100 ++ (wsX110)))))))))))))))))))))))))))))))))))))))))))))
theorem tin_TT0 : ∀ w ∈ TT0, w ∈ TT := fun _ h => (List.mem_append_left _ h)
theorem tin_TT1 : ∀ w ∈ TT1, w ∈ TT := fun _ h => (List.mem_append_right _ (List.mem_append_left _ h))
theorem tin_TT2 : ∀ w ∈ TT2, w ∈ TT := fun _ h => (List.mem_append_right _ (List.mem_append_right _ (List.mem_append_left _ h)))
theorem tin_TT3 : ∀ w ∈ TT3, w ∈ TT := fun _ h => (List.mem_append_right _ (List.mem_append_right _ (List.mem_append_right _ (List.mem_append_left _ h))))
theorem tin_TT4 : ∀ w ∈ TT4, w ∈ TT := fun _ h => (List.mem_append_right _ (List.mem_append_right _ (List.mem_append_right _ (List.mem_append_right _ (List.mem_append_left _ h)))))
theorem tin_TT5 : ∀ w ∈ TT5, w ∈ TT := fun _ h => (List.mem_append_right _ (List.mem_append_right _ (List.mem_append_right _ (List.mem_append_right _ (List.mem_append_right _ (List.mem_append_left _ h))))))
theorem tin_TT6 : ∀ w ∈ TT6, w ∈ TT := fun _ h => (List.mem_append_right _ (List.mem_append_right _ (List.mem_append_right _ (List.mem_append_right _ (List.mem_append_right _ (List.mem_append_right _ (List.mem_append_left _ h)))))))
theorem tin_TT7 : ∀ w ∈ TT7, w ∈ TT := fun _ h => (List.mem_append_right _ (List.mem_append_right _ (List.mem_append_right _ (List.mem_append_right _ (List.mem_append_right _ (List.mem_append_right _ (List.mem_append_right _ (List.mem_append_left _ h))))))))
theorem tin_TT8 : ∀ w ∈ TT8, w ∈ TT := fun _ h => (List.mem_append_right _ (List.mem_append_right _ (List.mem_append_right _ (List.mem_append_right _ (List.mem_append_right _ (List.mem_append_right _ (List.mem_append_right _ (List.mem_append_right _ (List.mem_append_left _ h)))))))))
theorem tin_TT9 : ∀ w ∈ TT9, w ∈ TT := fun _ h => (List.mem_append_right _ (List.mem_append_right _ (List.mem_append_right _ (List.mem_append_right _ (List.mem_append_right _ (List.mem_append_right _ (List.mem_append_right _ (List.mem_append_right _ (List.mem_append_right _ (List.mem_append_left _ h))))))))))
theorem tin_TT10 : ∀ w ∈ TT10, w ∈ TT := fun _ h => (List.mem_append_right _ (List.mem_append_right _ (List.mem_append_right _ (List.mem_append_right _ (List.mem_append_right _ (List.mem_append_right _ (List.mem_append_right _ (List.mem_append_right _ (List.mem_append_right _ (List.mem_append_right _ (List.mem_append_left _ h)))))))))))
theorem tin_TT11 : ∀ w ∈ TT11, w ∈ TT := fun _ h => (List.mem_append_right _ (List.mem_append_right _ (List.mem_append_right _ (List.mem_append_right _ (List.mem_append_right _ (List.mem_append_right _ (List.mem_append_right _ (List.mem_append_right _ (List.mem_append_right _ (List.mem_append_right _ (List.mem_append_right _ (List.mem_append_left _ h))))))))))))
theorem tin_TT12 : ∀ w ∈ TT12, w ∈ TT := fun _ h => (List.mem_append_right _ (List.mem_append_right _ (List.mem_append_right _ (List.mem_append_right _ (List.mem_append_right _ (List.mem_append_right _ (List.mem_append_right _ (List.mem_append_right _ (List.mem_append_right _ (List.mem_append_right _ (List.mem_append_right _ (List.mem_append_right _ (List.mem_append_left _ h)))))))))))))
theorem tin_TT13 : ∀ w ∈ TT13, w ∈ TT := fun _ h => (List.mem_append_right _ (List.mem_append_right _ (List.mem_append_right _ (List.mem_append_right _ (List.mem_append_right _ (List.mem_append_right _ (List.mem_append_right _ (List.mem_append_right _ (List.mem_append_right _ (List.mem_append_right _ (List.mem_append_right _ (List.mem_append_right _ (List.mem_append_right _ (List.mem_append_left _ h))))))))))))))
theorem tin_TT14 : ∀ w ∈ TT14, w ∈ TT := fun _ h => (List.mem_append_right _ (List.mem_append_right _ (List.mem_append_right _ (List.mem_append_right _ (List.mem_append_right _ (List.mem_append_right _ (List.mem_append_right _ (List.mem_append_right _ (List.mem_append_right _ (List.mem_append_right _ (List.mem_append_right _ (List.mem_append_right _ (List.mem_append_right _ (List.mem_append_right _ (List.mem_append_left _ h)))))))))))))))
theorem tin_TT15 : ∀ w ∈ TT15, w ∈ TT := fun _ h => (List.mem_append_right _ (List.mem_append_right _ (List.mem_append_right _ (List.mem_append_right _ (List.mem_append_right _ (List.mem_append_right _ (List.mem_append_right _ (List.mem_append_right _ (List.mem_append_right _ (List.mem_append_right _ (List.mem_append_right _ (List.mem_append_right _ (List.mem_append_right _ (List.mem_append_right _ (List.mem_append_right _ (List.mem_append_left _ h))))))))))))))))
theorem tin_TT16 : ∀ w ∈ TT16, w ∈ TT := fun _ h => (List.mem_append_right _ (List.mem_append_right _ (List.mem_append_right _ (List.mem_append_right _ (List.mem_append_right _ (List.mem_append_right _ (List.mem_append_right _ (List.mem_append_right _ (List.mem_append_right _ (List.mem_append_right _ (List.mem_append_right _ (List.mem_append_right _ (List.mem_append_right _ (List.mem_append_right _ (List.mem_append_right _ (List.mem_append_right _ (List.mem_append_left _ h)))))))))))))))))
theorem tin_TT17 : ∀ w ∈ TT17, w ∈ TT := fun _ h => (List.mem_append_right _ (List.mem_append_right _ (List.mem_append_right _ (List.mem_append_right _ (List.mem_append_right _ (List.mem_append_right _ (List.mem_append_right _ (List.mem_append_right _ (List.mem_append_right _ (List.mem_append_right _ (List.mem_append_right _ (List.mem_append_right _ (List.mem_append_right _ (List.mem_append_right _ (List.mem_append_right _ (List.mem_append_right _ (List.mem_append_right _ (List.mem_append_left _ h))))))))))))))))))
theorem tin_TT18 : ∀ w ∈ TT18, w ∈ TT := fun _ h => (List.mem_append_right _ (List.mem_append_right _ (List.mem_append_right _ (List.mem_append_right _ (List.mem_append_right _ (List.mem_append_right _ (List.mem_append_right _ (List.mem_append_right _ (List.mem_append_right _ (List.mem_append_right _ (List.mem_append_right _ (List.mem_append_right _ (List.mem_append_right _ (List.mem_append_right _ (List.mem_append_right _ (List.mem_append_right _ (List.mem_append_right _ (List.mem_append_right _ (List.mem_append_left _ h)))))))))))))))))))
theorem tin_TT19 : ∀ w ∈ TT19, w ∈ TT := fun _ h => (List.mem_append_right _ (List.mem_append_right _ (List.mem_append_right _ (List.mem_append_right _ (List.mem_append_right _ (List.mem_append_right _ (List.mem_append_right _ (List.mem_append_right _ (List.mem_append_right _ (List.mem_append_right _ (List.mem_append_right _ (List.mem_append_right _ (List.mem_append_right _ (List.mem_append_right _ (List.mem_append_right _ (List.mem_append_right _ (List.mem_append_right _ (List.mem_append_right _ (List.mem_append_right _ (List.mem_append_left _ h))))))))))))))))))))
theorem tin_TT20 : ∀ w ∈ TT20, w ∈ TT := fun _ h => (List.mem_append_right _ (List.mem_append_right _ (List.mem_append_right _ (List.mem_append_right _ (List.mem_append_right _ (List.mem_append_right _ (List.mem_append_right _ (List.mem_append_right _ (List.mem_append_right _ (List.mem_append_right _ (List.mem_append_right _ (List.mem_append_right _ (List.mem_append_right _ (List.mem_append_right _ (List.mem_append_right _ (List.mem_append_right _ (List.mem_append_right _ (List.mem_append_right _ (List.mem_append_right _ (List.mem_append_right _ (List.mem_append_left _ h)))))))))))))))))))))
theorem tin_TT21 : ∀ w ∈ TT21, w ∈ TT := fun _ h => (List.mem_append_right _ (List.mem_append_right _ (List.mem_append_right _ (List.mem_append_right _ (List.mem_append_right _ (List.mem_append_right _ (List.mem_append_right _ (List.mem_append_right _ (List.mem_append_right _ (List.mem_append_right _ (List.mem_append_right _ (List.mem_append_right _ (List.mem_append_right _ (List.mem_append_right _ (List.mem_append_right _ (List.mem_append_right _ (List.mem_append_right _ (List.mem_append_right _ (List.mem_append_right _ (List.mem_append_right _ (List.mem_append_right _ (List.mem_append_left _ h))))))))))))))))))))))
theorem tin_TT22 : ∀ w ∈ TT22, w ∈ TT := fun _ h => (List.mem_append_right _ (List.mem_append_right _ (List.mem_append_right _ (List.mem_append_right _ (List.mem_append_right _ (List.mem_append_right _ (List.mem_append_right _ (List.mem_append_right _ (List.mem_append_right _ (List.mem_append_right _ (List.mem_append_right _ (List.mem_append_right _ (List.mem_append_right _ (List.mem_append_right _ (List.mem_append_right _ (List.mem_append_right _ (List.mem_append_right _ (List.mem_append_right _ (List.mem_append_right _ (List.mem_append_right _ (List.mem_append_right _ (List.mem_append_right _ (List.mem_append_left _ h)))))))))))))))))))))))
theorem tin_TT23 : ∀ w ∈ TT23, w ∈ TT := fun _ h => (List.mem_append_right _ (List.mem_append_right _ (List.mem_append_right _ (List.mem_append_right _ (List.mem_append_right _ (List.mem_append_right _ (List.mem_append_right _ (List.mem_append_right _ (List.mem_append_right _ (List.mem_append_right _ (List.mem_append_right _ (List.mem_append_right _ (List.mem_append_right _ (List.mem_append_right _ (List.mem_append_right _ (List.mem_append_right _ (List.mem_append_right _ (List.mem_append_right _ (List.mem_append_right _ (List.mem_append_right _ (List.mem_append_right _ (List.mem_append_right _ (List.mem_append_right _ (List.mem_append_left _ h))))))))))))))))))))))))
theorem tin_TT24 : ∀ w ∈ TT24, w ∈ TT := fun _ h => (List.mem_append_right _ (List.mem_append_right _ (List.mem_append_right _ (List.mem_append_right _ (List.mem_append_right _ (List.mem_append_right _ (List.mem_append_right _ (List.mem_append_right _ (List.mem_append_right _ (List.mem_append_right _ (List.mem_append_right _ (List.mem_append_right _ (List.mem_append_right _ (List.mem_append_right _ (List.mem_append_right _ (List.mem_append_right _ (List.mem_append_right _ (List.mem_append_right _ (List.mem_append_right _ (List.mem_append_right _ (List.mem_append_right _ (List.mem_append_right _ (List.mem_append_right _ (List.mem_append_right _ (List.mem_append_left _ h)))))))))))))))))))))))))
theorem tin_TT25 : ∀ w ∈ TT25, w ∈ TT := fun _ h => (List.mem_append_right _ (List.mem_append_right _ (List.mem_append_right _ (List.mem_append_right _ (List.mem_append_right _ (List.mem_append_right _ (List.mem_append_right _ (List.mem_append_right _ (List.mem_append_right _ (List.mem_append_right _ (List.mem_append_right _ (List.mem_append_right _ (List.mem_append_right _ (List.mem_append_right _ (List.mem_append_right _ (List.mem_append_right _ (List.mem_append_right _ (List.mem_append_right _ (List.mem_append_right _ (List.mem_append_right _ (List.mem_append_right _ (List.mem_append_right _ (List.mem_append_right _ (List.mem_append_right _ (List.mem_append_right _ (List.mem_append_left _ h))))))))))))))))))))))))))
theorem tin_TT26 : ∀ w ∈ TT26, w ∈ TT := fun _ h => (List.mem_append_right _ (List.mem_append_right _ (List.mem_append_right _ (List.mem_append_right _ (List.mem_append_right _ (List.mem_append_right _ (List.mem_append_right _ (List.mem_append_right _ (List.mem_append_right _ (List.mem_append_right _ (List.mem_append_right _ (List.mem_append_right _ (List.mem_append_right _ (List.mem_append_right _ (List.mem_append_right _ (List.mem_append_right _ (List.mem_append_right _ (List.mem_append_right _ (List.mem_append_right _ (List.mem_append_right _ (List.mem_append_right _ (List.mem_append_right _ (List.mem_append_right _ (List.mem_append_right _ (List.mem_append_right _ (List.mem_append_right _ (List.mem_append_left _ h)))))))))))))))))))))))))))
theorem tin_TT27 : ∀ w ∈ TT27, w ∈ TT := fun _ h => (List.mem_append_right _ (List.mem_append_right _ (List.mem_append_right _ (List.mem_append_right _ (List.mem_append_right _ (List.mem_append_right _ (List.mem_append_right _ (List.mem_append_right _ (List.mem_append_right _ (List.mem_append_right _ (List.mem_append_right _ (List.mem_append_right _ (List.mem_append_right _ (List.mem_append_right _ (List.mem_append_right _ (List.mem_append_right _ (List.mem_append_right _ (List.mem_append_right _ (List.mem_append_right _ (List.mem_append_right _ (List.mem_append_right _ (List.mem_append_right _ (List.mem_append_right _ (List.mem_append_right _ (List.mem_append_right _ (List.mem_append_right _ (List.mem_append_right _ (List.mem_append_left _ h))))))))))))))))))))))))))))
theorem tin_TT28 : ∀ w ∈ TT28, w ∈ TT := fun _ h => (List.mem_append_right _ (List.mem_append_right _ (List.mem_append_right _ (List.mem_append_right _ (List.mem_append_right _ (List.mem_append_right _ (List.mem_append_right _ (List.mem_append_right _ (List.mem_append_right _ (List.mem_append_right _ (List.mem_append_right _ (List.mem_append_right _ (List.mem_append_right _ (List.mem_append_right _ (List.mem_append_right _ (List.mem_append_right _ (List.mem_append_right _ (List.mem_append_right _ (List.mem_append_right _ (List.mem_append_right _ (List.mem_append_right _ (List.mem_append_right _ (List.mem_append_right _ (List.mem_append_right _ (List.mem_append_right _ (List.mem_append_right _ (List.mem_append_right _ (List.mem_append_right _ (List.mem_append_left _ h)))))))))))))))))))))))))))))
theorem tin_TT29 : ∀ w ∈ TT29, w ∈ TT := fun _ h => (List.mem_append_right _ (List.mem_append_right _ (List.mem_append_right _ (List.mem_append_right _ (List.mem_append_right _ (List.mem_append_right _ (List.mem_append_right _ (List.mem_append_right _ (List.mem_append_right _ (List.mem_append_right _ (List.mem_append_right _ (List.mem_append_right _ (List.mem_append_right _ (List.mem_append_right _ (List.mem_append_right _ (List.mem_append_right _ (List.mem_append_right _ (List.mem_append_right _ (List.mem_append_right _ (List.mem_append_right _ (List.mem_append_right _ (List.mem_append_right _ (List.mem_append_right _ (List.mem_append_right _ (List.mem_append_right _ (List.mem_append_right _ (List.mem_append_right _ (List.mem_append_right _ (List.mem_append_right _ (List.mem_append_left _ h))))))))))))))))))))))))))))))
theorem tin_TT30 : ∀ w ∈ TT30, w ∈ TT := fun _ h => (List.mem_append_right _ (List.mem_append_right _ (List.mem_append_right _ (List.mem_append_right _ (List.mem_append_right _ (List.mem_append_right _ (List.mem_append_right _ (List.mem_append_right _ (List.mem_append_right _ (List.mem_append_right _ (List.mem_append_right _ (List.mem_append_right _ (List.mem_append_right _ (List.mem_append_right _ (List.mem_append_right _ (List.mem_append_right _ (List.mem_append_right _ (List.mem_append_right _ (List.mem_append_right _ (List.mem_append_right _ (List.mem_append_right _ (List.mem_append_right _ (List.mem_append_right _ (List.mem_append_right _ (List.mem_append_right _ (List.mem_append_right _ (List.mem_append_right _ (List.mem_append_right _ (List.mem_append_right _ (List.mem_append_right _ (List.mem_append_left _ h)))))))))))))))))))))))))))))))
theorem tin_TT31 : ∀ w ∈ TT31, w ∈ TT := fun _ h => (List.mem_append_right _ (List.mem_append_right _ (List.mem_append_right _ (List.mem_append_right _ (List.mem_append_right _ (List.mem_append_right _ (List.mem_append_right _ (List.mem_append_right _ (List.mem_append_right _ (List.mem_append_right _ (List.mem_append_right _ (List.mem_append_right _ (List.mem_append_right _ (List.mem_append_right _ (List.mem_append_right _ (List.mem_append_right _ (List.mem_append_right _ (List.mem_append_right _ (List.mem_append_right _ (List.mem_append_right _ (List.mem_append_right _ (List.mem_append_right _ (List.mem_append_right _ (List.mem_append_right _ (List.mem_append_right _ (List.mem_append_right _ (List.mem_append_right _ (List.mem_append_right _ (List.mem_append_right _ (List.mem_append_right _ (List.mem_append_right _ (List.mem_append_left _ h))))))))))))))))))))))))))))))))
theorem tin_TT32 : ∀ w ∈ TT32, w ∈ TT := fun _ h => (List.mem_append_right _ (List.mem_append_right _ (List.mem_append_right _ (List.mem_append_right _ (List.mem_append_right _ (List.mem_append_right _ (List.mem_append_right _ (List.mem_append_right _ (List.mem_append_right _ (List.mem_append_right _ (List.mem_append_right _ (List.mem_append_right _ (List.mem_append_right _ (List.mem_append_right _ (List.mem_append_right _ (List.mem_append_right _ (List.mem_append_right _ (List.mem_append_right _ (List.mem_append_right _ (List.mem_append_right _ (List.mem_append_right _ (List.mem_append_right _ (List.mem_append_right _ (List.mem_append_right _ (List.mem_append_right _ (List.mem_append_right _ (List.mem_append_right _ (List.mem_append_right _ (List.mem_append_right _ (List.mem_append_right _ (List.mem_append_right _ (List.mem_append_right _ (List.mem_append_left _ h)))))))))))))))))))))))))))))))))
theorem tin_TT33 : ∀ w ∈ TT33, w ∈ TT := fun _ h => (List.mem_append_right _ (List.mem_append_right _ (List.mem_append_right _ (List.mem_append_right _ (List.mem_append_right _ (List.mem_append_right _ (List.mem_append_right _ (List.mem_append_right _ (List.mem_append_right _ (List.mem_append_right _ (List.mem_append_right _ (List.mem_append_right _ (List.mem_append_right _ (List.mem_append_right _ (List.mem_append_right _ (List.mem_append_right _ (List.mem_append_right _ (List.mem_append_right _ (List.mem_append_right _ (List.mem_append_right _ (List.mem_append_right _ (List.mem_append_right _ (List.mem_append_right _ (List.mem_append_right _ (List.mem_append_right _ (List.mem_append_right _ (List.mem_append_right _ (List.mem_append_right _ (List.mem_append_right _ (List.mem_append_right _ (List.mem_append_right _ (List.mem_append_right _ (List.mem_append_right _ (List.mem_append_left _ h))))))))))))))))))))))))))))))))))
theorem tin_TT34 : ∀ w ∈ TT34, w ∈ TT := fun _ h => (List.mem_append_right _ (List.mem_append_right _ (List.mem_append_right _ (List.mem_append_right _ (List.mem_append_right _ (List.mem_append_right _ (List.mem_append_right _ (List.mem_append_right _ (List.mem_append_right _ (List.mem_append_right _ (List.mem_append_right _ (List.mem_append_right _ (List.mem_append_right _ (List.mem_append_right _ (List.mem_append_right _ (List.mem_append_right _ (List.mem_append_right _ (List.mem_append_right _ (List.mem_append_right _ (List.mem_append_right _ (List.mem_append_right _ (List.mem_append_right _ (List.mem_append_right _ (List.mem_append_right _ (List.mem_append_right _ (List.mem_append_right _ (List.mem_append_right _ (List.mem_append_right _ (List.mem_append_right _ (List.mem_append_right _ (List.mem_append_right _ (List.mem_append_right _ (List.mem_append_right _ (List.mem_append_right _ (List.mem_append_left _ h)))))))))))))))))))))))))))))))))))
theorem tin_TT35 : ∀ w ∈ TT35, w ∈ TT := fun _ h => (List.mem_append_right _ (List.mem_append_right _ (List.mem_append_right _ (List.mem_append_right _ (List.mem_append_right _ (List.mem_append_right _ (List.mem_append_right _ (List.mem_append_right _ (List.mem_append_right _ (List.mem_append_right _ (List.mem_append_right _ (List.mem_append_right _ (List.mem_append_right _ (List.mem_append_right _ (List.mem_append_right _ (List.mem_append_right _ (List.mem_append_right _ (List.mem_append_right _ (List.mem_append_right _ (List.mem_append_right _ (List.mem_append_right _ (List.mem_append_right _ (List.mem_append_right _ (List.mem_append_right _ (List.mem_append_right _ (List.mem_append_right _ (List.mem_append_right _ (List.mem_append_right _ (List.mem_append_right _ (List.mem_append_right _ (List.mem_append_right _ (List.mem_append_right _ (List.mem_append_right _ (List.mem_append_right _ (List.mem_append_right _ (List.mem_append_left _ h))))))))))))))))))))))))))))))))))))
theorem tin_TT36 : ∀ w ∈ TT36, w ∈ TT := fun _ h => (List.mem_append_right _ (List.mem_append_right _ (List.mem_append_right _ (List.mem_append_right _ (List.mem_append_right _ (List.mem_append_right _ (List.mem_append_right _ (List.mem_append_right _ (List.mem_append_right _ (List.mem_append_right _ (List.mem_append_right _ (List.mem_append_right _ (List.mem_append_right _ (List.mem_append_right _ (List.mem_append_right _ (List.mem_append_right _ (List.mem_append_right _ (List.mem_append_right _ (List.mem_append_right _ (List.mem_append_right _ (List.mem_append_right _ (List.mem_append_right _ (List.mem_append_right _ (List.mem_append_right _ (List.mem_append_right _ (List.mem_append_right _ (List.mem_append_right _ (List.mem_append_right _ (List.mem_append_right _ (List.mem_append_right _ (List.mem_append_right _ (List.mem_append_right _ (List.mem_append_right _ (List.mem_append_right _ (List.mem_append_right _ (List.mem_append_right _ (List.mem_append_left _ h)))))))))))))))))))))))))))))))))))))
theorem tin_wsX00 : ∀ w ∈ wsX00, w ∈ TT := fun _ h => (List.mem_append_right _ (List.mem_append_right _ (List.mem_append_right _ (List.mem_append_right _ (List.mem_append_right _ (List.mem_append_right _ (List.mem_append_right _ (List.mem_append_right _ (List.mem_append_right _ (List.mem_append_right _ (List.mem_append_right _ (List.mem_append_right _ (List.mem_append_right _ (List.mem_append_right _ (List.mem_append_right _ (List.mem_append_right _ (List.mem_append_right _ (List.mem_append_right _ (List.mem_append_right _ (List.mem_append_right _ (List.mem_append_right _ (List.mem_append_right _ (List.mem_append_right _ (List.mem_append_right _ (List.mem_append_right _ (List.mem_append_right _ (List.mem_append_right _ (List.mem_append_right _ (List.mem_append_right _ (List.mem_append_right _ (List.mem_append_right _ (List.mem_append_right _ (List.mem_append_right _ (List.mem_append_right _ (List.mem_append_right _ (List.mem_append_right _ (List.mem_append_right _ (List.mem_append_left _ h))))))))))))))))))))))))))))))))))))))
theorem tin_wsX20 : ∀ w ∈ wsX20, w ∈ TT := fun _ h => (List.mem_append_right _ (List.mem_append_right _ (List.mem_append_right _ (List.mem_append_right _ (List.mem_append_right _ (List.mem_append_right _ (List.mem_append_right _ (List.mem_append_right _ (List.mem_append_right _ (List.mem_append_right _ (List.mem_append_right _ (List.mem_append_right _ (List.mem_append_right _ (List.mem_append_right _ (List.mem_append_right _ (List.mem_append_right _ (List.mem_append_right _ (List.mem_append_right _ (List.mem_append_right _ (List.mem_append_right _ (List.mem_append_right _ (List.mem_append_right _ (List.mem_append_right _ (List.mem_append_right _ (List.mem_append_right _ (List.mem_append_right _ (List.mem_append_right _ (List.mem_append_right _ (List.mem_append_right _ (List.mem_append_right _ (List.mem_append_right _ (List.mem_append_right _ (List.mem_append_right _ (List.mem_append_right _ (List.mem_append_right _ (List.mem_append_right _ (List.mem_append_right _ (List.mem_append_right _ (List.mem_append_left _ h)))))))))))))))))))))))))))))))))))))))
theorem tin_wsX30 : ∀ w ∈ wsX30, w ∈ TT := fun _ h => (List.mem_append_right _ (List.mem_append_right _ (List.mem_append_right _ (List.mem_append_right _ (List.mem_append_right _ (List.mem_append_right _ (List.mem_append_right _ (List.mem_append_right _ (List.mem_append_right _ (List.mem_append_right _ (List.mem_append_right _ (List.mem_append_right _ (List.mem_append_right _ (List.mem_append_right _ (List.mem_append_right _ (List.mem_append_right _ (List.mem_append_right _ (List.mem_append_right _ (List.mem_append_right _ (List.mem_append_right _ (List.mem_append_right _ (List.mem_append_right _ (List.mem_append_right _ (List.mem_append_right _ (List.mem_append_right _ (List.mem_append_right _ (List.mem_append_right _ (List.mem_append_right _ (List.mem_append_right _ (List.mem_append_right _ (List.mem_append_right _ (List.mem_append_right _ (List.mem_append_right _ (List.mem_append_right _ (List.mem_append_right _ (List.mem_append_right _ (List.mem_append_right _ (List.mem_append_right _ (List.mem_append_right _ (List.mem_append_left _ h))))))))))))))))))))))))))))))))))))))))
theorem tin_wsX60 : ∀ w ∈ wsX60, w ∈ TT := fun _ h => (List.mem_append_right _ (List.mem_append_right _ (List.mem_append_right _ (List.mem_append_right _ (List.mem_append_right _ (List.mem_append_right _ (List.mem_append_right _ (List.mem_append_right _ (List.mem_append_right _ (List.mem_append_right _ (List.mem_append_right _ (List.mem_append_right _ (List.mem_append_right _ (List.mem_append_right _ (List.mem_append_right _ (List.mem_append_right _ (List.mem_append_right _ (List.mem_append_right _ (List.mem_append_right _ (List.mem_append_right _ (List.mem_append_right _ (List.mem_append_right _ (List.mem_append_right _ (List.mem_append_right _ (List.mem_append_right _ (List.mem_append_right _ (List.mem_append_right _ (List.mem_append_right _ (List.mem_append_right _ (List.mem_append_right _ (List.mem_append_right _ (List.mem_append_right _ (List.mem_append_right _ (List.mem_append_right _ (List.mem_append_right _ (List.mem_append_right _ (List.mem_append_right _ (List.mem_append_right _ (List.mem_append_right _ (List.mem_append_right _ (List.mem_append_left _ h)))))))))))))))))))))))))))))))))))))))))
theorem tin_wsX70 : ∀ w ∈ wsX70, w ∈ TT := fun _ h => (List.mem_append_right _ (List.mem_append_right _ (List.mem_append_right _ (List.mem_append_right _ (List.mem_append_right _ (List.mem_append_right _ (List.mem_append_right _ (List.mem_append_right _ (List.mem_append_right _ (List.mem_append_right _ (List.mem_append_right _ (List.mem_append_right _ (List.mem_append_right _ (List.mem_append_right _ (List.mem_append_right _ (List.mem_append_right _ (List.mem_append_right _ (List.mem_append_right _ (List.mem_append_right _ (List.mem_append_right _ (List.mem_append_right _ (List.mem_append_right _ (List.mem_append_right _ (List.mem_append_right _ (List.mem_append_right _ (List.mem_append_right _ (List.mem_append_right _ (List.mem_append_right _ (List.mem_append_right _ (List.mem_append_right _ (List.mem_append_right _ (List.mem_append_right _ (List.mem_append_right _ (List.mem_append_right _ (List.mem_append_right _ (List.mem_append_right _ (List.mem_append_right _ (List.mem_append_right _ (List.mem_append_right _ (List.mem_append_right _ (List.mem_append_right _ (List.mem_append_left _ h))))))))))))))))))))))))))))))))))))))))))
theorem tin_wsX80 : ∀ w ∈ wsX80, w ∈ TT := fun _ h => (List.mem_append_right _ (List.mem_append_right _ (List.mem_append_right _ (List.mem_append_right _ (List.mem_append_right _ (List.mem_append_right _ (List.mem_append_right _ (List.mem_append_right _ (List.mem_append_right _ (List.mem_append_right _ (List.mem_append_right _ (List.mem_append_right _ (List.mem_append_right _ (List.mem_append_right _ (List.mem_append_right _ (List.mem_append_right _ (List.mem_append_right _ (List.mem_append_right _ (List.mem_append_right _ (List.mem_append_right _ (List.mem_append_right _ (List.mem_append_right _ (List.mem_append_right _ (List.mem_append_right _ (List.mem_append_right _ (List.mem_append_right _ (List.mem_append_right _ (List.mem_append_right _ (List.mem_append_right _ (List.mem_append_right _ (List.mem_append_right _ (List.mem_append_right _ (List.mem_append_right _ (List.mem_append_right _ (List.mem_append_right _ (List.mem_append_right _ (List.mem_append_right _ (List.mem_append_right _ (List.mem_append_right _ (List.mem_append_right _ (List.mem_append_right _ (List.mem_append_right _ (List.mem_append_left _ h)))))))))))))))))))))))))))))))))))))))))))
theorem tin_wsX90 : ∀ w ∈ wsX90, w ∈ TT := fun _ h => (List.mem_append_right _ (List.mem_append_right _ (List.mem_append_right _ (List.mem_append_right _ (List.mem_append_right _ (List.mem_append_right _ (List.mem_append_right _ (List.mem_append_right _ (List.mem_append_right _ (List.mem_append_right _ (List.mem_append_right _ (List.mem_append_right _ (List.mem_append_right _ (List.mem_append_right _ (List.mem_append_right _ (List.mem_append_right _ (List.mem_append_right _ (List.mem_append_right _ (List.mem_append_right _ (List.mem_append_right _ (List.mem_append_right _ (List.mem_append_right _ (List.mem_append_right _ (List.mem_append_right _ (List.mem_append_right _ (List.mem_append_right _ (List.mem_append_right _ (List.mem_append_right _ (List.mem_append_right _ (List.mem_append_right _ (List.mem_append_right _ (List.mem_append_right _ (List.mem_append_right _ (List.mem_append_right _ (List.mem_append_right _ (List.mem_append_right _ (List.mem_append_right _ (List.mem_append_right _ (List.mem_append_right _ (List.mem_append_right _ (List.mem_append_right _ (List.mem_append_right _ (List.mem_append_right _ (List.mem_append_left _ h))))))))))))))))))))))))))))))))))))))))))))
theorem tin_wsX100 : ∀ w ∈ wsX100, w ∈ TT := fun _ h => (List.mem_append_right _ (List.mem_append_right _ (List.mem_append_right _ (List.mem_append_right _ (List.mem_append_right _ (List.mem_append_right _ (List.mem_append_right _ (List.mem_append_right _ (List.mem_append_right _ (List.mem_append_right _ (List.mem_append_right _ (List.mem_append_right _ (List.mem_append_right _ (List.mem_append_right _ (List.mem_append_right _ (List.mem_append_right _ (List.mem_append_right _ (List.mem_append_right _ (List.mem_append_right _ (List.mem_append_right _ (List.mem_append_right _ (List.mem_append_right _ (List.mem_append_right _ (List.mem_append_right _ (List.mem_append_right _ (List.mem_append_right _ (List.mem_append_right _ (List.mem_append_right _ (List.mem_append_right _ (List.mem_append_right _ (List.mem_append_right _ (List.mem_append_right _ (List.mem_append_right _ (List.mem_append_right _ (List.mem_append_right _ (List.mem_append_right _ (List.mem_append_right _ (List.mem_append_right _ (List.mem_append_right _ (List.mem_append_right _ (List.mem_append_right _ (List.mem_append_right _ (List.mem_append_right _ (List.mem_append_right _ (List.mem_append_left _ h)))))))))))))))))))))))))))))))))))))))))))))
theorem tin_wsX110 : ∀ w ∈ wsX110, w ∈ TT := fun _ h => (List.mem_append_right _ (List.mem_append_right _ (List.mem_append_right _ (List.mem_append_right _ (List.mem_append_right _ (List.mem_append_right _ (List.mem_append_right _ (List.mem_append_right _ (List.mem_append_right _ (List.mem_append_right _ (List.mem_append_right _ (List.mem_append_right _ (List.mem_append_right _ (List.mem_append_right _ (List.mem_append_right _ (List.mem_append_right _ (List.mem_append_right _ (List.mem_append_right _ (List.mem_append_right _ (List.mem_append_right _ (List.mem_append_right _ (List.mem_append_right _ (List.mem_append_right _ (List.mem_append_right _ (List.mem_append_right _ (List.mem_append_right _ (List.mem_append_right _ (List.mem_append_right _ (List.mem_append_right _ (List.mem_append_right _ (List.mem_append_right _ (List.mem_append_right _ (List.mem_append_right _ (List.mem_append_right _ (List.mem_append_right _ (List.mem_append_right _ (List.mem_append_right _ (List.mem_append_right _ (List.mem_append_right _ (List.mem_append_right _ (List.mem_append_right _ (List.mem_append_right _ (List.mem_append_right _ (List.mem_append_right _ (List.mem_append_right _ h)))))))))))))))))))))))))))))))))))))))))))))
theorem tw0 : (Cond.classLink RL 8 RX10) ∈ TT := tin_TT0 _ (List.mem_of_getElem? (i := 0) rfl)
theorem tw1 : (Cond.instantiable RX10 5) ∈ TT := tin_TT0 _ (List.mem_of_getElem? (i := 1) rfl)
theorem tw2 : (Cond.initialized RX10) ∈ TT := tin_TT0 _ (List.mem_of_getElem? (i := 2) rfl)
theorem tw3 : (Cond.classLink RL 32 RX11) ∈ TT := tin_TT0 _ (List.mem_of_getElem? (i := 3) rfl)
theorem tw4 : (Cond.instantiable RX11 31) ∈ TT := tin_TT0 _ (List.mem_of_getElem? (i := 4) rfl)
theorem tw5 : (Cond.initialized RX11) ∈ TT := tin_TT0 _ (List.mem_of_getElem? (i := 5) rfl)
theorem tw6 : (Cond.arrayClass .long) ∈ TT := tin_TT0 _ (List.mem_of_getElem? (i := 6) rfl)
theorem tw7 : (Cond.constantLong RL 35 (4294967295)) ∈ TT := tin_TT0 _ (List.mem_of_getElem? (i := 7) rfl)
theorem tw8 : (Cond.methodLink RL 23 yL_cell) ∈ TT := tin_TT0 _ (List.mem_of_getElem? (i := 8) rfl)
theorem tw9 : (Cond.static yL_cell) ∈ TT := tin_TT0 _ (List.mem_of_getElem? (i := 9) rfl)
theorem tw10 : (Cond.initialized RL) ∈ TT := tin_TT0 _ (List.mem_of_getElem? (i := 10) rfl)
theorem tw11 : (Cond.code yL_cell cL_cell 2 (some .int)) ∈ TT := tin_TT0 _ (List.mem_of_getElem? (i := 11) rfl)
theorem tw12 : (Cond.methodLink RL 29 yX10_init) ∈ TT := tin_TT0 _ (List.mem_of_getElem? (i := 12) rfl)
theorem tw13 : (Cond.instanceMethod yX10_init) ∈ TT := tin_TT0 _ (List.mem_of_getElem? (i := 13) rfl)
theorem tw14 : (Cond.code yX10_init cX10_init 3 none) ∈ TT := tin_TT0 _ (List.mem_of_getElem? (i := 14) rfl)
theorem tw15 : (Cond.methodLink RX10 1 objectInit) ∈ TT := tin_TT0 _ (List.mem_of_getElem? (i := 15) rfl)
theorem tw16 : (Cond.instanceMethod objectInit) ∈ TT := tin_TT0 _ (List.mem_of_getElem? (i := 16) rfl)
theorem tw17 : (Cond.code objectInit ⟨#[0xb1]⟩ 1 none) ∈ TT := tin_TT0 _ (List.mem_of_getElem? (i := 17) rfl)
theorem tw18 : (Cond.classLink RX10 7 RX6) ∈ TT := tin_TT0 _ (List.mem_of_getElem? (i := 18) rfl)
theorem tw19 : (Cond.instantiable RX6 2) ∈ TT := tin_TT0 _ (List.mem_of_getElem? (i := 19) rfl)
theorem tw20 : (Cond.initialized RX6) ∈ TT := tin_TT0 _ (List.mem_of_getElem? (i := 20) rfl)
theorem tw21 : (Cond.methodLink RX10 11 Lib.Math.min.name) ∈ TT := tin_TT0 _ (List.mem_of_getElem? (i := 21) rfl)
theorem tw22 : (Cond.static Lib.Math.min.name) ∈ TT := tin_TT0 _ (List.mem_of_getElem? (i := 22) rfl)
theorem tw23 : (Cond.initialized "java/lang/Math") ∈ TT := tin_TT0 _ (List.mem_of_getElem? (i := 23) rfl)
theorem tw24 : (Cond.code Lib.Math.min.name Lib.Math.min.code 2 (some .int)) ∈ TT := tin_TT1 _ (List.mem_of_getElem? (i := 0) rfl)
theorem tw25 : (Cond.methodLink RX10 17 Lib.Math.max.name) ∈ TT := tin_TT1 _ (List.mem_of_getElem? (i := 1) rfl)
theorem tw26 : (Cond.static Lib.Math.max.name) ∈ TT := tin_TT1 _ (List.mem_of_getElem? (i := 2) rfl)
theorem tw27 : (Cond.code Lib.Math.max.name Lib.Math.max.code 2 (some .int)) ∈ TT := tin_TT1 _ (List.mem_of_getElem? (i := 3) rfl)
theorem tw28 : (Cond.fieldLink RX10 23 "TimedThreads" "memory" "LTimedThreads$SharedMemory;") ∈ TT := tin_TT1 _ (List.mem_of_getElem? (i := 4) rfl)
theorem tw29 : (Cond.classLink RX10 27 RX8) ∈ TT := tin_TT1 _ (List.mem_of_getElem? (i := 5) rfl)
theorem tw30 : (Cond.fieldLink RX10 29 "TimedThreads" "threads" "[LTimedThreads$TimedThread;") ∈ TT := tin_TT1 _ (List.mem_of_getElem? (i := 6) rfl)
theorem tw31 : (Cond.instantiable RX8 12) ∈ TT := tin_TT1 _ (List.mem_of_getElem? (i := 7) rfl)
theorem tw32 : (Cond.initialized RX8) ∈ TT := tin_TT1 _ (List.mem_of_getElem? (i := 8) rfl)
theorem tw33 : (Cond.classLink RX10 34 RX7) ∈ TT := tin_TT1 _ (List.mem_of_getElem? (i := 9) rfl)
theorem tw34 : (Cond.instantiable RX7 2) ∈ TT := tin_TT1 _ (List.mem_of_getElem? (i := 10) rfl)
theorem tw35 : (Cond.initialized RX7) ∈ TT := tin_TT1 _ (List.mem_of_getElem? (i := 11) rfl)
theorem tw36 : (Cond.fieldLink RX10 37 "TimedThreads" "text" "LTimedThreads$Text;") ∈ TT := tin_TT1 _ (List.mem_of_getElem? (i := 12) rfl)
theorem tw37 : (Cond.classLink RX10 41 RX0) ∈ TT := tin_TT1 _ (List.mem_of_getElem? (i := 13) rfl)
theorem tw38 : (Cond.instantiable RX0 15) ∈ TT := tin_TT1 _ (List.mem_of_getElem? (i := 14) rfl)
theorem tw39 : (Cond.initialized RX0) ∈ TT := tin_TT1 _ (List.mem_of_getElem? (i := 15) rfl)
theorem tw40 : (Cond.fieldLink RX10 44 "TimedThreads" "assembler" "LTimedThreads$Assembler;") ∈ TT := tin_TT1 _ (List.mem_of_getElem? (i := 16) rfl)
theorem tw41 : (Cond.methodLink RX10 20 yX6_init) ∈ TT := tin_TT1 _ (List.mem_of_getElem? (i := 17) rfl)
theorem tw42 : (Cond.instanceMethod yX6_init) ∈ TT := tin_TT1 _ (List.mem_of_getElem? (i := 18) rfl)
theorem tw43 : (Cond.code yX6_init cX6_init 2 none) ∈ TT := tin_TT1 _ (List.mem_of_getElem? (i := 19) rfl)
theorem tw44 : (Cond.methodLink RX6 3 objectInit) ∈ TT := tin_TT1 _ (List.mem_of_getElem? (i := 20) rfl)
theorem tw45 : (Cond.arrayClass .int) ∈ TT := tin_TT1 _ (List.mem_of_getElem? (i := 21) rfl)
theorem tw46 : (Cond.fieldLink RX6 9 "TimedThreads$SharedMemory" "words" "[I") ∈ TT := tin_TT1 _ (List.mem_of_getElem? (i := 22) rfl)
theorem tw47 : (Cond.fieldLink RX6 15 "TimedThreads$SharedMemory" "wheel" "I") ∈ TT := tin_TT1 _ (List.mem_of_getElem? (i := 23) rfl)
theorem tw48 : (Cond.methodLink RX10 33 yX8_init) ∈ TT := tin_TT2 _ (List.mem_of_getElem? (i := 0) rfl)
theorem tw49 : (Cond.instanceMethod yX8_init) ∈ TT := tin_TT2 _ (List.mem_of_getElem? (i := 1) rfl)
theorem tw50 : (Cond.code yX8_init cX8_init 2 none) ∈ TT := tin_TT2 _ (List.mem_of_getElem? (i := 2) rfl)
theorem tw51 : (Cond.methodLink RX8 3 objectInit) ∈ TT := tin_TT2 _ (List.mem_of_getElem? (i := 3) rfl)
theorem tw52 : (Cond.fieldLink RX8 9 "TimedThreads$TimedThread" "registers" "[I") ∈ TT := tin_TT2 _ (List.mem_of_getElem? (i := 4) rfl)
theorem tw53 : (Cond.fieldLink RX8 15 "TimedThreads$TimedThread" "store" "[I") ∈ TT := tin_TT2 _ (List.mem_of_getElem? (i := 5) rfl)
theorem tw54 : (Cond.classLink RX8 18 RX2) ∈ TT := tin_TT2 _ (List.mem_of_getElem? (i := 6) rfl)
theorem tw55 : (Cond.instantiable RX2 4) ∈ TT := tin_TT2 _ (List.mem_of_getElem? (i := 7) rfl)
theorem tw56 : (Cond.initialized RX2) ∈ TT := tin_TT2 _ (List.mem_of_getElem? (i := 8) rfl)
theorem tw57 : (Cond.fieldLink RX8 21 "TimedThreads$TimedThread" "history" "LTimedThreads$History;") ∈ TT := tin_TT2 _ (List.mem_of_getElem? (i := 9) rfl)
theorem tw58 : (Cond.fieldLink RX8 25 "TimedThreads$TimedThread" "timers" "[I") ∈ TT := tin_TT2 _ (List.mem_of_getElem? (i := 10) rfl)
theorem tw59 : (Cond.fieldLink RX8 28 "TimedThreads$TimedThread" "status" "I") ∈ TT := tin_TT2 _ (List.mem_of_getElem? (i := 11) rfl)
theorem tw60 : (Cond.fieldLink RX8 32 "TimedThreads$TimedThread" "number" "I") ∈ TT := tin_TT2 _ (List.mem_of_getElem? (i := 12) rfl)
theorem tw61 : (Cond.instanceMethod yX2_init) ∈ TT := tin_TT2 _ (List.mem_of_getElem? (i := 13) rfl)
theorem tw62 : (Cond.code yX2_init cX2_init 1 none) ∈ TT := tin_TT2 _ (List.mem_of_getElem? (i := 14) rfl)
theorem tw63 : (Cond.methodLink RX2 3 objectInit) ∈ TT := tin_TT2 _ (List.mem_of_getElem? (i := 15) rfl)
theorem tw64 : (Cond.fieldLink RX2 9 "TimedThreads$History" "addresses" "[I") ∈ TT := tin_TT2 _ (List.mem_of_getElem? (i := 16) rfl)
theorem tw65 : (Cond.fieldLink RX2 15 "TimedThreads$History" "cycles" "[I") ∈ TT := tin_TT2 _ (List.mem_of_getElem? (i := 17) rfl)
theorem tw66 : (Cond.fieldLink RX2 18 "TimedThreads$History" "retirements" "[I") ∈ TT := tin_TT2 _ (List.mem_of_getElem? (i := 18) rfl)
theorem tw67 : (Cond.instanceMethod yX7_init) ∈ TT := tin_TT2 _ (List.mem_of_getElem? (i := 19) rfl)
theorem tw68 : (Cond.code yX7_init cX7_init 1 none) ∈ TT := tin_TT2 _ (List.mem_of_getElem? (i := 20) rfl)
theorem tw69 : (Cond.methodLink RX7 3 objectInit) ∈ TT := tin_TT2 _ (List.mem_of_getElem? (i := 21) rfl)
theorem tw70 : (Cond.arrayClass .char) ∈ TT := tin_TT2 _ (List.mem_of_getElem? (i := 22) rfl)
theorem tw71 : (Cond.fieldLink RX7 9 "TimedThreads$Text" "characters" "[C") ∈ TT := tin_TT2 _ (List.mem_of_getElem? (i := 23) rfl)
theorem tw72 : (Cond.instanceMethod yX0_init) ∈ TT := tin_TT3 _ (List.mem_of_getElem? (i := 0) rfl)
theorem tw73 : (Cond.code yX0_init cX0_init 1 none) ∈ TT := tin_TT3 _ (List.mem_of_getElem? (i := 1) rfl)
theorem tw74 : (Cond.methodLink RX0 3 objectInit) ∈ TT := tin_TT3 _ (List.mem_of_getElem? (i := 2) rfl)
theorem tw75 : (Cond.fieldLink RX0 9 "TimedThreads$Assembler" "words" "[I") ∈ TT := tin_TT3 _ (List.mem_of_getElem? (i := 3) rfl)
theorem tw76 : (Cond.fieldLink RX0 15 "TimedThreads$Assembler" "targets" "[J") ∈ TT := tin_TT3 _ (List.mem_of_getElem? (i := 4) rfl)
theorem tw77 : (Cond.fieldLink RX0 19 "TimedThreads$Assembler" "lines" "[I") ∈ TT := tin_TT3 _ (List.mem_of_getElem? (i := 5) rfl)
theorem tw78 : (Cond.classLink RX0 22 RX3) ∈ TT := tin_TT3 _ (List.mem_of_getElem? (i := 6) rfl)
theorem tw79 : (Cond.instantiable RX3 3) ∈ TT := tin_TT3 _ (List.mem_of_getElem? (i := 7) rfl)
theorem tw80 : (Cond.initialized RX3) ∈ TT := tin_TT3 _ (List.mem_of_getElem? (i := 8) rfl)
theorem tw81 : (Cond.fieldLink RX0 25 "TimedThreads$Assembler" "labels" "LTimedThreads$Labels;") ∈ TT := tin_TT3 _ (List.mem_of_getElem? (i := 9) rfl)
theorem tw82 : (Cond.classLink RX0 29 RX9) ∈ TT := tin_TT3 _ (List.mem_of_getElem? (i := 10) rfl)
theorem tw83 : (Cond.instantiable RX9 6) ∈ TT := tin_TT3 _ (List.mem_of_getElem? (i := 11) rfl)
theorem tw84 : (Cond.initialized RX9) ∈ TT := tin_TT3 _ (List.mem_of_getElem? (i := 12) rfl)
theorem tw85 : (Cond.fieldLink RX0 32 "TimedThreads$Assembler" "tokens" "LTimedThreads$Tokens;") ∈ TT := tin_TT3 _ (List.mem_of_getElem? (i := 13) rfl)
theorem tw86 : (Cond.instanceMethod yX3_init) ∈ TT := tin_TT3 _ (List.mem_of_getElem? (i := 14) rfl)
theorem tw87 : (Cond.code yX3_init cX3_init 1 none) ∈ TT := tin_TT3 _ (List.mem_of_getElem? (i := 15) rfl)
theorem tw88 : (Cond.methodLink RX3 3 objectInit) ∈ TT := tin_TT3 _ (List.mem_of_getElem? (i := 16) rfl)
theorem tw89 : (Cond.fieldLink RX3 9 "TimedThreads$Labels" "keys" "[J") ∈ TT := tin_TT3 _ (List.mem_of_getElem? (i := 17) rfl)
theorem tw90 : (Cond.fieldLink RX3 15 "TimedThreads$Labels" "places" "[I") ∈ TT := tin_TT3 _ (List.mem_of_getElem? (i := 18) rfl)
theorem tw91 : (Cond.instanceMethod yX9_init) ∈ TT := tin_TT3 _ (List.mem_of_getElem? (i := 19) rfl)
theorem tw92 : (Cond.code yX9_init cX9_init 1 none) ∈ TT := tin_TT3 _ (List.mem_of_getElem? (i := 20) rfl)
theorem tw93 : (Cond.methodLink RX9 3 objectInit) ∈ TT := tin_TT3 _ (List.mem_of_getElem? (i := 21) rfl)
theorem tw94 : (Cond.fieldLink RX9 9 "TimedThreads$Tokens" "kinds" "[C") ∈ TT := tin_TT3 _ (List.mem_of_getElem? (i := 22) rfl)
theorem tw95 : (Cond.fieldLink RX9 15 "TimedThreads$Tokens" "values" "[J") ∈ TT := tin_TT3 _ (List.mem_of_getElem? (i := 23) rfl)
theorem tw96 : (Cond.methodLink RL 34 yX11_init) ∈ TT := tin_TT4 _ (List.mem_of_getElem? (i := 0) rfl)
theorem tw97 : (Cond.instanceMethod yX11_init) ∈ TT := tin_TT4 _ (List.mem_of_getElem? (i := 1) rfl)
theorem tw98 : (Cond.code yX11_init cX11_init 2 none) ∈ TT := tin_TT4 _ (List.mem_of_getElem? (i := 2) rfl)
theorem tw99 : (Cond.methodLink RX11 1 objectInit) ∈ TT := tin_TT4 _ (List.mem_of_getElem? (i := 3) rfl)
theorem tw100 : (Cond.fieldLink RX11 7 "TimedThreadsModel" "text" "[C") ∈ TT := tin_TT4 _ (List.mem_of_getElem? (i := 4) rfl)
theorem tw101 : (Cond.fieldLink RX11 13 "TimedThreadsModel" "code" "[I") ∈ TT := tin_TT4 _ (List.mem_of_getElem? (i := 5) rfl)
theorem tw102 : (Cond.fieldLink RX11 17 "TimedThreadsModel" "label" "[J") ∈ TT := tin_TT4 _ (List.mem_of_getElem? (i := 6) rfl)
theorem tw103 : (Cond.fieldLink RX11 21 "TimedThreadsModel" "labelWord" "[I") ∈ TT := tin_TT4 _ (List.mem_of_getElem? (i := 7) rfl)
theorem tw104 : (Cond.fieldLink RX11 24 "TimedThreadsModel" "target" "[J") ∈ TT := tin_TT4 _ (List.mem_of_getElem? (i := 8) rfl)
theorem tw105 : (Cond.fieldLink RX11 27 "TimedThreadsModel" "targetWord" "[I") ∈ TT := tin_TT4 _ (List.mem_of_getElem? (i := 9) rfl)
theorem tw106 : (Cond.fieldLink RX11 30 "TimedThreadsModel" "targetLine" "[I") ∈ TT := tin_TT4 _ (List.mem_of_getElem? (i := 10) rfl)
theorem tw107 : (Cond.fieldLink RX11 33 "TimedThreadsModel" "store" "[I") ∈ TT := tin_TT4 _ (List.mem_of_getElem? (i := 11) rfl)
theorem tw108 : (Cond.fieldLink RX11 36 "TimedThreadsModel" "common" "[I") ∈ TT := tin_TT4 _ (List.mem_of_getElem? (i := 12) rfl)
theorem tw109 : (Cond.fieldLink RX11 39 "TimedThreadsModel" "low" "[I") ∈ TT := tin_TT4 _ (List.mem_of_getElem? (i := 13) rfl)
theorem tw110 : (Cond.fieldLink RX11 42 "TimedThreadsModel" "high" "[I") ∈ TT := tin_TT4 _ (List.mem_of_getElem? (i := 14) rfl)
theorem tw111 : (Cond.fieldLink RX11 45 "TimedThreadsModel" "register" "[I") ∈ TT := tin_TT4 _ (List.mem_of_getElem? (i := 15) rfl)
theorem tw112 : (Cond.fieldLink RX11 48 "TimedThreadsModel" "address" "[I") ∈ TT := tin_TT4 _ (List.mem_of_getElem? (i := 16) rfl)
theorem tw113 : (Cond.fieldLink RX11 51 "TimedThreadsModel" "status" "[I") ∈ TT := tin_TT4 _ (List.mem_of_getElem? (i := 17) rfl)
theorem tw114 : (Cond.fieldLink RX11 54 "TimedThreadsModel" "did" "[I") ∈ TT := tin_TT4 _ (List.mem_of_getElem? (i := 18) rfl)
theorem tw115 : (Cond.fieldLink RX11 57 "TimedThreadsModel" "ready" "[I") ∈ TT := tin_TT4 _ (List.mem_of_getElem? (i := 19) rfl)
theorem tw116 : (Cond.fieldLink RX11 60 "TimedThreadsModel" "timer" "[I") ∈ TT := tin_TT4 _ (List.mem_of_getElem? (i := 20) rfl)
theorem tw117 : (Cond.fieldLink RX11 63 "TimedThreadsModel" "trace" "[I") ∈ TT := tin_TT4 _ (List.mem_of_getElem? (i := 21) rfl)
theorem tw118 : (Cond.fieldLink RX11 66 "TimedThreadsModel" "wheel" "I") ∈ TT := tin_TT4 _ (List.mem_of_getElem? (i := 22) rfl)
theorem tw119 : (Cond.methodLink RL 37 yL_type) ∈ TT := tin_TT4 _ (List.mem_of_getElem? (i := 23) rfl)
theorem tw120 : (Cond.static yL_type) ∈ TT := tin_TT5 _ (List.mem_of_getElem? (i := 0) rfl)
theorem tw121 : (Cond.codeWith yL_type cL_type 6 (some .int) [(0, 11, 14, 13), (0, 11, 18, 15)]) ∈ TT := tin_TT5 _ (List.mem_of_getElem? (i := 1) rfl)
theorem tw122 : (Cond.classLink RL 13 "java/lang/IllegalArgumentException") ∈ TT := tin_TT5 _ (List.mem_of_getElem? (i := 2) rfl)
theorem tw123 : (Cond.classLink RL 15 "java/lang/IllegalStateException") ∈ TT := tin_TT5 _ (List.mem_of_getElem? (i := 3) rfl)
theorem tw124 : (Cond.methodLink RL 7 yX10_type) ∈ TT := tin_TT5 _ (List.mem_of_getElem? (i := 4) rfl)
theorem tw125 : (Cond.instanceMethod yX10_type) ∈ TT := tin_TT5 _ (List.mem_of_getElem? (i := 5) rfl)
theorem tw126 : (Cond.selects RX10 yX10_type yX10_type) ∈ TT := tin_TT5 _ (List.mem_of_getElem? (i := 6) rfl)
theorem tw127 : (Cond.code yX10_type cX10_type 4 (some .int)) ∈ TT := tin_TT5 _ (List.mem_of_getElem? (i := 7) rfl)
theorem tw128 : (Cond.classLink RX10 52 "java/lang/IllegalArgumentException") ∈ TT := tin_TT5 _ (List.mem_of_getElem? (i := 8) rfl)
theorem tw129 : (Cond.initialized "java/lang/IllegalArgumentException") ∈ TT := tin_TT5 _ (List.mem_of_getElem? (i := 9) rfl)
theorem tw130 : (Cond.classLink RX10 59 "java/lang/IllegalStateException") ∈ TT := tin_TT5 _ (List.mem_of_getElem? (i := 10) rfl)
theorem tw131 : (Cond.initialized "java/lang/IllegalStateException") ∈ TT := tin_TT5 _ (List.mem_of_getElem? (i := 11) rfl)
theorem tw132 : (Cond.fieldLink RX10 55 "TimedThreads$Text" "length" "I") ∈ TT := tin_TT5 _ (List.mem_of_getElem? (i := 12) rfl)
theorem tw133 : (Cond.methodLink RX10 48 yX7_canBeTyped) ∈ TT := tin_TT5 _ (List.mem_of_getElem? (i := 13) rfl)
theorem tw134 : (Cond.static yX7_canBeTyped) ∈ TT := tin_TT5 _ (List.mem_of_getElem? (i := 14) rfl)
theorem tw135 : (Cond.code yX7_canBeTyped cX7_canBeTyped 5 (some .boolean)) ∈ TT := tin_TT5 _ (List.mem_of_getElem? (i := 15) rfl)
theorem tw136 : (Cond.methodLink RX7 15 yX7_byteOf) ∈ TT := tin_TT5 _ (List.mem_of_getElem? (i := 16) rfl)
theorem tw137 : (Cond.static yX7_byteOf) ∈ TT := tin_TT5 _ (List.mem_of_getElem? (i := 17) rfl)
theorem tw138 : (Cond.code yX7_byteOf cX7_byteOf 3 (some .char)) ∈ TT := tin_TT5 _ (List.mem_of_getElem? (i := 18) rfl)
theorem tw139 : (Cond.constantLong RX7 23 (255)) ∈ TT := tin_TT5 _ (List.mem_of_getElem? (i := 19) rfl)
theorem tw140 : (Cond.methodLink RX10 62 yX7_add) ∈ TT := tin_TT5 _ (List.mem_of_getElem? (i := 20) rfl)
theorem tw141 : (Cond.instanceMethod yX7_add) ∈ TT := tin_TT5 _ (List.mem_of_getElem? (i := 21) rfl)
theorem tw142 : (Cond.selects RX7 yX7_add yX7_add) ∈ TT := tin_TT5 _ (List.mem_of_getElem? (i := 22) rfl)
theorem tw143 : (Cond.code yX7_add cX7_add 5 none) ∈ TT := tin_TT5 _ (List.mem_of_getElem? (i := 23) rfl)
theorem tw144 : (Cond.fieldLink RX7 19 "TimedThreads$Text" "length" "I") ∈ TT := tin_TT6 _ (List.mem_of_getElem? (i := 0) rfl)
theorem tw145 : (Cond.methodLink RL 40 yX11_type) ∈ TT := tin_TT6 _ (List.mem_of_getElem? (i := 1) rfl)
theorem tw146 : (Cond.instanceMethod yX11_type) ∈ TT := tin_TT6 _ (List.mem_of_getElem? (i := 2) rfl)
theorem tw147 : (Cond.selects RX11 yX11_type yX11_type) ∈ TT := tin_TT6 _ (List.mem_of_getElem? (i := 3) rfl)
theorem tw148 : (Cond.code yX11_type cX11_type 6 (some .int)) ∈ TT := tin_TT6 _ (List.mem_of_getElem? (i := 4) rfl)
theorem tw149 : (Cond.constantLong RX11 79 (255)) ∈ TT := tin_TT6 _ (List.mem_of_getElem? (i := 5) rfl)
theorem tw150 : (Cond.fieldLink RX11 85 "TimedThreadsModel" "length" "I") ∈ TT := tin_TT6 _ (List.mem_of_getElem? (i := 6) rfl)
theorem tw151 : (Cond.fieldLink RX11 70 "TimedThreadsModel" "refusal" "I") ∈ TT := tin_TT6 _ (List.mem_of_getElem? (i := 7) rfl)
theorem tw152 : (Cond.methodLink RX11 81 yX11_isCharacter) ∈ TT := tin_TT6 _ (List.mem_of_getElem? (i := 8) rfl)
theorem tw153 : (Cond.static yX11_isCharacter) ∈ TT := tin_TT6 _ (List.mem_of_getElem? (i := 9) rfl)
theorem tw154 : (Cond.code yX11_isCharacter cX11_isCharacter 2 (some .boolean)) ∈ TT := tin_TT6 _ (List.mem_of_getElem? (i := 10) rfl)
theorem tw155 : (Cond.constantLong RX11 73 (10)) ∈ TT := tin_TT6 _ (List.mem_of_getElem? (i := 11) rfl)
theorem tw156 : (Cond.constantLong RX11 75 (32)) ∈ TT := tin_TT6 _ (List.mem_of_getElem? (i := 12) rfl)
theorem tw157 : (Cond.constantLong RX11 77 (126)) ∈ TT := tin_TT6 _ (List.mem_of_getElem? (i := 13) rfl)
theorem tw158 : (Cond.methodLink RL 41 yX11_thrown) ∈ TT := tin_TT6 _ (List.mem_of_getElem? (i := 14) rfl)
theorem tw159 : (Cond.instanceMethod yX11_thrown) ∈ TT := tin_TT6 _ (List.mem_of_getElem? (i := 15) rfl)
theorem tw160 : (Cond.selects RX11 yX11_thrown yX11_thrown) ∈ TT := tin_TT6 _ (List.mem_of_getElem? (i := 16) rfl)
theorem tw161 : (Cond.code yX11_thrown cX11_thrown 1 (some .int)) ∈ TT := tin_TT6 _ (List.mem_of_getElem? (i := 17) rfl)
theorem tw162 : (Cond.methodLink RL 45 yX10_clear) ∈ TT := tin_TT6 _ (List.mem_of_getElem? (i := 18) rfl)
theorem tw163 : (Cond.instanceMethod yX10_clear) ∈ TT := tin_TT6 _ (List.mem_of_getElem? (i := 19) rfl)
theorem tw164 : (Cond.selects RX10 yX10_clear yX10_clear) ∈ TT := tin_TT6 _ (List.mem_of_getElem? (i := 20) rfl)
theorem tw165 : (Cond.code yX10_clear cX10_clear 2 (some .int)) ∈ TT := tin_TT6 _ (List.mem_of_getElem? (i := 21) rfl)
theorem tw166 : (Cond.methodLink RL 48 yX11_clear) ∈ TT := tin_TT6 _ (List.mem_of_getElem? (i := 22) rfl)
theorem tw167 : (Cond.instanceMethod yX11_clear) ∈ TT := tin_TT6 _ (List.mem_of_getElem? (i := 23) rfl)
theorem tw168 : (Cond.selects RX11 yX11_clear yX11_clear) ∈ TT := tin_TT7 _ (List.mem_of_getElem? (i := 0) rfl)
theorem tw169 : (Cond.code yX11_clear cX11_clear 2 (some .int)) ∈ TT := tin_TT7 _ (List.mem_of_getElem? (i := 1) rfl)
theorem tw170 : (Cond.methodLink RL 49 yL_assemble) ∈ TT := tin_TT7 _ (List.mem_of_getElem? (i := 2) rfl)
theorem tw171 : (Cond.static yL_assemble) ∈ TT := tin_TT7 _ (List.mem_of_getElem? (i := 3) rfl)
theorem tw172 : (Cond.codeWith yL_assemble cL_assemble 5 (some .int) [(0, 10, 13, 21), (0, 10, 17, 13)]) ∈ TT := tin_TT7 _ (List.mem_of_getElem? (i := 4) rfl)
theorem tw173 : (Cond.classLink RL 21 "java/util/NoSuchElementException") ∈ TT := tin_TT7 _ (List.mem_of_getElem? (i := 5) rfl)
theorem tw174 : (Cond.methodLink RL 17 yX10_assemble) ∈ TT := tin_TT7 _ (List.mem_of_getElem? (i := 6) rfl)
theorem tw175 : (Cond.instanceMethod yX10_assemble) ∈ TT := tin_TT7 _ (List.mem_of_getElem? (i := 7) rfl)
theorem tw176 : (Cond.selects RX10 yX10_assemble yX10_assemble) ∈ TT := tin_TT7 _ (List.mem_of_getElem? (i := 8) rfl)
theorem tw177 : (Cond.code yX10_assemble cX10_assemble 3 (some .int)) ∈ TT := tin_TT7 _ (List.mem_of_getElem? (i := 9) rfl)
theorem tw178 : (Cond.classLink RX10 70 "java/util/NoSuchElementException") ∈ TT := tin_TT7 _ (List.mem_of_getElem? (i := 10) rfl)
theorem tw179 : (Cond.initialized "java/util/NoSuchElementException") ∈ TT := tin_TT7 _ (List.mem_of_getElem? (i := 11) rfl)
theorem tw180 : (Cond.fieldLink RX10 77 "TimedThreads$Assembler" "faultKind" "I") ∈ TT := tin_TT7 _ (List.mem_of_getElem? (i := 12) rfl)
theorem tw181 : (Cond.fieldLink RX10 80 "TimedThreads$Assembler" "words" "[I") ∈ TT := tin_TT7 _ (List.mem_of_getElem? (i := 13) rfl)
theorem tw182 : (Cond.fieldLink RX10 84 "TimedThreads$TimedThread" "store" "[I") ∈ TT := tin_TT7 _ (List.mem_of_getElem? (i := 14) rfl)
theorem tw183 : (Cond.fieldLink RX10 87 "TimedThreads$Assembler" "count" "I") ∈ TT := tin_TT7 _ (List.mem_of_getElem? (i := 15) rfl)
theorem tw184 : (Cond.methodLink RX10 90 arraycopyName) ∈ TT := tin_TT7 _ (List.mem_of_getElem? (i := 16) rfl)
theorem tw185 : (Cond.native arraycopyName) ∈ TT := tin_TT7 _ (List.mem_of_getElem? (i := 17) rfl)
theorem tw186 : (Cond.static arraycopyName) ∈ TT := tin_TT7 _ (List.mem_of_getElem? (i := 18) rfl)
theorem tw187 : (Cond.initialized "java/lang/System") ∈ TT := tin_TT7 _ (List.mem_of_getElem? (i := 19) rfl)
theorem tw188 : (Cond.methodLink RX10 66 yX10_isStoreWord) ∈ TT := tin_TT7 _ (List.mem_of_getElem? (i := 20) rfl)
theorem tw189 : (Cond.static yX10_isStoreWord) ∈ TT := tin_TT7 _ (List.mem_of_getElem? (i := 21) rfl)
theorem tw190 : (Cond.code yX10_isStoreWord cX10_isStoreWord 2 (some .boolean)) ∈ TT := tin_TT7 _ (List.mem_of_getElem? (i := 22) rfl)
theorem tw191 : (Cond.methodLink RX10 100 yX10_isThread) ∈ TT := tin_TT7 _ (List.mem_of_getElem? (i := 23) rfl)
theorem tw192 : (Cond.static yX10_isThread) ∈ TT := tin_TT8 _ (List.mem_of_getElem? (i := 0) rfl)
theorem tw193 : (Cond.code yX10_isThread cX10_isThread 1 (some .boolean)) ∈ TT := tin_TT8 _ (List.mem_of_getElem? (i := 1) rfl)
theorem tw194 : (Cond.methodLink RX10 73 yX0_read) ∈ TT := tin_TT8 _ (List.mem_of_getElem? (i := 2) rfl)
theorem tw195 : (Cond.instanceMethod yX0_read) ∈ TT := tin_TT8 _ (List.mem_of_getElem? (i := 3) rfl)
theorem tw196 : (Cond.selects RX0 yX0_read yX0_read) ∈ TT := tin_TT8 _ (List.mem_of_getElem? (i := 4) rfl)
theorem tw197 : (Cond.code yX0_read cX0_read 5 none) ∈ TT := tin_TT8 _ (List.mem_of_getElem? (i := 5) rfl)
theorem tw198 : (Cond.fieldLink RX0 40 "TimedThreads$Assembler" "at" "I") ∈ TT := tin_TT8 _ (List.mem_of_getElem? (i := 6) rfl)
theorem tw199 : (Cond.fieldLink RX0 44 "TimedThreads$Assembler" "count" "I") ∈ TT := tin_TT8 _ (List.mem_of_getElem? (i := 7) rfl)
theorem tw200 : (Cond.fieldLink RX0 47 "TimedThreads$Labels" "count" "I") ∈ TT := tin_TT8 _ (List.mem_of_getElem? (i := 8) rfl)
theorem tw201 : (Cond.fieldLink RX0 48 "TimedThreads$Assembler" "faultKind" "I") ∈ TT := tin_TT8 _ (List.mem_of_getElem? (i := 9) rfl)
theorem tw202 : (Cond.fieldLink RX0 51 "TimedThreads$Assembler" "faultLine" "I") ∈ TT := tin_TT8 _ (List.mem_of_getElem? (i := 10) rfl)
theorem tw203 : (Cond.methodLink RX0 36 yX9_split) ∈ TT := tin_TT8 _ (List.mem_of_getElem? (i := 11) rfl)
theorem tw204 : (Cond.instanceMethod yX9_split) ∈ TT := tin_TT8 _ (List.mem_of_getElem? (i := 12) rfl)
theorem tw205 : (Cond.selects RX9 yX9_split yX9_split) ∈ TT := tin_TT8 _ (List.mem_of_getElem? (i := 13) rfl)
theorem tw206 : (Cond.code yX9_split cX9_split 4 none) ∈ TT := tin_TT8 _ (List.mem_of_getElem? (i := 14) rfl)
theorem tw207 : (Cond.fieldLink RX9 19 "TimedThreads$Text" "characters" "[C") ∈ TT := tin_TT8 _ (List.mem_of_getElem? (i := 15) rfl)
theorem tw208 : (Cond.fieldLink RX9 24 "TimedThreads$Tokens" "characters" "[C") ∈ TT := tin_TT8 _ (List.mem_of_getElem? (i := 16) rfl)
theorem tw209 : (Cond.fieldLink RX9 25 "TimedThreads$Text" "length" "I") ∈ TT := tin_TT8 _ (List.mem_of_getElem? (i := 17) rfl)
theorem tw210 : (Cond.fieldLink RX9 29 "TimedThreads$Tokens" "length" "I") ∈ TT := tin_TT8 _ (List.mem_of_getElem? (i := 18) rfl)
theorem tw211 : (Cond.fieldLink RX9 30 "TimedThreads$Tokens" "count" "I") ∈ TT := tin_TT8 _ (List.mem_of_getElem? (i := 19) rfl)
theorem tw212 : (Cond.fieldLink RX9 33 "TimedThreads$Tokens" "at" "I") ∈ TT := tin_TT8 _ (List.mem_of_getElem? (i := 20) rfl)
theorem tw213 : (Cond.methodLink RX9 36 yX9_isLetter) ∈ TT := tin_TT8 _ (List.mem_of_getElem? (i := 21) rfl)
theorem tw214 : (Cond.static yX9_isLetter) ∈ TT := tin_TT8 _ (List.mem_of_getElem? (i := 22) rfl)
theorem tw215 : (Cond.code yX9_isLetter cX9_isLetter 1 (some .boolean)) ∈ TT := tin_TT8 _ (List.mem_of_getElem? (i := 23) rfl)
theorem tw216 : (Cond.methodLink RX9 40 yX9_takeLetters) ∈ TT := tin_TT9 _ (List.mem_of_getElem? (i := 0) rfl)
theorem tw217 : (Cond.instanceMethod yX9_takeLetters) ∈ TT := tin_TT9 _ (List.mem_of_getElem? (i := 1) rfl)
theorem tw218 : (Cond.selects RX9 yX9_takeLetters yX9_takeLetters) ∈ TT := tin_TT9 _ (List.mem_of_getElem? (i := 2) rfl)
theorem tw219 : (Cond.code yX9_takeLetters cX9_takeLetters 5 none) ∈ TT := tin_TT9 _ (List.mem_of_getElem? (i := 3) rfl)
theorem tw220 : (Cond.methodLink RX9 58 yX9_withLetter) ∈ TT := tin_TT9 _ (List.mem_of_getElem? (i := 4) rfl)
theorem tw221 : (Cond.static yX9_withLetter) ∈ TT := tin_TT9 _ (List.mem_of_getElem? (i := 5) rfl)
theorem tw222 : (Cond.code yX9_withLetter cX9_withLetter 3 (some .long)) ∈ TT := tin_TT9 _ (List.mem_of_getElem? (i := 6) rfl)
theorem tw223 : (Cond.methodLink RX9 43 yX9_isDigit) ∈ TT := tin_TT9 _ (List.mem_of_getElem? (i := 7) rfl)
theorem tw224 : (Cond.static yX9_isDigit) ∈ TT := tin_TT9 _ (List.mem_of_getElem? (i := 8) rfl)
theorem tw225 : (Cond.code yX9_isDigit cX9_isDigit 1 (some .boolean)) ∈ TT := tin_TT9 _ (List.mem_of_getElem? (i := 9) rfl)
theorem tw226 : (Cond.methodLink RX9 62 yX9_takeRegister) ∈ TT := tin_TT9 _ (List.mem_of_getElem? (i := 10) rfl)
theorem tw227 : (Cond.instanceMethod yX9_takeRegister) ∈ TT := tin_TT9 _ (List.mem_of_getElem? (i := 11) rfl)
theorem tw228 : (Cond.selects RX9 yX9_takeRegister yX9_takeRegister) ∈ TT := tin_TT9 _ (List.mem_of_getElem? (i := 12) rfl)
theorem tw229 : (Cond.code yX9_takeRegister cX9_takeRegister 4 none) ∈ TT := tin_TT9 _ (List.mem_of_getElem? (i := 13) rfl)
theorem tw230 : (Cond.constantLong RX9 69 (16)) ∈ TT := tin_TT9 _ (List.mem_of_getElem? (i := 14) rfl)
theorem tw231 : (Cond.methodLink RX9 65 yX9_takeDigits) ∈ TT := tin_TT9 _ (List.mem_of_getElem? (i := 15) rfl)
theorem tw232 : (Cond.instanceMethod yX9_takeDigits) ∈ TT := tin_TT9 _ (List.mem_of_getElem? (i := 16) rfl)
theorem tw233 : (Cond.selects RX9 yX9_takeDigits yX9_takeDigits) ∈ TT := tin_TT9 _ (List.mem_of_getElem? (i := 17) rfl)
theorem tw234 : (Cond.code yX9_takeDigits cX9_takeDigits 4 (some .long)) ∈ TT := tin_TT9 _ (List.mem_of_getElem? (i := 18) rfl)
theorem tw235 : (Cond.constantLong RX9 71 (10)) ∈ TT := tin_TT9 _ (List.mem_of_getElem? (i := 19) rfl)
theorem tw236 : (Cond.constantLong RX9 73 (1099511627776)) ∈ TT := tin_TT9 _ (List.mem_of_getElem? (i := 20) rfl)
theorem tw237 : (Cond.methodLink RX9 54 yX9_add) ∈ TT := tin_TT9 _ (List.mem_of_getElem? (i := 21) rfl)
theorem tw238 : (Cond.instanceMethod yX9_add) ∈ TT := tin_TT9 _ (List.mem_of_getElem? (i := 22) rfl)
theorem tw239 : (Cond.selects RX9 yX9_add yX9_add) ∈ TT := tin_TT9 _ (List.mem_of_getElem? (i := 23) rfl)
theorem tw240 : (Cond.code yX9_add cX9_add 4 none) ∈ TT := tin_TT10 _ (List.mem_of_getElem? (i := 0) rfl)
theorem tw241 : (Cond.methodLink RX9 46 yX9_takeNumber) ∈ TT := tin_TT10 _ (List.mem_of_getElem? (i := 1) rfl)
theorem tw242 : (Cond.instanceMethod yX9_takeNumber) ∈ TT := tin_TT10 _ (List.mem_of_getElem? (i := 2) rfl)
theorem tw243 : (Cond.selects RX9 yX9_takeNumber yX9_takeNumber) ∈ TT := tin_TT10 _ (List.mem_of_getElem? (i := 3) rfl)
theorem tw244 : (Cond.code yX9_takeNumber cX9_takeNumber 5 none) ∈ TT := tin_TT10 _ (List.mem_of_getElem? (i := 4) rfl)
theorem tw245 : (Cond.methodLink RX9 50 yX9_takeMark) ∈ TT := tin_TT10 _ (List.mem_of_getElem? (i := 5) rfl)
theorem tw246 : (Cond.instanceMethod yX9_takeMark) ∈ TT := tin_TT10 _ (List.mem_of_getElem? (i := 6) rfl)
theorem tw247 : (Cond.selects RX9 yX9_takeMark yX9_takeMark) ∈ TT := tin_TT10 _ (List.mem_of_getElem? (i := 7) rfl)
theorem tw248 : (Cond.code yX9_takeMark cX9_takeMark 2 none) ∈ TT := tin_TT10 _ (List.mem_of_getElem? (i := 8) rfl)
theorem tw249 : (Cond.methodLink RX0 54 yX9_size) ∈ TT := tin_TT10 _ (List.mem_of_getElem? (i := 9) rfl)
theorem tw250 : (Cond.instanceMethod yX9_size) ∈ TT := tin_TT10 _ (List.mem_of_getElem? (i := 10) rfl)
theorem tw251 : (Cond.selects RX9 yX9_size yX9_size) ∈ TT := tin_TT10 _ (List.mem_of_getElem? (i := 11) rfl)
theorem tw252 : (Cond.code yX9_size cX9_size 1 (some .int)) ∈ TT := tin_TT10 _ (List.mem_of_getElem? (i := 12) rfl)
theorem tw253 : (Cond.methodLink RX0 58 yX0_readLine) ∈ TT := tin_TT10 _ (List.mem_of_getElem? (i := 13) rfl)
theorem tw254 : (Cond.instanceMethod yX0_readLine) ∈ TT := tin_TT10 _ (List.mem_of_getElem? (i := 14) rfl)
theorem tw255 : (Cond.selects RX0 yX0_readLine yX0_readLine) ∈ TT := tin_TT10 _ (List.mem_of_getElem? (i := 15) rfl)
theorem tw256 : (Cond.code yX0_readLine cX0_readLine 1 none) ∈ TT := tin_TT10 _ (List.mem_of_getElem? (i := 16) rfl)
theorem tw257 : (Cond.fieldLink RX0 76 "TimedThreads$Assembler" "label" "J") ∈ TT := tin_TT10 _ (List.mem_of_getElem? (i := 17) rfl)
theorem tw258 : (Cond.fieldLink RX0 80 "TimedThreads$Assembler" "hasWord" "Z") ∈ TT := tin_TT10 _ (List.mem_of_getElem? (i := 18) rfl)
theorem tw259 : (Cond.fieldLink RX0 84 "TimedThreads$Assembler" "word" "I") ∈ TT := tin_TT10 _ (List.mem_of_getElem? (i := 19) rfl)
theorem tw260 : (Cond.fieldLink RX0 87 "TimedThreads$Assembler" "target" "J") ∈ TT := tin_TT10 _ (List.mem_of_getElem? (i := 20) rfl)
theorem tw261 : (Cond.fieldLink RX0 90 "TimedThreads$Assembler" "malformed" "Z") ∈ TT := tin_TT10 _ (List.mem_of_getElem? (i := 21) rfl)
theorem tw262 : (Cond.fieldLink RX0 93 "TimedThreads$Assembler" "misfit" "Z") ∈ TT := tin_TT10 _ (List.mem_of_getElem? (i := 22) rfl)
theorem tw263 : (Cond.methodLink RX0 96 yX9_kindAt) ∈ TT := tin_TT10 _ (List.mem_of_getElem? (i := 23) rfl)
theorem tw264 : (Cond.instanceMethod yX9_kindAt) ∈ TT := tin_TT11 _ (List.mem_of_getElem? (i := 0) rfl)
theorem tw265 : (Cond.selects RX9 yX9_kindAt yX9_kindAt) ∈ TT := tin_TT11 _ (List.mem_of_getElem? (i := 1) rfl)
theorem tw266 : (Cond.code yX9_kindAt cX9_kindAt 2 (some .char)) ∈ TT := tin_TT11 _ (List.mem_of_getElem? (i := 2) rfl)
theorem tw267 : (Cond.methodLink RX0 100 yX9_valueAt) ∈ TT := tin_TT11 _ (List.mem_of_getElem? (i := 3) rfl)
theorem tw268 : (Cond.instanceMethod yX9_valueAt) ∈ TT := tin_TT11 _ (List.mem_of_getElem? (i := 4) rfl)
theorem tw269 : (Cond.selects RX9 yX9_valueAt yX9_valueAt) ∈ TT := tin_TT11 _ (List.mem_of_getElem? (i := 5) rfl)
theorem tw270 : (Cond.code yX9_valueAt cX9_valueAt 2 (some .long)) ∈ TT := tin_TT11 _ (List.mem_of_getElem? (i := 6) rfl)
theorem tw271 : (Cond.methodLink RX0 104 yX0_mnemonicOf) ∈ TT := tin_TT11 _ (List.mem_of_getElem? (i := 7) rfl)
theorem tw272 : (Cond.static yX0_mnemonicOf) ∈ TT := tin_TT11 _ (List.mem_of_getElem? (i := 8) rfl)
theorem tw273 : (Cond.code yX0_mnemonicOf cX0_mnemonicOf 3 (some .int)) ∈ TT := tin_TT11 _ (List.mem_of_getElem? (i := 9) rfl)
theorem tw274 : (Cond.fieldLink RX0 122 "TimedThreads$Mnemonic" "key" "J") ∈ TT := tin_TT11 _ (List.mem_of_getElem? (i := 10) rfl)
theorem tw275 : (Cond.methodLink RX0 108 yX0_readInstruction) ∈ TT := tin_TT11 _ (List.mem_of_getElem? (i := 11) rfl)
theorem tw276 : (Cond.instanceMethod yX0_readInstruction) ∈ TT := tin_TT11 _ (List.mem_of_getElem? (i := 12) rfl)
theorem tw277 : (Cond.selects RX0 yX0_readInstruction yX0_readInstruction) ∈ TT := tin_TT11 _ (List.mem_of_getElem? (i := 13) rfl)
theorem tw278 : (Cond.code yX0_readInstruction cX0_readInstruction 4 none) ∈ TT := tin_TT11 _ (List.mem_of_getElem? (i := 14) rfl)
theorem tw279 : (Cond.fieldLink RX0 127 "TimedThreads$Mnemonic" "bits" "I") ∈ TT := tin_TT11 _ (List.mem_of_getElem? (i := 15) rfl)
theorem tw280 : (Cond.fieldLink RX0 130 "TimedThreads$Mnemonic" "pieces" "Ljava/lang/String;") ∈ TT := tin_TT11 _ (List.mem_of_getElem? (i := 16) rfl)
theorem tw281 : (Cond.methodLink RX0 134 yJ0_length_8abf5) ∈ TT := tin_TT11 _ (List.mem_of_getElem? (i := 17) rfl)
theorem tw282 : (Cond.instanceMethod yJ0_length_8abf5) ∈ TT := tin_TT11 _ (List.mem_of_getElem? (i := 18) rfl)
theorem tw283 : (Cond.selects RJ0 yJ0_length_8abf5 yJ0_length_8abf5) ∈ TT := tin_TT11 _ (List.mem_of_getElem? (i := 19) rfl)
theorem tw284 : (Cond.initialized RJ0) ∈ TT := tin_TT11 _ (List.mem_of_getElem? (i := 20) rfl)
theorem tw285 : (Cond.code yJ0_length_8abf5 cJ0_length_8abf5 1 (some .int)) ∈ TT := tin_TT11 _ (List.mem_of_getElem? (i := 21) rfl)
theorem tw286 : (Cond.fieldLink RJ0 9 "java/lang/String" "value" "[B") ∈ TT := tin_TT11 _ (List.mem_of_getElem? (i := 22) rfl)
theorem tw287 : (Cond.methodLink RJ0 335 yJ0_coder_7d493) ∈ TT := tin_TT11 _ (List.mem_of_getElem? (i := 23) rfl)
theorem tw288 : (Cond.instanceMethod yJ0_coder_7d493) ∈ TT := tin_TT12 _ (List.mem_of_getElem? (i := 0) rfl)
theorem tw289 : (Cond.selects RJ0 yJ0_coder_7d493 yJ0_coder_7d493) ∈ TT := tin_TT12 _ (List.mem_of_getElem? (i := 1) rfl)
theorem tw290 : (Cond.code yJ0_coder_7d493 cJ0_coder_7d493 1 (some .byte)) ∈ TT := tin_TT12 _ (List.mem_of_getElem? (i := 2) rfl)
theorem tw291 : (Cond.fieldLink RJ0 38 "java/lang/String" "COMPACT_STRINGS" "Z") ∈ TT := tin_TT12 _ (List.mem_of_getElem? (i := 3) rfl)
theorem tw292 : (Cond.fieldLink RJ0 15 "java/lang/String" "coder" "B") ∈ TT := tin_TT12 _ (List.mem_of_getElem? (i := 4) rfl)
theorem tw293 : (Cond.methodLink RX0 139 yJ0_charAt_5068e) ∈ TT := tin_TT12 _ (List.mem_of_getElem? (i := 5) rfl)
theorem tw294 : (Cond.instanceMethod yJ0_charAt_5068e) ∈ TT := tin_TT12 _ (List.mem_of_getElem? (i := 6) rfl)
theorem tw295 : (Cond.selects RJ0 yJ0_charAt_5068e yJ0_charAt_5068e) ∈ TT := tin_TT12 _ (List.mem_of_getElem? (i := 7) rfl)
theorem tw296 : (Cond.code yJ0_charAt_5068e cJ0_charAt_5068e 2 (some .char)) ∈ TT := tin_TT12 _ (List.mem_of_getElem? (i := 8) rfl)
theorem tw297 : (Cond.methodLink RJ0 492 yJ0_isLatin1_aae02) ∈ TT := tin_TT12 _ (List.mem_of_getElem? (i := 9) rfl)
theorem tw298 : (Cond.instanceMethod yJ0_isLatin1_aae02) ∈ TT := tin_TT12 _ (List.mem_of_getElem? (i := 10) rfl)
theorem tw299 : (Cond.selects RJ0 yJ0_isLatin1_aae02 yJ0_isLatin1_aae02) ∈ TT := tin_TT12 _ (List.mem_of_getElem? (i := 11) rfl)
theorem tw300 : (Cond.code yJ0_isLatin1_aae02 cJ0_isLatin1_aae02 1 (some .boolean)) ∈ TT := tin_TT12 _ (List.mem_of_getElem? (i := 12) rfl)
theorem tw301 : (Cond.methodLink RJ0 495 yJ1_charAt_3b067) ∈ TT := tin_TT12 _ (List.mem_of_getElem? (i := 13) rfl)
theorem tw302 : (Cond.static yJ1_charAt_3b067) ∈ TT := tin_TT12 _ (List.mem_of_getElem? (i := 14) rfl)
theorem tw303 : (Cond.initialized RJ1) ∈ TT := tin_TT12 _ (List.mem_of_getElem? (i := 15) rfl)
theorem tw304 : (Cond.code yJ1_charAt_3b067 cJ1_charAt_3b067 2 (some .char)) ∈ TT := tin_TT12 _ (List.mem_of_getElem? (i := 16) rfl)
theorem tw305 : (Cond.methodLink RJ1 9 yJ0_checkIndex_df160) ∈ TT := tin_TT12 _ (List.mem_of_getElem? (i := 17) rfl)
theorem tw306 : (Cond.static yJ0_checkIndex_df160) ∈ TT := tin_TT12 _ (List.mem_of_getElem? (i := 18) rfl)
theorem tw307 : (Cond.code yJ0_checkIndex_df160 cJ0_checkIndex_df160 2 none) ∈ TT := tin_TT12 _ (List.mem_of_getElem? (i := 19) rfl)
theorem tw308 : (Cond.fieldLink RJ0 1053 "jdk/internal/util/Preconditions" "SIOOBE_FORMATTER" "Ljava/util/function/BiFunction;") ∈ TT := tin_TT12 _ (List.mem_of_getElem? (i := 20) rfl)
theorem tw309 : (Cond.methodLink RJ0 1059 yJ3_checkIndex_8e157) ∈ TT := tin_TT12 _ (List.mem_of_getElem? (i := 21) rfl)
theorem tw310 : (Cond.static yJ3_checkIndex_8e157) ∈ TT := tin_TT12 _ (List.mem_of_getElem? (i := 22) rfl)
theorem tw311 : (Cond.initialized RJ3) ∈ TT := tin_TT12 _ (List.mem_of_getElem? (i := 23) rfl)
theorem tw312 : (Cond.code yJ3_checkIndex_8e157 cJ3_checkIndex_8e157 3 (some .int)) ∈ TT := tin_TT13 _ (List.mem_of_getElem? (i := 0) rfl)
theorem tw313 : (Cond.methodLink RJ0 498 yJ2_charAt_3b067) ∈ TT := tin_TT13 _ (List.mem_of_getElem? (i := 1) rfl)
theorem tw314 : (Cond.static yJ2_charAt_3b067) ∈ TT := tin_TT13 _ (List.mem_of_getElem? (i := 2) rfl)
theorem tw315 : (Cond.initialized RJ2) ∈ TT := tin_TT13 _ (List.mem_of_getElem? (i := 3) rfl)
theorem tw316 : (Cond.code yJ2_charAt_3b067 cJ2_charAt_3b067 2 (some .char)) ∈ TT := tin_TT13 _ (List.mem_of_getElem? (i := 4) rfl)
theorem tw317 : (Cond.methodLink RJ2 67 yJ2_checkIndex_2214a) ∈ TT := tin_TT13 _ (List.mem_of_getElem? (i := 5) rfl)
theorem tw318 : (Cond.static yJ2_checkIndex_2214a) ∈ TT := tin_TT13 _ (List.mem_of_getElem? (i := 6) rfl)
theorem tw319 : (Cond.code yJ2_checkIndex_2214a cJ2_checkIndex_2214a 2 none) ∈ TT := tin_TT13 _ (List.mem_of_getElem? (i := 7) rfl)
theorem tw320 : (Cond.methodLink RJ2 48 yJ2_length_9d52b) ∈ TT := tin_TT13 _ (List.mem_of_getElem? (i := 8) rfl)
theorem tw321 : (Cond.static yJ2_length_9d52b) ∈ TT := tin_TT13 _ (List.mem_of_getElem? (i := 9) rfl)
theorem tw322 : (Cond.code yJ2_length_9d52b cJ2_length_9d52b 1 (some .int)) ∈ TT := tin_TT13 _ (List.mem_of_getElem? (i := 10) rfl)
theorem tw323 : (Cond.methodLink RJ2 414 yJ0_checkIndex_df160) ∈ TT := tin_TT13 _ (List.mem_of_getElem? (i := 11) rfl)
theorem tw324 : (Cond.methodLink RJ2 71 yJ2_getChar_3b067) ∈ TT := tin_TT13 _ (List.mem_of_getElem? (i := 12) rfl)
theorem tw325 : (Cond.static yJ2_getChar_3b067) ∈ TT := tin_TT13 _ (List.mem_of_getElem? (i := 13) rfl)
theorem tw326 : (Cond.code yJ2_getChar_3b067 cJ2_getChar_3b067 2 (some .char)) ∈ TT := tin_TT13 _ (List.mem_of_getElem? (i := 14) rfl)
theorem tw327 : (Cond.fieldLink RJ2 44 "java/lang/StringUTF16" "$assertionsDisabled" "Z") ∈ TT := tin_TT13 _ (List.mem_of_getElem? (i := 15) rfl)
theorem tw328 : (Cond.fieldLink RJ2 59 "java/lang/StringUTF16" "HI_BYTE_SHIFT" "I") ∈ TT := tin_TT13 _ (List.mem_of_getElem? (i := 16) rfl)
theorem tw329 : (Cond.fieldLink RJ2 63 "java/lang/StringUTF16" "LO_BYTE_SHIFT" "I") ∈ TT := tin_TT13 _ (List.mem_of_getElem? (i := 17) rfl)
theorem tw330 : (Cond.methodLink RX0 142 yX0_readPiece) ∈ TT := tin_TT13 _ (List.mem_of_getElem? (i := 18) rfl)
theorem tw331 : (Cond.instanceMethod yX0_readPiece) ∈ TT := tin_TT13 _ (List.mem_of_getElem? (i := 19) rfl)
theorem tw332 : (Cond.selects RX0 yX0_readPiece yX0_readPiece) ∈ TT := tin_TT13 _ (List.mem_of_getElem? (i := 20) rfl)
theorem tw333 : (Cond.code yX0_readPiece cX0_readPiece 5 none) ∈ TT := tin_TT13 _ (List.mem_of_getElem? (i := 21) rfl)
theorem tw334 : (Cond.methodLink RX0 146 yX0_kindOf) ∈ TT := tin_TT13 _ (List.mem_of_getElem? (i := 22) rfl)
theorem tw335 : (Cond.static yX0_kindOf) ∈ TT := tin_TT13 _ (List.mem_of_getElem? (i := 23) rfl)
theorem tw336 : (Cond.code yX0_kindOf cX0_kindOf 1 (some .char)) ∈ TT := tin_TT14 _ (List.mem_of_getElem? (i := 0) rfl)
theorem tw337 : (Cond.methodLink RX0 150 yX0_putPiece) ∈ TT := tin_TT14 _ (List.mem_of_getElem? (i := 1) rfl)
theorem tw338 : (Cond.instanceMethod yX0_putPiece) ∈ TT := tin_TT14 _ (List.mem_of_getElem? (i := 2) rfl)
theorem tw339 : (Cond.selects RX0 yX0_putPiece yX0_putPiece) ∈ TT := tin_TT14 _ (List.mem_of_getElem? (i := 3) rfl)
theorem tw340 : (Cond.code yX0_putPiece cX0_putPiece 4 none) ∈ TT := tin_TT14 _ (List.mem_of_getElem? (i := 4) rfl)
theorem tw341 : (Cond.constantLong RX0 154 (-2048)) ∈ TT := tin_TT14 _ (List.mem_of_getElem? (i := 5) rfl)
theorem tw342 : (Cond.constantLong RX0 156 (2047)) ∈ TT := tin_TT14 _ (List.mem_of_getElem? (i := 6) rfl)
theorem tw343 : (Cond.constantLong RX0 167 (31)) ∈ TT := tin_TT14 _ (List.mem_of_getElem? (i := 7) rfl)
theorem tw344 : (Cond.constantLong RX0 169 (1048575)) ∈ TT := tin_TT14 _ (List.mem_of_getElem? (i := 8) rfl)
theorem tw345 : (Cond.constantLong RX0 171 (3)) ∈ TT := tin_TT14 _ (List.mem_of_getElem? (i := 9) rfl)
theorem tw346 : (Cond.constantLong RX0 173 (-2147483648)) ∈ TT := tin_TT14 _ (List.mem_of_getElem? (i := 10) rfl)
theorem tw347 : (Cond.constantLong RX0 175 (4294967295)) ∈ TT := tin_TT14 _ (List.mem_of_getElem? (i := 11) rfl)
theorem tw348 : (Cond.constantLong RX0 181 (-4096)) ∈ TT := tin_TT14 _ (List.mem_of_getElem? (i := 12) rfl)
theorem tw349 : (Cond.constantLong RX0 183 (4094)) ∈ TT := tin_TT14 _ (List.mem_of_getElem? (i := 13) rfl)
theorem tw350 : (Cond.constantLong RX0 188 (-1048576)) ∈ TT := tin_TT14 _ (List.mem_of_getElem? (i := 14) rfl)
theorem tw351 : (Cond.constantLong RX0 190 (1048574)) ∈ TT := tin_TT14 _ (List.mem_of_getElem? (i := 15) rfl)
theorem tw352 : (Cond.methodLink RX0 158 yX0_fitted) ∈ TT := tin_TT14 _ (List.mem_of_getElem? (i := 16) rfl)
theorem tw353 : (Cond.instanceMethod yX0_fitted) ∈ TT := tin_TT14 _ (List.mem_of_getElem? (i := 17) rfl)
theorem tw354 : (Cond.selects RX0 yX0_fitted yX0_fitted) ∈ TT := tin_TT14 _ (List.mem_of_getElem? (i := 18) rfl)
theorem tw355 : (Cond.code yX0_fitted cX0_fitted 7 (some .int)) ∈ TT := tin_TT14 _ (List.mem_of_getElem? (i := 19) rfl)
theorem tw356 : (Cond.methodLink RX0 162 yX1_bitsOfS) ∈ TT := tin_TT14 _ (List.mem_of_getElem? (i := 20) rfl)
theorem tw357 : (Cond.static yX1_bitsOfS) ∈ TT := tin_TT14 _ (List.mem_of_getElem? (i := 21) rfl)
theorem tw358 : (Cond.initialized RX1) ∈ TT := tin_TT14 _ (List.mem_of_getElem? (i := 22) rfl)
theorem tw359 : (Cond.code yX1_bitsOfS cX1_bitsOfS 1 (some .int)) ∈ TT := tin_TT14 _ (List.mem_of_getElem? (i := 23) rfl)
theorem tw360 : (Cond.methodLink RX0 177 yX0_noteOdd) ∈ TT := tin_TT15 _ (List.mem_of_getElem? (i := 0) rfl)
theorem tw361 : (Cond.instanceMethod yX0_noteOdd) ∈ TT := tin_TT15 _ (List.mem_of_getElem? (i := 1) rfl)
theorem tw362 : (Cond.selects RX0 yX0_noteOdd yX0_noteOdd) ∈ TT := tin_TT15 _ (List.mem_of_getElem? (i := 2) rfl)
theorem tw363 : (Cond.code yX0_noteOdd cX0_noteOdd 3 none) ∈ TT := tin_TT15 _ (List.mem_of_getElem? (i := 3) rfl)
theorem tw364 : (Cond.methodLink RX0 185 yX1_bitsOfB) ∈ TT := tin_TT15 _ (List.mem_of_getElem? (i := 4) rfl)
theorem tw365 : (Cond.static yX1_bitsOfB) ∈ TT := tin_TT15 _ (List.mem_of_getElem? (i := 5) rfl)
theorem tw366 : (Cond.code yX1_bitsOfB cX1_bitsOfB 1 (some .int)) ∈ TT := tin_TT15 _ (List.mem_of_getElem? (i := 6) rfl)
theorem tw367 : (Cond.methodLink RX0 192 yX1_bitsOfJ) ∈ TT := tin_TT15 _ (List.mem_of_getElem? (i := 7) rfl)
theorem tw368 : (Cond.static yX1_bitsOfJ) ∈ TT := tin_TT15 _ (List.mem_of_getElem? (i := 8) rfl)
theorem tw369 : (Cond.code yX1_bitsOfJ cX1_bitsOfJ 1 (some .int)) ∈ TT := tin_TT15 _ (List.mem_of_getElem? (i := 9) rfl)
theorem tw370 : (Cond.constant RX1 15 (1044480)) ∈ TT := tin_TT15 _ (List.mem_of_getElem? (i := 10) rfl)
theorem tw371 : (Cond.methodLink RX0 61 yX0_faultOfLine) ∈ TT := tin_TT15 _ (List.mem_of_getElem? (i := 11) rfl)
theorem tw372 : (Cond.instanceMethod yX0_faultOfLine) ∈ TT := tin_TT15 _ (List.mem_of_getElem? (i := 12) rfl)
theorem tw373 : (Cond.selects RX0 yX0_faultOfLine yX0_faultOfLine) ∈ TT := tin_TT15 _ (List.mem_of_getElem? (i := 13) rfl)
theorem tw374 : (Cond.code yX0_faultOfLine cX0_faultOfLine 2 (some .int)) ∈ TT := tin_TT15 _ (List.mem_of_getElem? (i := 14) rfl)
theorem tw375 : (Cond.methodLink RX0 111 yX3_find) ∈ TT := tin_TT15 _ (List.mem_of_getElem? (i := 15) rfl)
theorem tw376 : (Cond.instanceMethod yX3_find) ∈ TT := tin_TT15 _ (List.mem_of_getElem? (i := 16) rfl)
theorem tw377 : (Cond.selects RX3 yX3_find yX3_find) ∈ TT := tin_TT15 _ (List.mem_of_getElem? (i := 17) rfl)
theorem tw378 : (Cond.code yX3_find cX3_find 4 (some .int)) ∈ TT := tin_TT15 _ (List.mem_of_getElem? (i := 18) rfl)
theorem tw379 : (Cond.fieldLink RX3 19 "TimedThreads$Labels" "count" "I") ∈ TT := tin_TT15 _ (List.mem_of_getElem? (i := 19) rfl)
theorem tw380 : (Cond.methodLink RX0 65 yX0_setFault) ∈ TT := tin_TT15 _ (List.mem_of_getElem? (i := 20) rfl)
theorem tw381 : (Cond.instanceMethod yX0_setFault) ∈ TT := tin_TT15 _ (List.mem_of_getElem? (i := 21) rfl)
theorem tw382 : (Cond.selects RX0 yX0_setFault yX0_setFault) ∈ TT := tin_TT15 _ (List.mem_of_getElem? (i := 22) rfl)
theorem tw383 : (Cond.code yX0_setFault cX0_setFault 3 none) ∈ TT := tin_TT15 _ (List.mem_of_getElem? (i := 23) rfl)
theorem tw384 : (Cond.methodLink RX0 69 yX0_keepLine) ∈ TT := tin_TT16 _ (List.mem_of_getElem? (i := 0) rfl)
theorem tw385 : (Cond.instanceMethod yX0_keepLine) ∈ TT := tin_TT16 _ (List.mem_of_getElem? (i := 1) rfl)
theorem tw386 : (Cond.selects RX0 yX0_keepLine yX0_keepLine) ∈ TT := tin_TT16 _ (List.mem_of_getElem? (i := 2) rfl)
theorem tw387 : (Cond.code yX0_keepLine cX0_keepLine 2 none) ∈ TT := tin_TT16 _ (List.mem_of_getElem? (i := 3) rfl)
theorem tw388 : (Cond.methodLink RX0 114 yX3_add) ∈ TT := tin_TT16 _ (List.mem_of_getElem? (i := 4) rfl)
theorem tw389 : (Cond.instanceMethod yX3_add) ∈ TT := tin_TT16 _ (List.mem_of_getElem? (i := 5) rfl)
theorem tw390 : (Cond.selects RX3 yX3_add yX3_add) ∈ TT := tin_TT16 _ (List.mem_of_getElem? (i := 6) rfl)
theorem tw391 : (Cond.code yX3_add cX3_add 4 none) ∈ TT := tin_TT16 _ (List.mem_of_getElem? (i := 7) rfl)
theorem tw392 : (Cond.methodLink RX0 73 yX0_resolveTargets) ∈ TT := tin_TT16 _ (List.mem_of_getElem? (i := 8) rfl)
theorem tw393 : (Cond.instanceMethod yX0_resolveTargets) ∈ TT := tin_TT16 _ (List.mem_of_getElem? (i := 9) rfl)
theorem tw394 : (Cond.selects RX0 yX0_resolveTargets yX0_resolveTargets) ∈ TT := tin_TT16 _ (List.mem_of_getElem? (i := 10) rfl)
theorem tw395 : (Cond.code yX0_resolveTargets cX0_resolveTargets 5 none) ∈ TT := tin_TT16 _ (List.mem_of_getElem? (i := 11) rfl)
theorem tw396 : (Cond.methodLink RX0 195 yX1_op) ∈ TT := tin_TT16 _ (List.mem_of_getElem? (i := 12) rfl)
theorem tw397 : (Cond.static yX1_op) ∈ TT := tin_TT16 _ (List.mem_of_getElem? (i := 13) rfl)
theorem tw398 : (Cond.code yX1_op cX1_op 1 (some .int)) ∈ TT := tin_TT16 _ (List.mem_of_getElem? (i := 14) rfl)
theorem tw399 : (Cond.methodLink RL 52 yX11_assemble) ∈ TT := tin_TT16 _ (List.mem_of_getElem? (i := 15) rfl)
theorem tw400 : (Cond.instanceMethod yX11_assemble) ∈ TT := tin_TT16 _ (List.mem_of_getElem? (i := 16) rfl)
theorem tw401 : (Cond.selects RX11 yX11_assemble yX11_assemble) ∈ TT := tin_TT16 _ (List.mem_of_getElem? (i := 17) rfl)
theorem tw402 : (Cond.code yX11_assemble cX11_assemble 5 (some .int)) ∈ TT := tin_TT16 _ (List.mem_of_getElem? (i := 18) rfl)
theorem tw403 : (Cond.fieldLink RX11 88 "TimedThreadsModel" "at" "I") ∈ TT := tin_TT16 _ (List.mem_of_getElem? (i := 19) rfl)
theorem tw404 : (Cond.fieldLink RX11 205 "TimedThreadsModel" "line" "I") ∈ TT := tin_TT16 _ (List.mem_of_getElem? (i := 20) rfl)
theorem tw405 : (Cond.fieldLink RX11 202 "TimedThreadsModel" "words" "I") ∈ TT := tin_TT16 _ (List.mem_of_getElem? (i := 21) rfl)
theorem tw406 : (Cond.fieldLink RX11 256 "TimedThreadsModel" "labels" "I") ∈ TT := tin_TT16 _ (List.mem_of_getElem? (i := 22) rfl)
theorem tw407 : (Cond.fieldLink RX11 199 "TimedThreadsModel" "targets" "I") ∈ TT := tin_TT16 _ (List.mem_of_getElem? (i := 23) rfl)
theorem tw408 : (Cond.fieldLink RX11 273 "TimedThreadsModel" "fault" "I") ∈ TT := tin_TT17 _ (List.mem_of_getElem? (i := 0) rfl)
theorem tw409 : (Cond.fieldLink RX11 276 "TimedThreadsModel" "faultLine" "I") ∈ TT := tin_TT17 _ (List.mem_of_getElem? (i := 1) rfl)
theorem tw410 : (Cond.methodLink RX11 279 yX11_refuse) ∈ TT := tin_TT17 _ (List.mem_of_getElem? (i := 2) rfl)
theorem tw411 : (Cond.instanceMethod yX11_refuse) ∈ TT := tin_TT17 _ (List.mem_of_getElem? (i := 3) rfl)
theorem tw412 : (Cond.selects RX11 yX11_refuse yX11_refuse) ∈ TT := tin_TT17 _ (List.mem_of_getElem? (i := 4) rfl)
theorem tw413 : (Cond.code yX11_refuse cX11_refuse 2 (some .int)) ∈ TT := tin_TT17 _ (List.mem_of_getElem? (i := 5) rfl)
theorem tw414 : (Cond.methodLink RX11 282 yX11_takeLine) ∈ TT := tin_TT17 _ (List.mem_of_getElem? (i := 6) rfl)
theorem tw415 : (Cond.instanceMethod yX11_takeLine) ∈ TT := tin_TT17 _ (List.mem_of_getElem? (i := 7) rfl)
theorem tw416 : (Cond.selects RX11 yX11_takeLine yX11_takeLine) ∈ TT := tin_TT17 _ (List.mem_of_getElem? (i := 8) rfl)
theorem tw417 : (Cond.code yX11_takeLine cX11_takeLine 10 none) ∈ TT := tin_TT17 _ (List.mem_of_getElem? (i := 9) rfl)
theorem tw418 : (Cond.fieldLink RX11 102 "TimedThreadsModel" "wrong" "Z") ∈ TT := tin_TT17 _ (List.mem_of_getElem? (i := 10) rfl)
theorem tw419 : (Cond.fieldLink RX11 111 "TimedThreadsModel" "unfit" "Z") ∈ TT := tin_TT17 _ (List.mem_of_getElem? (i := 11) rfl)
theorem tw420 : (Cond.methodLink RX11 95 yX11_skip) ∈ TT := tin_TT17 _ (List.mem_of_getElem? (i := 12) rfl)
theorem tw421 : (Cond.instanceMethod yX11_skip) ∈ TT := tin_TT17 _ (List.mem_of_getElem? (i := 13) rfl)
theorem tw422 : (Cond.selects RX11 yX11_skip yX11_skip) ∈ TT := tin_TT17 _ (List.mem_of_getElem? (i := 14) rfl)
theorem tw423 : (Cond.code yX11_skip cX11_skip 1 none) ∈ TT := tin_TT17 _ (List.mem_of_getElem? (i := 15) rfl)
theorem tw424 : (Cond.methodLink RX11 91 yX11_character) ∈ TT := tin_TT17 _ (List.mem_of_getElem? (i := 16) rfl)
theorem tw425 : (Cond.instanceMethod yX11_character) ∈ TT := tin_TT17 _ (List.mem_of_getElem? (i := 17) rfl)
theorem tw426 : (Cond.selects RX11 yX11_character yX11_character) ∈ TT := tin_TT17 _ (List.mem_of_getElem? (i := 18) rfl)
theorem tw427 : (Cond.code yX11_character cX11_character 2 (some .int)) ∈ TT := tin_TT17 _ (List.mem_of_getElem? (i := 19) rfl)
theorem tw428 : (Cond.methodLink RX11 195 yX11_letters) ∈ TT := tin_TT17 _ (List.mem_of_getElem? (i := 20) rfl)
theorem tw429 : (Cond.instanceMethod yX11_letters) ∈ TT := tin_TT17 _ (List.mem_of_getElem? (i := 21) rfl)
theorem tw430 : (Cond.selects RX11 yX11_letters yX11_letters) ∈ TT := tin_TT17 _ (List.mem_of_getElem? (i := 22) rfl)
theorem tw431 : (Cond.code yX11_letters cX11_letters 4 (some .long)) ∈ TT := tin_TT17 _ (List.mem_of_getElem? (i := 23) rfl)
theorem tw432 : (Cond.methodLink RX11 98 yX11_isLetter) ∈ TT := tin_TT18 _ (List.mem_of_getElem? (i := 0) rfl)
theorem tw433 : (Cond.static yX11_isLetter) ∈ TT := tin_TT18 _ (List.mem_of_getElem? (i := 1) rfl)
theorem tw434 : (Cond.code yX11_isLetter cX11_isLetter 1 (some .boolean)) ∈ TT := tin_TT18 _ (List.mem_of_getElem? (i := 2) rfl)
theorem tw435 : (Cond.methodLink RX11 259 yX11_labelOf) ∈ TT := tin_TT18 _ (List.mem_of_getElem? (i := 3) rfl)
theorem tw436 : (Cond.instanceMethod yX11_labelOf) ∈ TT := tin_TT18 _ (List.mem_of_getElem? (i := 4) rfl)
theorem tw437 : (Cond.selects RX11 yX11_labelOf yX11_labelOf) ∈ TT := tin_TT18 _ (List.mem_of_getElem? (i := 5) rfl)
theorem tw438 : (Cond.code yX11_labelOf cX11_labelOf 5 (some .int)) ∈ TT := tin_TT18 _ (List.mem_of_getElem? (i := 6) rfl)
theorem tw439 : (Cond.methodLink RX11 263 yX11_lookup) ∈ TT := tin_TT18 _ (List.mem_of_getElem? (i := 7) rfl)
theorem tw440 : (Cond.static yX11_lookup) ∈ TT := tin_TT18 _ (List.mem_of_getElem? (i := 8) rfl)
theorem tw441 : (Cond.code yX11_lookup cX11_lookup 2 (some .int)) ∈ TT := tin_TT18 _ (List.mem_of_getElem? (i := 9) rfl)
theorem tw442 : (Cond.constantLong RX11 114 (6911340)) ∈ TT := tin_TT18 _ (List.mem_of_getElem? (i := 10) rfl)
theorem tw443 : (Cond.constantLong RX11 116 (7102826)) ∈ TT := tin_TT18 _ (List.mem_of_getElem? (i := 11) rfl)
theorem tw444 : (Cond.constantLong RX11 118 (1919705450)) ∈ TT := tin_TT18 _ (List.mem_of_getElem? (i := 12) rfl)
theorem tw445 : (Cond.constantLong RX11 120 (7431522)) ∈ TT := tin_TT18 _ (List.mem_of_getElem? (i := 13) rfl)
theorem tw446 : (Cond.constantLong RX11 122 (6647394)) ∈ TT := tin_TT18 _ (List.mem_of_getElem? (i := 14) rfl)
theorem tw447 : (Cond.constantLong RX11 124 (7629922)) ∈ TT := tin_TT18 _ (List.mem_of_getElem? (i := 15) rfl)
theorem tw448 : (Cond.constantLong RX11 126 (6645602)) ∈ TT := tin_TT18 _ (List.mem_of_getElem? (i := 16) rfl)
theorem tw449 : (Cond.constantLong RX11 128 (1970564194)) ∈ TT := tin_TT18 _ (List.mem_of_getElem? (i := 17) rfl)
theorem tw450 : (Cond.constantLong RX11 130 (1969579874)) ∈ TT := tin_TT18 _ (List.mem_of_getElem? (i := 18) rfl)
theorem tw451 : (Cond.constantLong RX11 132 (30572)) ∈ TT := tin_TT18 _ (List.mem_of_getElem? (i := 19) rfl)
theorem tw452 : (Cond.constantLong RX11 134 (25196)) ∈ TT := tin_TT18 _ (List.mem_of_getElem? (i := 20) rfl)
theorem tw453 : (Cond.constantLong RX11 136 (7692908)) ∈ TT := tin_TT18 _ (List.mem_of_getElem? (i := 21) rfl)
theorem tw454 : (Cond.constantLong RX11 138 (30579)) ∈ TT := tin_TT18 _ (List.mem_of_getElem? (i := 22) rfl)
theorem tw455 : (Cond.constantLong RX11 140 (25203)) ∈ TT := tin_TT18 _ (List.mem_of_getElem? (i := 23) rfl)
theorem tw456 : (Cond.constantLong RX11 142 (1768186977)) ∈ TT := tin_TT19 _ (List.mem_of_getElem? (i := 0) rfl)
theorem tw457 : (Cond.constantLong RX11 144 (1769237619)) ∈ TT := tin_TT19 _ (List.mem_of_getElem? (i := 1) rfl)
theorem tw458 : (Cond.constantLong RX11 146 (504280411251)) ∈ TT := tin_TT19 _ (List.mem_of_getElem? (i := 2) rfl)
theorem tw459 : (Cond.constantLong RX11 148 (1769107320)) ∈ TT := tin_TT19 _ (List.mem_of_getElem? (i := 3) rfl)
theorem tw460 : (Cond.constantLong RX11 150 (6910575)) ∈ TT := tin_TT19 _ (List.mem_of_getElem? (i := 4) rfl)
theorem tw461 : (Cond.constantLong RX11 152 (1768189537)) ∈ TT := tin_TT19 _ (List.mem_of_getElem? (i := 5) rfl)
theorem tw462 : (Cond.constantLong RX11 154 (1768713331)) ∈ TT := tin_TT19 _ (List.mem_of_getElem? (i := 6) rfl)
theorem tw463 : (Cond.constantLong RX11 156 (1768714867)) ∈ TT := tin_TT19 _ (List.mem_of_getElem? (i := 7) rfl)
theorem tw464 : (Cond.constantLong RX11 158 (1767993971)) ∈ TT := tin_TT19 _ (List.mem_of_getElem? (i := 8) rfl)
theorem tw465 : (Cond.constant RX11 160 (534840)) ∈ TT := tin_TT19 _ (List.mem_of_getElem? (i := 9) rfl)
theorem tw466 : (Cond.constantLong RX11 161 (6579297)) ∈ TT := tin_TT19 _ (List.mem_of_getElem? (i := 10) rfl)
theorem tw467 : (Cond.constantLong RX11 163 (7105651)) ∈ TT := tin_TT19 _ (List.mem_of_getElem? (i := 11) rfl)
theorem tw468 : (Cond.constantLong RX11 165 (7629939)) ∈ TT := tin_TT19 _ (List.mem_of_getElem? (i := 12) rfl)
theorem tw469 : (Cond.constantLong RX11 167 (1970564211)) ∈ TT := tin_TT19 _ (List.mem_of_getElem? (i := 13) rfl)
theorem tw470 : (Cond.constantLong RX11 169 (7499640)) ∈ TT := tin_TT19 _ (List.mem_of_getElem? (i := 14) rfl)
theorem tw471 : (Cond.constantLong RX11 171 (7107187)) ∈ TT := tin_TT19 _ (List.mem_of_getElem? (i := 15) rfl)
theorem tw472 : (Cond.constantLong RX11 173 (29295)) ∈ TT := tin_TT19 _ (List.mem_of_getElem? (i := 16) rfl)
theorem tw473 : (Cond.constantLong RX11 175 (6581857)) ∈ TT := tin_TT19 _ (List.mem_of_getElem? (i := 17) rfl)
theorem tw474 : (Cond.constantLong RX11 177 (6452595)) ∈ TT := tin_TT19 _ (List.mem_of_getElem? (i := 18) rfl)
theorem tw475 : (Cond.constant RX11 179 (525105)) ∈ TT := tin_TT19 _ (List.mem_of_getElem? (i := 19) rfl)
theorem tw476 : (Cond.constantLong RX11 180 (6386291)) ∈ TT := tin_TT19 _ (List.mem_of_getElem? (i := 20) rfl)
theorem tw477 : (Cond.constant RX11 182 (535345)) ∈ TT := tin_TT19 _ (List.mem_of_getElem? (i := 21) rfl)
theorem tw478 : (Cond.constantLong RX11 183 (1684104548)) ∈ TT := tin_TT19 _ (List.mem_of_getElem? (i := 22) rfl)
theorem tw479 : (Cond.constantLong RX11 185 (435610155363)) ∈ TT := tin_TT19 _ (List.mem_of_getElem? (i := 23) rfl)
theorem tw480 : (Cond.constantLong RX11 187 (1953259880)) ∈ TT := tin_TT20 _ (List.mem_of_getElem? (i := 0) rfl)
theorem tw481 : (Cond.constantLong RX11 189 (1685221239)) ∈ TT := tin_TT20 _ (List.mem_of_getElem? (i := 1) rfl)
theorem tw482 : (Cond.methodLink RX11 266 yX11_operands) ∈ TT := tin_TT20 _ (List.mem_of_getElem? (i := 2) rfl)
theorem tw483 : (Cond.instanceMethod yX11_operands) ∈ TT := tin_TT20 _ (List.mem_of_getElem? (i := 3) rfl)
theorem tw484 : (Cond.selects RX11 yX11_operands yX11_operands) ∈ TT := tin_TT20 _ (List.mem_of_getElem? (i := 4) rfl)
theorem tw485 : (Cond.code yX11_operands cX11_operands 6 (some .int)) ∈ TT := tin_TT20 _ (List.mem_of_getElem? (i := 5) rfl)
theorem tw486 : (Cond.constantLong RX11 232 (31)) ∈ TT := tin_TT20 _ (List.mem_of_getElem? (i := 6) rfl)
theorem tw487 : (Cond.constantLong RX11 234 (-2048)) ∈ TT := tin_TT20 _ (List.mem_of_getElem? (i := 7) rfl)
theorem tw488 : (Cond.constantLong RX11 236 (2047)) ∈ TT := tin_TT20 _ (List.mem_of_getElem? (i := 8) rfl)
theorem tw489 : (Cond.constantLong RX11 248 (1048575)) ∈ TT := tin_TT20 _ (List.mem_of_getElem? (i := 9) rfl)
theorem tw490 : (Cond.constantLong RX11 250 (3)) ∈ TT := tin_TT20 _ (List.mem_of_getElem? (i := 10) rfl)
theorem tw491 : (Cond.constantLong RX11 252 (-2147483648)) ∈ TT := tin_TT20 _ (List.mem_of_getElem? (i := 11) rfl)
theorem tw492 : (Cond.constantLong RX11 254 (4294967295)) ∈ TT := tin_TT20 _ (List.mem_of_getElem? (i := 12) rfl)
theorem tw493 : (Cond.methodLink RX11 228 yX11_pair) ∈ TT := tin_TT20 _ (List.mem_of_getElem? (i := 13) rfl)
theorem tw494 : (Cond.instanceMethod yX11_pair) ∈ TT := tin_TT20 _ (List.mem_of_getElem? (i := 14) rfl)
theorem tw495 : (Cond.selects RX11 yX11_pair yX11_pair) ∈ TT := tin_TT20 _ (List.mem_of_getElem? (i := 15) rfl)
theorem tw496 : (Cond.code yX11_pair cX11_pair 5 (some .int)) ∈ TT := tin_TT20 _ (List.mem_of_getElem? (i := 16) rfl)
theorem tw497 : (Cond.methodLink RX11 220 yX11_takeRegister) ∈ TT := tin_TT20 _ (List.mem_of_getElem? (i := 17) rfl)
theorem tw498 : (Cond.instanceMethod yX11_takeRegister) ∈ TT := tin_TT20 _ (List.mem_of_getElem? (i := 18) rfl)
theorem tw499 : (Cond.selects RX11 yX11_takeRegister yX11_takeRegister) ∈ TT := tin_TT20 _ (List.mem_of_getElem? (i := 19) rfl)
theorem tw500 : (Cond.code yX11_takeRegister cX11_takeRegister 2 (some .int)) ∈ TT := tin_TT20 _ (List.mem_of_getElem? (i := 20) rfl)
theorem tw501 : (Cond.methodLink RX11 106 yX11_isDigit) ∈ TT := tin_TT20 _ (List.mem_of_getElem? (i := 21) rfl)
theorem tw502 : (Cond.static yX11_isDigit) ∈ TT := tin_TT20 _ (List.mem_of_getElem? (i := 22) rfl)
theorem tw503 : (Cond.code yX11_isDigit cX11_isDigit 1 (some .boolean)) ∈ TT := tin_TT20 _ (List.mem_of_getElem? (i := 23) rfl)
theorem tw504 : (Cond.methodLink RX11 224 yX11_need) ∈ TT := tin_TT21 _ (List.mem_of_getElem? (i := 0) rfl)
theorem tw505 : (Cond.instanceMethod yX11_need) ∈ TT := tin_TT21 _ (List.mem_of_getElem? (i := 1) rfl)
theorem tw506 : (Cond.selects RX11 yX11_need yX11_need) ∈ TT := tin_TT21 _ (List.mem_of_getElem? (i := 2) rfl)
theorem tw507 : (Cond.code yX11_need cX11_need 2 none) ∈ TT := tin_TT21 _ (List.mem_of_getElem? (i := 3) rfl)
theorem tw508 : (Cond.methodLink RX11 210 yX11_number) ∈ TT := tin_TT21 _ (List.mem_of_getElem? (i := 4) rfl)
theorem tw509 : (Cond.instanceMethod yX11_number) ∈ TT := tin_TT21 _ (List.mem_of_getElem? (i := 5) rfl)
theorem tw510 : (Cond.selects RX11 yX11_number yX11_number) ∈ TT := tin_TT21 _ (List.mem_of_getElem? (i := 6) rfl)
theorem tw511 : (Cond.code yX11_number cX11_number 10 (some .long)) ∈ TT := tin_TT21 _ (List.mem_of_getElem? (i := 7) rfl)
theorem tw512 : (Cond.constantLong RX11 109 (48)) ∈ TT := tin_TT21 _ (List.mem_of_getElem? (i := 8) rfl)
theorem tw513 : (Cond.methodLink RX11 238 yX11_immediate) ∈ TT := tin_TT21 _ (List.mem_of_getElem? (i := 9) rfl)
theorem tw514 : (Cond.static yX11_immediate) ∈ TT := tin_TT21 _ (List.mem_of_getElem? (i := 10) rfl)
theorem tw515 : (Cond.code yX11_immediate cX11_immediate 1 (some .int)) ∈ TT := tin_TT21 _ (List.mem_of_getElem? (i := 11) rfl)
theorem tw516 : (Cond.methodLink RX11 241 yX11_storing) ∈ TT := tin_TT21 _ (List.mem_of_getElem? (i := 12) rfl)
theorem tw517 : (Cond.static yX11_storing) ∈ TT := tin_TT21 _ (List.mem_of_getElem? (i := 13) rfl)
theorem tw518 : (Cond.code yX11_storing cX11_storing 1 (some .int)) ∈ TT := tin_TT21 _ (List.mem_of_getElem? (i := 14) rfl)
theorem tw519 : (Cond.methodLink RX11 244 yX11_distance) ∈ TT := tin_TT21 _ (List.mem_of_getElem? (i := 15) rfl)
theorem tw520 : (Cond.instanceMethod yX11_distance) ∈ TT := tin_TT21 _ (List.mem_of_getElem? (i := 16) rfl)
theorem tw521 : (Cond.selects RX11 yX11_distance yX11_distance) ∈ TT := tin_TT21 _ (List.mem_of_getElem? (i := 17) rfl)
theorem tw522 : (Cond.code yX11_distance cX11_distance 6 (some .int)) ∈ TT := tin_TT21 _ (List.mem_of_getElem? (i := 18) rfl)
theorem tw523 : (Cond.constantLong RX11 191 (1048574)) ∈ TT := tin_TT21 _ (List.mem_of_getElem? (i := 19) rfl)
theorem tw524 : (Cond.constantLong RX11 193 (4094)) ∈ TT := tin_TT21 _ (List.mem_of_getElem? (i := 20) rfl)
theorem tw525 : (Cond.constantLong RX11 208 (2)) ∈ TT := tin_TT21 _ (List.mem_of_getElem? (i := 21) rfl)
theorem tw526 : (Cond.methodLink RX11 214 yX11_jumping) ∈ TT := tin_TT21 _ (List.mem_of_getElem? (i := 22) rfl)
theorem tw527 : (Cond.static yX11_jumping) ∈ TT := tin_TT21 _ (List.mem_of_getElem? (i := 23) rfl)
theorem tw528 : (Cond.code yX11_jumping cX11_jumping 1 (some .int)) ∈ TT := tin_TT22 _ (List.mem_of_getElem? (i := 0) rfl)
theorem tw529 : (Cond.methodLink RX11 217 yX11_branching) ∈ TT := tin_TT22 _ (List.mem_of_getElem? (i := 1) rfl)
theorem tw530 : (Cond.static yX11_branching) ∈ TT := tin_TT22 _ (List.mem_of_getElem? (i := 2) rfl)
theorem tw531 : (Cond.code yX11_branching cX11_branching 1 (some .int)) ∈ TT := tin_TT22 _ (List.mem_of_getElem? (i := 3) rfl)
theorem tw532 : (Cond.methodLink RX11 269 yX11_isEnd) ∈ TT := tin_TT22 _ (List.mem_of_getElem? (i := 4) rfl)
theorem tw533 : (Cond.instanceMethod yX11_isEnd) ∈ TT := tin_TT22 _ (List.mem_of_getElem? (i := 5) rfl)
theorem tw534 : (Cond.selects RX11 yX11_isEnd yX11_isEnd) ∈ TT := tin_TT22 _ (List.mem_of_getElem? (i := 6) rfl)
theorem tw535 : (Cond.code yX11_isEnd cX11_isEnd 1 (some .boolean)) ∈ TT := tin_TT22 _ (List.mem_of_getElem? (i := 7) rfl)
theorem tw536 : (Cond.methodLink RX11 285 yX11_link) ∈ TT := tin_TT22 _ (List.mem_of_getElem? (i := 8) rfl)
theorem tw537 : (Cond.instanceMethod yX11_link) ∈ TT := tin_TT22 _ (List.mem_of_getElem? (i := 9) rfl)
theorem tw538 : (Cond.selects RX11 yX11_link yX11_link) ∈ TT := tin_TT22 _ (List.mem_of_getElem? (i := 10) rfl)
theorem tw539 : (Cond.code yX11_link cX11_link 7 none) ∈ TT := tin_TT22 _ (List.mem_of_getElem? (i := 11) rfl)
theorem tw540 : (Cond.methodLink RL 53 yX10_fault) ∈ TT := tin_TT22 _ (List.mem_of_getElem? (i := 12) rfl)
theorem tw541 : (Cond.instanceMethod yX10_fault) ∈ TT := tin_TT22 _ (List.mem_of_getElem? (i := 13) rfl)
theorem tw542 : (Cond.selects RX10 yX10_fault yX10_fault) ∈ TT := tin_TT22 _ (List.mem_of_getElem? (i := 14) rfl)
theorem tw543 : (Cond.code yX10_fault cX10_fault 2 (some .int)) ∈ TT := tin_TT22 _ (List.mem_of_getElem? (i := 15) rfl)
theorem tw544 : (Cond.fieldLink RX10 96 "TimedThreads$Assembler" "faultLine" "I") ∈ TT := tin_TT22 _ (List.mem_of_getElem? (i := 16) rfl)
theorem tw545 : (Cond.methodLink RL 57 yX11_fault) ∈ TT := tin_TT22 _ (List.mem_of_getElem? (i := 17) rfl)
theorem tw546 : (Cond.instanceMethod yX11_fault) ∈ TT := tin_TT22 _ (List.mem_of_getElem? (i := 18) rfl)
theorem tw547 : (Cond.selects RX11 yX11_fault yX11_fault) ∈ TT := tin_TT22 _ (List.mem_of_getElem? (i := 19) rfl)
theorem tw548 : (Cond.code yX11_fault cX11_fault 2 (some .int)) ∈ TT := tin_TT22 _ (List.mem_of_getElem? (i := 20) rfl)
theorem tw549 : (Cond.methodLink RL 58 yX10_peek) ∈ TT := tin_TT22 _ (List.mem_of_getElem? (i := 21) rfl)
theorem tw550 : (Cond.instanceMethod yX10_peek) ∈ TT := tin_TT22 _ (List.mem_of_getElem? (i := 22) rfl)
theorem tw551 : (Cond.selects RX10 yX10_peek yX10_peek) ∈ TT := tin_TT22 _ (List.mem_of_getElem? (i := 23) rfl)
theorem tw552 : (Cond.code yX10_peek cX10_peek 3 (some .int)) ∈ TT := tin_TT23 _ (List.mem_of_getElem? (i := 0) rfl)
theorem tw553 : (Cond.methodLink RL 61 yX11_peek) ∈ TT := tin_TT23 _ (List.mem_of_getElem? (i := 1) rfl)
theorem tw554 : (Cond.instanceMethod yX11_peek) ∈ TT := tin_TT23 _ (List.mem_of_getElem? (i := 2) rfl)
theorem tw555 : (Cond.selects RX11 yX11_peek yX11_peek) ∈ TT := tin_TT23 _ (List.mem_of_getElem? (i := 3) rfl)
theorem tw556 : (Cond.code yX11_peek cX11_peek 3 (some .int)) ∈ TT := tin_TT23 _ (List.mem_of_getElem? (i := 4) rfl)
theorem tw557 : (Cond.methodLink RL 62 yX10_poke) ∈ TT := tin_TT23 _ (List.mem_of_getElem? (i := 5) rfl)
theorem tw558 : (Cond.instanceMethod yX10_poke) ∈ TT := tin_TT23 _ (List.mem_of_getElem? (i := 6) rfl)
theorem tw559 : (Cond.selects RX10 yX10_poke yX10_poke) ∈ TT := tin_TT23 _ (List.mem_of_getElem? (i := 7) rfl)
theorem tw560 : (Cond.code yX10_poke cX10_poke 4 (some .boolean)) ∈ TT := tin_TT23 _ (List.mem_of_getElem? (i := 8) rfl)
theorem tw561 : (Cond.methodLink RL 66 yX11_poke) ∈ TT := tin_TT23 _ (List.mem_of_getElem? (i := 9) rfl)
theorem tw562 : (Cond.instanceMethod yX11_poke) ∈ TT := tin_TT23 _ (List.mem_of_getElem? (i := 10) rfl)
theorem tw563 : (Cond.selects RX11 yX11_poke yX11_poke) ∈ TT := tin_TT23 _ (List.mem_of_getElem? (i := 11) rfl)
theorem tw564 : (Cond.code yX11_poke cX11_poke 4 (some .boolean)) ∈ TT := tin_TT23 _ (List.mem_of_getElem? (i := 12) rfl)
theorem tw565 : (Cond.methodLink RL 67 yX10_shared) ∈ TT := tin_TT23 _ (List.mem_of_getElem? (i := 13) rfl)
theorem tw566 : (Cond.instanceMethod yX10_shared) ∈ TT := tin_TT23 _ (List.mem_of_getElem? (i := 14) rfl)
theorem tw567 : (Cond.selects RX10 yX10_shared yX10_shared) ∈ TT := tin_TT23 _ (List.mem_of_getElem? (i := 15) rfl)
theorem tw568 : (Cond.code yX10_shared cX10_shared 2 (some .int)) ∈ TT := tin_TT23 _ (List.mem_of_getElem? (i := 16) rfl)
theorem tw569 : (Cond.fieldLink RX10 99 "TimedThreads$SharedMemory" "words" "[I") ∈ TT := tin_TT23 _ (List.mem_of_getElem? (i := 17) rfl)
theorem tw570 : (Cond.methodLink RL 70 yX11_shared) ∈ TT := tin_TT23 _ (List.mem_of_getElem? (i := 18) rfl)
theorem tw571 : (Cond.instanceMethod yX11_shared) ∈ TT := tin_TT23 _ (List.mem_of_getElem? (i := 19) rfl)
theorem tw572 : (Cond.selects RX11 yX11_shared yX11_shared) ∈ TT := tin_TT23 _ (List.mem_of_getElem? (i := 20) rfl)
theorem tw573 : (Cond.code yX11_shared cX11_shared 2 (some .int)) ∈ TT := tin_TT23 _ (List.mem_of_getElem? (i := 21) rfl)
theorem tw574 : (Cond.methodLink RL 71 yX10_part) ∈ TT := tin_TT23 _ (List.mem_of_getElem? (i := 22) rfl)
theorem tw575 : (Cond.instanceMethod yX10_part) ∈ TT := tin_TT23 _ (List.mem_of_getElem? (i := 23) rfl)
theorem tw576 : (Cond.selects RX10 yX10_part yX10_part) ∈ TT := tin_TT24 _ (List.mem_of_getElem? (i := 0) rfl)
theorem tw577 : (Cond.code yX10_part cX10_part 4 (some .boolean)) ∈ TT := tin_TT24 _ (List.mem_of_getElem? (i := 1) rfl)
theorem tw578 : (Cond.fieldLink RX10 104 "TimedThreads$TimedThread" "low" "I") ∈ TT := tin_TT24 _ (List.mem_of_getElem? (i := 2) rfl)
theorem tw579 : (Cond.fieldLink RX10 107 "TimedThreads$TimedThread" "high" "I") ∈ TT := tin_TT24 _ (List.mem_of_getElem? (i := 3) rfl)
theorem tw580 : (Cond.methodLink RL 74 yX11_part) ∈ TT := tin_TT24 _ (List.mem_of_getElem? (i := 4) rfl)
theorem tw581 : (Cond.instanceMethod yX11_part) ∈ TT := tin_TT24 _ (List.mem_of_getElem? (i := 5) rfl)
theorem tw582 : (Cond.selects RX11 yX11_part yX11_part) ∈ TT := tin_TT24 _ (List.mem_of_getElem? (i := 6) rfl)
theorem tw583 : (Cond.code yX11_part cX11_part 4 (some .boolean)) ∈ TT := tin_TT24 _ (List.mem_of_getElem? (i := 7) rfl)
theorem tw584 : (Cond.methodLink RL 75 yX10_start) ∈ TT := tin_TT24 _ (List.mem_of_getElem? (i := 8) rfl)
theorem tw585 : (Cond.instanceMethod yX10_start) ∈ TT := tin_TT24 _ (List.mem_of_getElem? (i := 9) rfl)
theorem tw586 : (Cond.selects RX10 yX10_start yX10_start) ∈ TT := tin_TT24 _ (List.mem_of_getElem? (i := 10) rfl)
theorem tw587 : (Cond.code yX10_start cX10_start 3 (some .boolean)) ∈ TT := tin_TT24 _ (List.mem_of_getElem? (i := 11) rfl)
theorem tw588 : (Cond.fieldLink RX10 110 "TimedThreads" "cycle" "I") ∈ TT := tin_TT24 _ (List.mem_of_getElem? (i := 12) rfl)
theorem tw589 : (Cond.methodLink RX10 113 yX8_begin) ∈ TT := tin_TT24 _ (List.mem_of_getElem? (i := 13) rfl)
theorem tw590 : (Cond.instanceMethod yX8_begin) ∈ TT := tin_TT24 _ (List.mem_of_getElem? (i := 14) rfl)
theorem tw591 : (Cond.selects RX8 yX8_begin yX8_begin) ∈ TT := tin_TT24 _ (List.mem_of_getElem? (i := 15) rfl)
theorem tw592 : (Cond.code yX8_begin cX8_begin 3 none) ∈ TT := tin_TT24 _ (List.mem_of_getElem? (i := 16) rfl)
theorem tw593 : (Cond.fieldLink RX8 35 "TimedThreads$TimedThread" "address" "I") ∈ TT := tin_TT24 _ (List.mem_of_getElem? (i := 17) rfl)
theorem tw594 : (Cond.fieldLink RX8 38 "TimedThreads$TimedThread" "ready" "I") ∈ TT := tin_TT24 _ (List.mem_of_getElem? (i := 18) rfl)
theorem tw595 : (Cond.methodLink RL 79 yX11_start) ∈ TT := tin_TT24 _ (List.mem_of_getElem? (i := 19) rfl)
theorem tw596 : (Cond.instanceMethod yX11_start) ∈ TT := tin_TT24 _ (List.mem_of_getElem? (i := 20) rfl)
theorem tw597 : (Cond.selects RX11 yX11_start yX11_start) ∈ TT := tin_TT24 _ (List.mem_of_getElem? (i := 21) rfl)
theorem tw598 : (Cond.code yX11_start cX11_start 3 (some .boolean)) ∈ TT := tin_TT24 _ (List.mem_of_getElem? (i := 22) rfl)
theorem tw599 : (Cond.fieldLink RX11 291 "TimedThreadsModel" "now" "I") ∈ TT := tin_TT24 _ (List.mem_of_getElem? (i := 23) rfl)
theorem tw600 : (Cond.methodLink RL 80 yX10_run) ∈ TT := tin_TT25 _ (List.mem_of_getElem? (i := 0) rfl)
theorem tw601 : (Cond.instanceMethod yX10_run) ∈ TT := tin_TT25 _ (List.mem_of_getElem? (i := 1) rfl)
theorem tw602 : (Cond.selects RX10 yX10_run yX10_run) ∈ TT := tin_TT25 _ (List.mem_of_getElem? (i := 2) rfl)
theorem tw603 : (Cond.code yX10_run cX10_run 4 (some .int)) ∈ TT := tin_TT25 _ (List.mem_of_getElem? (i := 3) rfl)
theorem tw604 : (Cond.methodLink RX10 117 yJ9_floorMod_7cf53) ∈ TT := tin_TT25 _ (List.mem_of_getElem? (i := 4) rfl)
theorem tw605 : (Cond.static yJ9_floorMod_7cf53) ∈ TT := tin_TT25 _ (List.mem_of_getElem? (i := 5) rfl)
theorem tw606 : (Cond.initialized RJ9) ∈ TT := tin_TT25 _ (List.mem_of_getElem? (i := 6) rfl)
theorem tw607 : (Cond.code yJ9_floorMod_7cf53 cJ9_floorMod_7cf53 3 (some .int)) ∈ TT := tin_TT25 _ (List.mem_of_getElem? (i := 7) rfl)
theorem tw608 : (Cond.methodLink RX10 120 yX8_takeTurn) ∈ TT := tin_TT25 _ (List.mem_of_getElem? (i := 8) rfl)
theorem tw609 : (Cond.instanceMethod yX8_takeTurn) ∈ TT := tin_TT25 _ (List.mem_of_getElem? (i := 9) rfl)
theorem tw610 : (Cond.selects RX8 yX8_takeTurn yX8_takeTurn) ∈ TT := tin_TT25 _ (List.mem_of_getElem? (i := 10) rfl)
theorem tw611 : (Cond.code yX8_takeTurn cX8_takeTurn 4 (some .boolean)) ∈ TT := tin_TT25 _ (List.mem_of_getElem? (i := 11) rfl)
theorem tw612 : (Cond.fieldLink RX8 48 "TimedThreads$Outcome" "FAULT" "LTimedThreads$Outcome;") ∈ TT := tin_TT25 _ (List.mem_of_getElem? (i := 12) rfl)
theorem tw613 : (Cond.fieldLink RX8 54 "TimedThreads$Outcome" "DONE" "LTimedThreads$Outcome;") ∈ TT := tin_TT25 _ (List.mem_of_getElem? (i := 13) rfl)
theorem tw614 : (Cond.fieldLink RX8 57 "TimedThreads$TimedThread" "retirement" "I") ∈ TT := tin_TT25 _ (List.mem_of_getElem? (i := 14) rfl)
theorem tw615 : (Cond.fieldLink RX8 64 "TimedThreads$TimedThread" "nextAddress" "I") ∈ TT := tin_TT25 _ (List.mem_of_getElem? (i := 15) rfl)
theorem tw616 : (Cond.methodLink RX8 44 yX8_attempt) ∈ TT := tin_TT25 _ (List.mem_of_getElem? (i := 16) rfl)
theorem tw617 : (Cond.instanceMethod yX8_attempt) ∈ TT := tin_TT25 _ (List.mem_of_getElem? (i := 17) rfl)
theorem tw618 : (Cond.selects RX8 yX8_attempt yX8_attempt) ∈ TT := tin_TT25 _ (List.mem_of_getElem? (i := 18) rfl)
theorem tw619 : (Cond.code yX8_attempt cX8_attempt 4 (some (.object "TimedThreads$Outcome"))) ∈ TT := tin_TT25 _ (List.mem_of_getElem? (i := 19) rfl)
theorem tw620 : (Cond.methodLink RX8 67 yX8_isInStore) ∈ TT := tin_TT25 _ (List.mem_of_getElem? (i := 20) rfl)
theorem tw621 : (Cond.static yX8_isInStore) ∈ TT := tin_TT25 _ (List.mem_of_getElem? (i := 21) rfl)
theorem tw622 : (Cond.code yX8_isInStore cX8_isInStore 1 (some .boolean)) ∈ TT := tin_TT25 _ (List.mem_of_getElem? (i := 22) rfl)
theorem tw623 : (Cond.methodLink RX8 71 yX8_isAligned) ∈ TT := tin_TT25 _ (List.mem_of_getElem? (i := 23) rfl)
theorem tw624 : (Cond.static yX8_isAligned) ∈ TT := tin_TT26 _ (List.mem_of_getElem? (i := 0) rfl)
theorem tw625 : (Cond.code yX8_isAligned cX8_isAligned 1 (some .boolean)) ∈ TT := tin_TT26 _ (List.mem_of_getElem? (i := 1) rfl)
theorem tw626 : (Cond.methodLink RX8 74 yX1_op) ∈ TT := tin_TT26 _ (List.mem_of_getElem? (i := 2) rfl)
theorem tw627 : (Cond.methodLink RX8 80 yX8_loadUpper) ∈ TT := tin_TT26 _ (List.mem_of_getElem? (i := 3) rfl)
theorem tw628 : (Cond.instanceMethod yX8_loadUpper) ∈ TT := tin_TT26 _ (List.mem_of_getElem? (i := 4) rfl)
theorem tw629 : (Cond.selects RX8 yX8_loadUpper yX8_loadUpper) ∈ TT := tin_TT26 _ (List.mem_of_getElem? (i := 5) rfl)
theorem tw630 : (Cond.code yX8_loadUpper cX8_loadUpper 3 (some (.object "TimedThreads$Outcome"))) ∈ TT := tin_TT26 _ (List.mem_of_getElem? (i := 6) rfl)
theorem tw631 : (Cond.methodLink RX8 113 yX1_rd) ∈ TT := tin_TT26 _ (List.mem_of_getElem? (i := 7) rfl)
theorem tw632 : (Cond.static yX1_rd) ∈ TT := tin_TT26 _ (List.mem_of_getElem? (i := 8) rfl)
theorem tw633 : (Cond.code yX1_rd cX1_rd 1 (some .int)) ∈ TT := tin_TT26 _ (List.mem_of_getElem? (i := 9) rfl)
theorem tw634 : (Cond.static yX10_isRegister) ∈ TT := tin_TT26 _ (List.mem_of_getElem? (i := 10) rfl)
theorem tw635 : (Cond.code yX10_isRegister cX10_isRegister 1 (some .boolean)) ∈ TT := tin_TT26 _ (List.mem_of_getElem? (i := 11) rfl)
theorem tw636 : (Cond.methodLink RX8 119 yX1_numberU) ∈ TT := tin_TT26 _ (List.mem_of_getElem? (i := 12) rfl)
theorem tw637 : (Cond.static yX1_numberU) ∈ TT := tin_TT26 _ (List.mem_of_getElem? (i := 13) rfl)
theorem tw638 : (Cond.code yX1_numberU cX1_numberU 1 (some .int)) ∈ TT := tin_TT26 _ (List.mem_of_getElem? (i := 14) rfl)
theorem tw639 : (Cond.methodLink RX8 122 yX8_setRegister) ∈ TT := tin_TT26 _ (List.mem_of_getElem? (i := 15) rfl)
theorem tw640 : (Cond.instanceMethod yX8_setRegister) ∈ TT := tin_TT26 _ (List.mem_of_getElem? (i := 16) rfl)
theorem tw641 : (Cond.selects RX8 yX8_setRegister yX8_setRegister) ∈ TT := tin_TT26 _ (List.mem_of_getElem? (i := 17) rfl)
theorem tw642 : (Cond.code yX8_setRegister cX8_setRegister 3 none) ∈ TT := tin_TT26 _ (List.mem_of_getElem? (i := 18) rfl)
theorem tw643 : (Cond.methodLink RX8 84 yX8_jump) ∈ TT := tin_TT26 _ (List.mem_of_getElem? (i := 19) rfl)
theorem tw644 : (Cond.instanceMethod yX8_jump) ∈ TT := tin_TT26 _ (List.mem_of_getElem? (i := 20) rfl)
theorem tw645 : (Cond.selects RX8 yX8_jump yX8_jump) ∈ TT := tin_TT26 _ (List.mem_of_getElem? (i := 21) rfl)
theorem tw646 : (Cond.code yX8_jump cX8_jump 3 (some (.object "TimedThreads$Outcome"))) ∈ TT := tin_TT26 _ (List.mem_of_getElem? (i := 22) rfl)
theorem tw647 : (Cond.methodLink RX8 126 yX1_numberJ) ∈ TT := tin_TT26 _ (List.mem_of_getElem? (i := 23) rfl)
theorem tw648 : (Cond.static yX1_numberJ) ∈ TT := tin_TT27 _ (List.mem_of_getElem? (i := 0) rfl)
theorem tw649 : (Cond.code yX1_numberJ cX1_numberJ 1 (some .int)) ∈ TT := tin_TT27 _ (List.mem_of_getElem? (i := 1) rfl)
theorem tw650 : (Cond.methodLink RX8 87 yX8_jumpToRegister) ∈ TT := tin_TT27 _ (List.mem_of_getElem? (i := 2) rfl)
theorem tw651 : (Cond.instanceMethod yX8_jumpToRegister) ∈ TT := tin_TT27 _ (List.mem_of_getElem? (i := 3) rfl)
theorem tw652 : (Cond.selects RX8 yX8_jumpToRegister yX8_jumpToRegister) ∈ TT := tin_TT27 _ (List.mem_of_getElem? (i := 4) rfl)
theorem tw653 : (Cond.code yX8_jumpToRegister cX8_jumpToRegister 5 (some (.object "TimedThreads$Outcome"))) ∈ TT := tin_TT27 _ (List.mem_of_getElem? (i := 5) rfl)
theorem tw654 : (Cond.methodLink RX8 129 yX1_rs) ∈ TT := tin_TT27 _ (List.mem_of_getElem? (i := 6) rfl)
theorem tw655 : (Cond.static yX1_rs) ∈ TT := tin_TT27 _ (List.mem_of_getElem? (i := 7) rfl)
theorem tw656 : (Cond.code yX1_rs cX1_rs 1 (some .int)) ∈ TT := tin_TT27 _ (List.mem_of_getElem? (i := 8) rfl)
theorem tw657 : (Cond.methodLink RX8 132 yX1_f) ∈ TT := tin_TT27 _ (List.mem_of_getElem? (i := 9) rfl)
theorem tw658 : (Cond.static yX1_f) ∈ TT := tin_TT27 _ (List.mem_of_getElem? (i := 10) rfl)
theorem tw659 : (Cond.code yX1_f cX1_f 1 (some .int)) ∈ TT := tin_TT27 _ (List.mem_of_getElem? (i := 11) rfl)
theorem tw660 : (Cond.methodLink RX8 135 yX1_numberI) ∈ TT := tin_TT27 _ (List.mem_of_getElem? (i := 12) rfl)
theorem tw661 : (Cond.static yX1_numberI) ∈ TT := tin_TT27 _ (List.mem_of_getElem? (i := 13) rfl)
theorem tw662 : (Cond.code yX1_numberI cX1_numberI 1 (some .int)) ∈ TT := tin_TT27 _ (List.mem_of_getElem? (i := 14) rfl)
theorem tw663 : (Cond.methodLink RX8 90 yX8_branch) ∈ TT := tin_TT27 _ (List.mem_of_getElem? (i := 15) rfl)
theorem tw664 : (Cond.instanceMethod yX8_branch) ∈ TT := tin_TT27 _ (List.mem_of_getElem? (i := 16) rfl)
theorem tw665 : (Cond.selects RX8 yX8_branch yX8_branch) ∈ TT := tin_TT27 _ (List.mem_of_getElem? (i := 17) rfl)
theorem tw666 : (Cond.code yX8_branch cX8_branch 5 (some (.object "TimedThreads$Outcome"))) ∈ TT := tin_TT27 _ (List.mem_of_getElem? (i := 18) rfl)
theorem tw667 : (Cond.methodLink RX8 138 yX1_rt) ∈ TT := tin_TT27 _ (List.mem_of_getElem? (i := 19) rfl)
theorem tw668 : (Cond.static yX1_rt) ∈ TT := tin_TT27 _ (List.mem_of_getElem? (i := 20) rfl)
theorem tw669 : (Cond.code yX1_rt cX1_rt 1 (some .int)) ∈ TT := tin_TT27 _ (List.mem_of_getElem? (i := 21) rfl)
theorem tw670 : (Cond.methodLink RX8 141 yX8_isSo) ∈ TT := tin_TT27 _ (List.mem_of_getElem? (i := 22) rfl)
theorem tw671 : (Cond.static yX8_isSo) ∈ TT := tin_TT27 _ (List.mem_of_getElem? (i := 23) rfl)
theorem tw672 : (Cond.code yX8_isSo cX8_isSo 3 (some .boolean)) ∈ TT := tin_TT28 _ (List.mem_of_getElem? (i := 0) rfl)
theorem tw673 : (Cond.methodLink RX8 148 yX8_isBelowUnsigned) ∈ TT := tin_TT28 _ (List.mem_of_getElem? (i := 1) rfl)
theorem tw674 : (Cond.static yX8_isBelowUnsigned) ∈ TT := tin_TT28 _ (List.mem_of_getElem? (i := 2) rfl)
theorem tw675 : (Cond.code yX8_isBelowUnsigned cX8_isBelowUnsigned 2 (some .boolean)) ∈ TT := tin_TT28 _ (List.mem_of_getElem? (i := 3) rfl)
theorem tw676 : (Cond.constantLong RX8 152 (4294967295)) ∈ TT := tin_TT28 _ (List.mem_of_getElem? (i := 4) rfl)
theorem tw677 : (Cond.methodLink RX8 145 yX1_numberB) ∈ TT := tin_TT28 _ (List.mem_of_getElem? (i := 5) rfl)
theorem tw678 : (Cond.static yX1_numberB) ∈ TT := tin_TT28 _ (List.mem_of_getElem? (i := 6) rfl)
theorem tw679 : (Cond.code yX1_numberB cX1_numberB 1 (some .int)) ∈ TT := tin_TT28 _ (List.mem_of_getElem? (i := 7) rfl)
theorem tw680 : (Cond.methodLink RX8 93 yX8_load) ∈ TT := tin_TT28 _ (List.mem_of_getElem? (i := 8) rfl)
theorem tw681 : (Cond.instanceMethod yX8_load) ∈ TT := tin_TT28 _ (List.mem_of_getElem? (i := 9) rfl)
theorem tw682 : (Cond.selects RX8 yX8_load yX8_load) ∈ TT := tin_TT28 _ (List.mem_of_getElem? (i := 10) rfl)
theorem tw683 : (Cond.code yX8_load cX8_load 11 (some (.object "TimedThreads$Outcome"))) ∈ TT := tin_TT28 _ (List.mem_of_getElem? (i := 11) rfl)
theorem tw684 : (Cond.methodLink RX8 154 yX8_canReach) ∈ TT := tin_TT28 _ (List.mem_of_getElem? (i := 12) rfl)
theorem tw685 : (Cond.instanceMethod yX8_canReach) ∈ TT := tin_TT28 _ (List.mem_of_getElem? (i := 13) rfl)
theorem tw686 : (Cond.selects RX8 yX8_canReach yX8_canReach) ∈ TT := tin_TT28 _ (List.mem_of_getElem? (i := 14) rfl)
theorem tw687 : (Cond.code yX8_canReach cX8_canReach 4 (some .boolean)) ∈ TT := tin_TT28 _ (List.mem_of_getElem? (i := 15) rfl)
theorem tw688 : (Cond.fieldLink RX8 174 "TimedThreads$TimedThread" "low" "I") ∈ TT := tin_TT28 _ (List.mem_of_getElem? (i := 16) rfl)
theorem tw689 : (Cond.fieldLink RX8 177 "TimedThreads$TimedThread" "high" "I") ∈ TT := tin_TT28 _ (List.mem_of_getElem? (i := 17) rfl)
theorem tw690 : (Cond.methodLink RX8 157 yX8_rowOf) ∈ TT := tin_TT28 _ (List.mem_of_getElem? (i := 18) rfl)
theorem tw691 : (Cond.instanceMethod yX8_rowOf) ∈ TT := tin_TT28 _ (List.mem_of_getElem? (i := 19) rfl)
theorem tw692 : (Cond.selects RX8 yX8_rowOf yX8_rowOf) ∈ TT := tin_TT28 _ (List.mem_of_getElem? (i := 20) rfl)
theorem tw693 : (Cond.code yX8_rowOf cX8_rowOf 3 (some (.array .int))) ∈ TT := tin_TT28 _ (List.mem_of_getElem? (i := 21) rfl)
theorem tw694 : (Cond.fieldLink RX8 180 "TimedThreads$SharedMemory" "words" "[I") ∈ TT := tin_TT28 _ (List.mem_of_getElem? (i := 22) rfl)
theorem tw695 : (Cond.methodLink RX8 161 yX8_placeOf) ∈ TT := tin_TT28 _ (List.mem_of_getElem? (i := 23) rfl)
theorem tw696 : (Cond.static yX8_placeOf) ∈ TT := tin_TT29 _ (List.mem_of_getElem? (i := 0) rfl)
theorem tw697 : (Cond.code yX8_placeOf cX8_placeOf 1 (some .int)) ∈ TT := tin_TT29 _ (List.mem_of_getElem? (i := 1) rfl)
theorem tw698 : (Cond.methodLink RX8 164 yX8_bitOf) ∈ TT := tin_TT29 _ (List.mem_of_getElem? (i := 2) rfl)
theorem tw699 : (Cond.static yX8_bitOf) ∈ TT := tin_TT29 _ (List.mem_of_getElem? (i := 3) rfl)
theorem tw700 : (Cond.code yX8_bitOf cX8_bitOf 1 (some .int)) ∈ TT := tin_TT29 _ (List.mem_of_getElem? (i := 4) rfl)
theorem tw701 : (Cond.methodLink RX8 167 yX8_setRetirement) ∈ TT := tin_TT29 _ (List.mem_of_getElem? (i := 5) rfl)
theorem tw702 : (Cond.instanceMethod yX8_setRetirement) ∈ TT := tin_TT29 _ (List.mem_of_getElem? (i := 6) rfl)
theorem tw703 : (Cond.selects RX8 yX8_setRetirement yX8_setRetirement) ∈ TT := tin_TT29 _ (List.mem_of_getElem? (i := 7) rfl)
theorem tw704 : (Cond.code yX8_setRetirement cX8_setRetirement 4 none) ∈ TT := tin_TT29 _ (List.mem_of_getElem? (i := 8) rfl)
theorem tw705 : (Cond.methodLink RX8 185 yX6_retirement) ∈ TT := tin_TT29 _ (List.mem_of_getElem? (i := 9) rfl)
theorem tw706 : (Cond.instanceMethod yX6_retirement) ∈ TT := tin_TT29 _ (List.mem_of_getElem? (i := 10) rfl)
theorem tw707 : (Cond.selects RX6 yX6_retirement yX6_retirement) ∈ TT := tin_TT29 _ (List.mem_of_getElem? (i := 11) rfl)
theorem tw708 : (Cond.code yX6_retirement cX6_retirement 4 (some .int)) ∈ TT := tin_TT29 _ (List.mem_of_getElem? (i := 12) rfl)
theorem tw709 : (Cond.methodLink RX6 19 yJ9_floorMod_7cf53) ∈ TT := tin_TT29 _ (List.mem_of_getElem? (i := 13) rfl)
theorem tw710 : (Cond.methodLink RX8 97 yX8_save) ∈ TT := tin_TT29 _ (List.mem_of_getElem? (i := 14) rfl)
theorem tw711 : (Cond.instanceMethod yX8_save) ∈ TT := tin_TT29 _ (List.mem_of_getElem? (i := 15) rfl)
theorem tw712 : (Cond.selects RX8 yX8_save yX8_save) ∈ TT := tin_TT29 _ (List.mem_of_getElem? (i := 16) rfl)
theorem tw713 : (Cond.code yX8_save cX8_save 13 (some (.object "TimedThreads$Outcome"))) ∈ TT := tin_TT29 _ (List.mem_of_getElem? (i := 17) rfl)
theorem tw714 : (Cond.methodLink RX8 171 yX1_numberS) ∈ TT := tin_TT29 _ (List.mem_of_getElem? (i := 18) rfl)
theorem tw715 : (Cond.static yX1_numberS) ∈ TT := tin_TT29 _ (List.mem_of_getElem? (i := 19) rfl)
theorem tw716 : (Cond.code yX1_numberS cX1_numberS 1 (some .int)) ∈ TT := tin_TT29 _ (List.mem_of_getElem? (i := 20) rfl)
theorem tw717 : (Cond.methodLink RX1 9 yX1_rd) ∈ TT := tin_TT29 _ (List.mem_of_getElem? (i := 21) rfl)
theorem tw718 : (Cond.methodLink RX8 100 yX8_computeWithNumber) ∈ TT := tin_TT29 _ (List.mem_of_getElem? (i := 22) rfl)
theorem tw719 : (Cond.instanceMethod yX8_computeWithNumber) ∈ TT := tin_TT29 _ (List.mem_of_getElem? (i := 23) rfl)
theorem tw720 : (Cond.selects RX8 yX8_computeWithNumber yX8_computeWithNumber) ∈ TT := tin_TT30 _ (List.mem_of_getElem? (i := 0) rfl)
theorem tw721 : (Cond.code yX8_computeWithNumber cX8_computeWithNumber 8 (some (.object "TimedThreads$Outcome"))) ∈ TT := tin_TT30 _ (List.mem_of_getElem? (i := 1) rfl)
theorem tw722 : (Cond.methodLink RX8 188 yX1_g) ∈ TT := tin_TT30 _ (List.mem_of_getElem? (i := 2) rfl)
theorem tw723 : (Cond.static yX1_g) ∈ TT := tin_TT30 _ (List.mem_of_getElem? (i := 3) rfl)
theorem tw724 : (Cond.code yX1_g cX1_g 1 (some .int)) ∈ TT := tin_TT30 _ (List.mem_of_getElem? (i := 4) rfl)
theorem tw725 : (Cond.methodLink RX8 191 yX8_compute) ∈ TT := tin_TT30 _ (List.mem_of_getElem? (i := 5) rfl)
theorem tw726 : (Cond.static yX8_compute) ∈ TT := tin_TT30 _ (List.mem_of_getElem? (i := 6) rfl)
theorem tw727 : (Cond.code yX8_compute cX8_compute 4 (some .int)) ∈ TT := tin_TT30 _ (List.mem_of_getElem? (i := 7) rfl)
theorem tw728 : (Cond.methodLink RX8 103 yX8_computeWithRegister) ∈ TT := tin_TT30 _ (List.mem_of_getElem? (i := 8) rfl)
theorem tw729 : (Cond.instanceMethod yX8_computeWithRegister) ∈ TT := tin_TT30 _ (List.mem_of_getElem? (i := 9) rfl)
theorem tw730 : (Cond.selects RX8 yX8_computeWithRegister yX8_computeWithRegister) ∈ TT := tin_TT30 _ (List.mem_of_getElem? (i := 10) rfl)
theorem tw731 : (Cond.code yX8_computeWithRegister cX8_computeWithRegister 8 (some (.object "TimedThreads$Outcome"))) ∈ TT := tin_TT30 _ (List.mem_of_getElem? (i := 11) rfl)
theorem tw732 : (Cond.methodLink RX8 106 yX8_timed) ∈ TT := tin_TT30 _ (List.mem_of_getElem? (i := 12) rfl)
theorem tw733 : (Cond.instanceMethod yX8_timed) ∈ TT := tin_TT30 _ (List.mem_of_getElem? (i := 13) rfl)
theorem tw734 : (Cond.selects RX8 yX8_timed yX8_timed) ∈ TT := tin_TT30 _ (List.mem_of_getElem? (i := 14) rfl)
theorem tw735 : (Cond.code yX8_timed cX8_timed 5 (some (.object "TimedThreads$Outcome"))) ∈ TT := tin_TT30 _ (List.mem_of_getElem? (i := 15) rfl)
theorem tw736 : (Cond.methodLink RX8 195 yX8_setTimer) ∈ TT := tin_TT30 _ (List.mem_of_getElem? (i := 16) rfl)
theorem tw737 : (Cond.instanceMethod yX8_setTimer) ∈ TT := tin_TT30 _ (List.mem_of_getElem? (i := 17) rfl)
theorem tw738 : (Cond.selects RX8 yX8_setTimer yX8_setTimer) ∈ TT := tin_TT30 _ (List.mem_of_getElem? (i := 18) rfl)
theorem tw739 : (Cond.code yX8_setTimer cX8_setTimer 7 (some (.object "TimedThreads$Outcome"))) ∈ TT := tin_TT30 _ (List.mem_of_getElem? (i := 19) rfl)
theorem tw740 : (Cond.fieldLink RX8 199 "TimedThreads$Outcome" "TRY_AGAIN" "LTimedThreads$Outcome;") ∈ TT := tin_TT30 _ (List.mem_of_getElem? (i := 20) rfl)
theorem tw741 : (Cond.constantLong RX8 202 (2147483647)) ∈ TT := tin_TT30 _ (List.mem_of_getElem? (i := 21) rfl)
theorem tw742 : (Cond.methodLink RX8 204 Lib.MathLoose.max_long.x) ∈ TT := tin_TT30 _ (List.mem_of_getElem? (i := 22) rfl)
theorem tw743 : (Cond.static Lib.MathLoose.max_long.x) ∈ TT := tin_TT30 _ (List.mem_of_getElem? (i := 23) rfl)
theorem tw744 : (Cond.code Lib.MathLoose.max_long.x Lib.MathLoose.max_long.code 4 (some .long)) ∈ TT := tin_TT31 _ (List.mem_of_getElem? (i := 0) rfl)
theorem tw745 : (Cond.methodLink RX8 210 Lib.MathLoose.min_long.x) ∈ TT := tin_TT31 _ (List.mem_of_getElem? (i := 1) rfl)
theorem tw746 : (Cond.static Lib.MathLoose.min_long.x) ∈ TT := tin_TT31 _ (List.mem_of_getElem? (i := 2) rfl)
theorem tw747 : (Cond.code Lib.MathLoose.min_long.x Lib.MathLoose.min_long.code 4 (some .long)) ∈ TT := tin_TT31 _ (List.mem_of_getElem? (i := 3) rfl)
theorem tw748 : (Cond.methodLink RX8 110 yX8_halt) ∈ TT := tin_TT31 _ (List.mem_of_getElem? (i := 4) rfl)
theorem tw749 : (Cond.instanceMethod yX8_halt) ∈ TT := tin_TT31 _ (List.mem_of_getElem? (i := 5) rfl)
theorem tw750 : (Cond.selects RX8 yX8_halt yX8_halt) ∈ TT := tin_TT31 _ (List.mem_of_getElem? (i := 6) rfl)
theorem tw751 : (Cond.code yX8_halt cX8_halt 2 (some (.object "TimedThreads$Outcome"))) ∈ TT := tin_TT31 _ (List.mem_of_getElem? (i := 7) rfl)
theorem tw752 : (Cond.methodLink RX8 60 yX2_add) ∈ TT := tin_TT31 _ (List.mem_of_getElem? (i := 8) rfl)
theorem tw753 : (Cond.instanceMethod yX2_add) ∈ TT := tin_TT31 _ (List.mem_of_getElem? (i := 9) rfl)
theorem tw754 : (Cond.selects RX2 yX2_add yX2_add) ∈ TT := tin_TT31 _ (List.mem_of_getElem? (i := 10) rfl)
theorem tw755 : (Cond.code yX2_add cX2_add 5 none) ∈ TT := tin_TT31 _ (List.mem_of_getElem? (i := 11) rfl)
theorem tw756 : (Cond.fieldLink RX2 21 "TimedThreads$History" "count" "I") ∈ TT := tin_TT31 _ (List.mem_of_getElem? (i := 12) rfl)
theorem tw757 : (Cond.methodLink RX2 25 yX2_placeOf) ∈ TT := tin_TT31 _ (List.mem_of_getElem? (i := 13) rfl)
theorem tw758 : (Cond.static yX2_placeOf) ∈ TT := tin_TT31 _ (List.mem_of_getElem? (i := 14) rfl)
theorem tw759 : (Cond.code yX2_placeOf cX2_placeOf 1 (some .int)) ∈ TT := tin_TT31 _ (List.mem_of_getElem? (i := 15) rfl)
theorem tw760 : (Cond.methodLink RX2 29 yJ9_floorMod_7cf53) ∈ TT := tin_TT31 _ (List.mem_of_getElem? (i := 16) rfl)
theorem tw761 : (Cond.methodLink RL 83 yX11_run) ∈ TT := tin_TT31 _ (List.mem_of_getElem? (i := 17) rfl)
theorem tw762 : (Cond.instanceMethod yX11_run) ∈ TT := tin_TT31 _ (List.mem_of_getElem? (i := 18) rfl)
theorem tw763 : (Cond.selects RX11 yX11_run yX11_run) ∈ TT := tin_TT31 _ (List.mem_of_getElem? (i := 19) rfl)
theorem tw764 : (Cond.code yX11_run cX11_run 4 (some .int)) ∈ TT := tin_TT31 _ (List.mem_of_getElem? (i := 20) rfl)
theorem tw765 : (Cond.methodLink RX11 349 yX11_turn) ∈ TT := tin_TT31 _ (List.mem_of_getElem? (i := 21) rfl)
theorem tw766 : (Cond.instanceMethod yX11_turn) ∈ TT := tin_TT31 _ (List.mem_of_getElem? (i := 22) rfl)
theorem tw767 : (Cond.selects RX11 yX11_turn yX11_turn) ∈ TT := tin_TT31 _ (List.mem_of_getElem? (i := 23) rfl)
theorem tw768 : (Cond.code yX11_turn cX11_turn 4 (some .int)) ∈ TT := tin_TT32 _ (List.mem_of_getElem? (i := 0) rfl)
theorem tw769 : (Cond.methodLink RX11 288 yX11_isOwn) ∈ TT := tin_TT32 _ (List.mem_of_getElem? (i := 1) rfl)
theorem tw770 : (Cond.static yX11_isOwn) ∈ TT := tin_TT32 _ (List.mem_of_getElem? (i := 2) rfl)
theorem tw771 : (Cond.code yX11_isOwn cX11_isOwn 1 (some .boolean)) ∈ TT := tin_TT32 _ (List.mem_of_getElem? (i := 3) rfl)
theorem tw772 : (Cond.methodLink RX11 299 yX11_stop) ∈ TT := tin_TT32 _ (List.mem_of_getElem? (i := 4) rfl)
theorem tw773 : (Cond.instanceMethod yX11_stop) ∈ TT := tin_TT32 _ (List.mem_of_getElem? (i := 5) rfl)
theorem tw774 : (Cond.selects RX11 yX11_stop yX11_stop) ∈ TT := tin_TT32 _ (List.mem_of_getElem? (i := 6) rfl)
theorem tw775 : (Cond.code yX11_stop cX11_stop 2 (some .int)) ∈ TT := tin_TT32 _ (List.mem_of_getElem? (i := 7) rfl)
theorem tw776 : (Cond.methodLink RX11 313 yX11_set) ∈ TT := tin_TT32 _ (List.mem_of_getElem? (i := 8) rfl)
theorem tw777 : (Cond.instanceMethod yX11_set) ∈ TT := tin_TT32 _ (List.mem_of_getElem? (i := 9) rfl)
theorem tw778 : (Cond.selects RX11 yX11_set yX11_set) ∈ TT := tin_TT32 _ (List.mem_of_getElem? (i := 10) rfl)
theorem tw779 : (Cond.code yX11_set cX11_set 4 none) ∈ TT := tin_TT32 _ (List.mem_of_getElem? (i := 11) rfl)
theorem tw780 : (Cond.methodLink RX11 319 yX11_done) ∈ TT := tin_TT32 _ (List.mem_of_getElem? (i := 12) rfl)
theorem tw781 : (Cond.instanceMethod yX11_done) ∈ TT := tin_TT32 _ (List.mem_of_getElem? (i := 13) rfl)
theorem tw782 : (Cond.selects RX11 yX11_done yX11_done) ∈ TT := tin_TT32 _ (List.mem_of_getElem? (i := 14) rfl)
theorem tw783 : (Cond.code yX11_done cX11_done 5 (some .int)) ∈ TT := tin_TT32 _ (List.mem_of_getElem? (i := 15) rfl)
theorem tw784 : (Cond.methodLink RX11 333 yX11_jump) ∈ TT := tin_TT32 _ (List.mem_of_getElem? (i := 16) rfl)
theorem tw785 : (Cond.instanceMethod yX11_jump) ∈ TT := tin_TT32 _ (List.mem_of_getElem? (i := 17) rfl)
theorem tw786 : (Cond.selects RX11 yX11_jump yX11_jump) ∈ TT := tin_TT32 _ (List.mem_of_getElem? (i := 18) rfl)
theorem tw787 : (Cond.code yX11_jump cX11_jump 8 (some .int)) ∈ TT := tin_TT32 _ (List.mem_of_getElem? (i := 19) rfl)
theorem tw788 : (Cond.methodLink RX11 337 yX11_branch) ∈ TT := tin_TT32 _ (List.mem_of_getElem? (i := 20) rfl)
theorem tw789 : (Cond.instanceMethod yX11_branch) ∈ TT := tin_TT32 _ (List.mem_of_getElem? (i := 21) rfl)
theorem tw790 : (Cond.selects RX11 yX11_branch yX11_branch) ∈ TT := tin_TT32 _ (List.mem_of_getElem? (i := 22) rfl)
theorem tw791 : (Cond.code yX11_branch cX11_branch 8 (some .int)) ∈ TT := tin_TT32 _ (List.mem_of_getElem? (i := 23) rfl)
theorem tw792 : (Cond.methodLink RX11 327 yX11_goes) ∈ TT := tin_TT33 _ (List.mem_of_getElem? (i := 0) rfl)
theorem tw793 : (Cond.static yX11_goes) ∈ TT := tin_TT33 _ (List.mem_of_getElem? (i := 1) rfl)
theorem tw794 : (Cond.code yX11_goes cX11_goes 4 (some .boolean)) ∈ TT := tin_TT33 _ (List.mem_of_getElem? (i := 2) rfl)
theorem tw795 : (Cond.methodLink RX11 295 yX11_isLess) ∈ TT := tin_TT33 _ (List.mem_of_getElem? (i := 3) rfl)
theorem tw796 : (Cond.static yX11_isLess) ∈ TT := tin_TT33 _ (List.mem_of_getElem? (i := 4) rfl)
theorem tw797 : (Cond.code yX11_isLess cX11_isLess 2 (some .boolean)) ∈ TT := tin_TT33 _ (List.mem_of_getElem? (i := 5) rfl)
theorem tw798 : (Cond.constant RX11 294 (-2147483648)) ∈ TT := tin_TT33 _ (List.mem_of_getElem? (i := 6) rfl)
theorem tw799 : (Cond.methodLink RX11 340 yX11_moveWord) ∈ TT := tin_TT33 _ (List.mem_of_getElem? (i := 7) rfl)
theorem tw800 : (Cond.instanceMethod yX11_moveWord) ∈ TT := tin_TT33 _ (List.mem_of_getElem? (i := 8) rfl)
theorem tw801 : (Cond.selects RX11 yX11_moveWord yX11_moveWord) ∈ TT := tin_TT33 _ (List.mem_of_getElem? (i := 9) rfl)
theorem tw802 : (Cond.code yX11_moveWord cX11_moveWord 13 (some .int)) ∈ TT := tin_TT33 _ (List.mem_of_getElem? (i := 10) rfl)
theorem tw803 : (Cond.methodLink RX11 302 yX11_isThere) ∈ TT := tin_TT33 _ (List.mem_of_getElem? (i := 11) rfl)
theorem tw804 : (Cond.instanceMethod yX11_isThere) ∈ TT := tin_TT33 _ (List.mem_of_getElem? (i := 12) rfl)
theorem tw805 : (Cond.selects RX11 yX11_isThere yX11_isThere) ∈ TT := tin_TT33 _ (List.mem_of_getElem? (i := 13) rfl)
theorem tw806 : (Cond.code yX11_isThere cX11_isThere 4 (some .boolean)) ∈ TT := tin_TT33 _ (List.mem_of_getElem? (i := 14) rfl)
theorem tw807 : (Cond.methodLink RX11 306 yX11_wordAt) ∈ TT := tin_TT33 _ (List.mem_of_getElem? (i := 15) rfl)
theorem tw808 : (Cond.instanceMethod yX11_wordAt) ∈ TT := tin_TT33 _ (List.mem_of_getElem? (i := 16) rfl)
theorem tw809 : (Cond.selects RX11 yX11_wordAt yX11_wordAt) ∈ TT := tin_TT33 _ (List.mem_of_getElem? (i := 17) rfl)
theorem tw810 : (Cond.code yX11_wordAt cX11_wordAt 3 (some .int)) ∈ TT := tin_TT33 _ (List.mem_of_getElem? (i := 18) rfl)
theorem tw811 : (Cond.methodLink RX11 309 yX11_put) ∈ TT := tin_TT33 _ (List.mem_of_getElem? (i := 19) rfl)
theorem tw812 : (Cond.instanceMethod yX11_put) ∈ TT := tin_TT33 _ (List.mem_of_getElem? (i := 20) rfl)
theorem tw813 : (Cond.selects RX11 yX11_put yX11_put) ∈ TT := tin_TT33 _ (List.mem_of_getElem? (i := 21) rfl)
theorem tw814 : (Cond.code yX11_put cX11_put 4 none) ∈ TT := tin_TT33 _ (List.mem_of_getElem? (i := 22) rfl)
theorem tw815 : (Cond.methodLink RX11 316 yX11_first) ∈ TT := tin_TT33 _ (List.mem_of_getElem? (i := 23) rfl)
theorem tw816 : (Cond.instanceMethod yX11_first) ∈ TT := tin_TT34 _ (List.mem_of_getElem? (i := 0) rfl)
theorem tw817 : (Cond.selects RX11 yX11_first yX11_first) ∈ TT := tin_TT34 _ (List.mem_of_getElem? (i := 1) rfl)
theorem tw818 : (Cond.code yX11_first cX11_first 3 (some .int)) ∈ TT := tin_TT34 _ (List.mem_of_getElem? (i := 2) rfl)
theorem tw819 : (Cond.methodLink RX11 343 yX11_calculate) ∈ TT := tin_TT34 _ (List.mem_of_getElem? (i := 3) rfl)
theorem tw820 : (Cond.instanceMethod yX11_calculate) ∈ TT := tin_TT34 _ (List.mem_of_getElem? (i := 4) rfl)
theorem tw821 : (Cond.selects RX11 yX11_calculate yX11_calculate) ∈ TT := tin_TT34 _ (List.mem_of_getElem? (i := 5) rfl)
theorem tw822 : (Cond.code yX11_calculate cX11_calculate 13 (some .int)) ∈ TT := tin_TT34 _ (List.mem_of_getElem? (i := 6) rfl)
theorem tw823 : (Cond.methodLink RX11 323 yX11_worked) ∈ TT := tin_TT34 _ (List.mem_of_getElem? (i := 7) rfl)
theorem tw824 : (Cond.static yX11_worked) ∈ TT := tin_TT34 _ (List.mem_of_getElem? (i := 8) rfl)
theorem tw825 : (Cond.code yX11_worked cX11_worked 4 (some .int)) ∈ TT := tin_TT34 _ (List.mem_of_getElem? (i := 9) rfl)
theorem tw826 : (Cond.methodLink RX11 346 yX11_clock) ∈ TT := tin_TT34 _ (List.mem_of_getElem? (i := 10) rfl)
theorem tw827 : (Cond.instanceMethod yX11_clock) ∈ TT := tin_TT34 _ (List.mem_of_getElem? (i := 11) rfl)
theorem tw828 : (Cond.selects RX11 yX11_clock yX11_clock) ∈ TT := tin_TT34 _ (List.mem_of_getElem? (i := 12) rfl)
theorem tw829 : (Cond.code yX11_clock cX11_clock 8 (some .int)) ∈ TT := tin_TT34 _ (List.mem_of_getElem? (i := 13) rfl)
theorem tw830 : (Cond.constantLong RX11 330 (2147483647)) ∈ TT := tin_TT34 _ (List.mem_of_getElem? (i := 14) rfl)
theorem tw831 : (Cond.constant RX11 332 (2147483647)) ∈ TT := tin_TT34 _ (List.mem_of_getElem? (i := 15) rfl)
theorem tw832 : (Cond.methodLink RL 84 yX10_now) ∈ TT := tin_TT34 _ (List.mem_of_getElem? (i := 16) rfl)
theorem tw833 : (Cond.instanceMethod yX10_now) ∈ TT := tin_TT34 _ (List.mem_of_getElem? (i := 17) rfl)
theorem tw834 : (Cond.selects RX10 yX10_now yX10_now) ∈ TT := tin_TT34 _ (List.mem_of_getElem? (i := 18) rfl)
theorem tw835 : (Cond.code yX10_now cX10_now 1 (some .int)) ∈ TT := tin_TT34 _ (List.mem_of_getElem? (i := 19) rfl)
theorem tw836 : (Cond.methodLink RL 87 yX11_now) ∈ TT := tin_TT34 _ (List.mem_of_getElem? (i := 20) rfl)
theorem tw837 : (Cond.instanceMethod yX11_now) ∈ TT := tin_TT34 _ (List.mem_of_getElem? (i := 21) rfl)
theorem tw838 : (Cond.selects RX11 yX11_now yX11_now) ∈ TT := tin_TT34 _ (List.mem_of_getElem? (i := 22) rfl)
theorem tw839 : (Cond.code yX11_now cX11_now 1 (some .int)) ∈ TT := tin_TT34 _ (List.mem_of_getElem? (i := 23) rfl)
theorem tw840 : (Cond.methodLink RL 88 yX10_register) ∈ TT := tin_TT35 _ (List.mem_of_getElem? (i := 0) rfl)
theorem tw841 : (Cond.instanceMethod yX10_register) ∈ TT := tin_TT35 _ (List.mem_of_getElem? (i := 1) rfl)
theorem tw842 : (Cond.selects RX10 yX10_register yX10_register) ∈ TT := tin_TT35 _ (List.mem_of_getElem? (i := 2) rfl)
theorem tw843 : (Cond.code yX10_register cX10_register 3 (some .int)) ∈ TT := tin_TT35 _ (List.mem_of_getElem? (i := 3) rfl)
theorem tw844 : (Cond.fieldLink RX10 127 "TimedThreads$TimedThread" "registers" "[I") ∈ TT := tin_TT35 _ (List.mem_of_getElem? (i := 4) rfl)
theorem tw845 : (Cond.methodLink RX10 124 yX10_isRegister) ∈ TT := tin_TT35 _ (List.mem_of_getElem? (i := 5) rfl)
theorem tw846 : (Cond.methodLink RL 91 yX11_register) ∈ TT := tin_TT35 _ (List.mem_of_getElem? (i := 6) rfl)
theorem tw847 : (Cond.instanceMethod yX11_register) ∈ TT := tin_TT35 _ (List.mem_of_getElem? (i := 7) rfl)
theorem tw848 : (Cond.selects RX11 yX11_register yX11_register) ∈ TT := tin_TT35 _ (List.mem_of_getElem? (i := 8) rfl)
theorem tw849 : (Cond.code yX11_register cX11_register 3 (some .int)) ∈ TT := tin_TT35 _ (List.mem_of_getElem? (i := 9) rfl)
theorem tw850 : (Cond.methodLink RL 92 yX10_state) ∈ TT := tin_TT35 _ (List.mem_of_getElem? (i := 10) rfl)
theorem tw851 : (Cond.instanceMethod yX10_state) ∈ TT := tin_TT35 _ (List.mem_of_getElem? (i := 11) rfl)
theorem tw852 : (Cond.selects RX10 yX10_state yX10_state) ∈ TT := tin_TT35 _ (List.mem_of_getElem? (i := 12) rfl)
theorem tw853 : (Cond.code yX10_state cX10_state 3 (some .int)) ∈ TT := tin_TT35 _ (List.mem_of_getElem? (i := 13) rfl)
theorem tw854 : (Cond.methodLink RX10 130 yX8_condition) ∈ TT := tin_TT35 _ (List.mem_of_getElem? (i := 14) rfl)
theorem tw855 : (Cond.instanceMethod yX8_condition) ∈ TT := tin_TT35 _ (List.mem_of_getElem? (i := 15) rfl)
theorem tw856 : (Cond.selects RX8 yX8_condition yX8_condition) ∈ TT := tin_TT35 _ (List.mem_of_getElem? (i := 16) rfl)
theorem tw857 : (Cond.code yX8_condition cX8_condition 2 (some .int)) ∈ TT := tin_TT35 _ (List.mem_of_getElem? (i := 17) rfl)
theorem tw858 : (Cond.fieldLink RX8 41 "TimedThreads$History" "count" "I") ∈ TT := tin_TT35 _ (List.mem_of_getElem? (i := 18) rfl)
theorem tw859 : (Cond.methodLink RL 95 yX11_state) ∈ TT := tin_TT35 _ (List.mem_of_getElem? (i := 19) rfl)
theorem tw860 : (Cond.instanceMethod yX11_state) ∈ TT := tin_TT35 _ (List.mem_of_getElem? (i := 20) rfl)
theorem tw861 : (Cond.selects RX11 yX11_state yX11_state) ∈ TT := tin_TT35 _ (List.mem_of_getElem? (i := 21) rfl)
theorem tw862 : (Cond.code yX11_state cX11_state 3 (some .int)) ∈ TT := tin_TT35 _ (List.mem_of_getElem? (i := 22) rfl)
theorem tw863 : (Cond.methodLink RL 96 yX10_trace) ∈ TT := tin_TT35 _ (List.mem_of_getElem? (i := 23) rfl)
theorem tw864 : (Cond.instanceMethod yX10_trace) ∈ TT := tin_TT36 _ (List.mem_of_getElem? (i := 0) rfl)
theorem tw865 : (Cond.selects RX10 yX10_trace yX10_trace) ∈ TT := tin_TT36 _ (List.mem_of_getElem? (i := 1) rfl)
theorem tw866 : (Cond.code yX10_trace cX10_trace 4 (some .int)) ∈ TT := tin_TT36 _ (List.mem_of_getElem? (i := 2) rfl)
theorem tw867 : (Cond.fieldLink RX10 134 "TimedThreads$TimedThread" "history" "LTimedThreads$History;") ∈ TT := tin_TT36 _ (List.mem_of_getElem? (i := 3) rfl)
theorem tw868 : (Cond.methodLink RX10 138 yX2_entry) ∈ TT := tin_TT36 _ (List.mem_of_getElem? (i := 4) rfl)
theorem tw869 : (Cond.instanceMethod yX2_entry) ∈ TT := tin_TT36 _ (List.mem_of_getElem? (i := 5) rfl)
theorem tw870 : (Cond.selects RX2 yX2_entry yX2_entry) ∈ TT := tin_TT36 _ (List.mem_of_getElem? (i := 6) rfl)
theorem tw871 : (Cond.code yX2_entry cX2_entry 4 (some .int)) ∈ TT := tin_TT36 _ (List.mem_of_getElem? (i := 7) rfl)
theorem tw872 : (Cond.methodLink RL 100 yX11_trace) ∈ TT := tin_TT36 _ (List.mem_of_getElem? (i := 8) rfl)
theorem tw873 : (Cond.instanceMethod yX11_trace) ∈ TT := tin_TT36 _ (List.mem_of_getElem? (i := 9) rfl)
theorem tw874 : (Cond.selects RX11 yX11_trace yX11_trace) ∈ TT := tin_TT36 _ (List.mem_of_getElem? (i := 10) rfl)
theorem tw875 : (Cond.code yX11_trace cX11_trace 4 (some .int)) ∈ TT := tin_TT36 _ (List.mem_of_getElem? (i := 11) rfl)
end
section
/-! A judgement over worlds whose references are places: no address, no heap, no context is seen in it.
A value or a cell is written with places (0, 1, ..) of the world's list; places from 1000 on are the constants of the program:
1000 + i the outcomes, 1003 the array of the names of instructions, 1100 + i these names, 1200 + i their texts, 1300 + i the texts' bytes. -/
def g_tv (ad : Nat → Nat) (v : Value) : Value := match v with
  | .ref i => .ref (ad i)
  | x => x
def g_ta (ad : Nat → Nat) (x : vp_A) : vp_A := (x.1, match x.2 with
  | .inr (.inr (.inr (.inr f))) => .inr (.inr (.inr (.inr (fun j => (f j).map ad))))
  | y => y)
def g_te (ad : Nat → Nat) (cid : Nat → ClassId) (e : va_E) : va_E := match e with
  | .inl q => .inl (cid q.1, g_ta ad q.2)
  | .inr o => .inr (o.1, o.2.map (g_tv ad))
def g_mk (ad : Nat → Nat) (cid : Nat → ClassId) (ws : List va_E) : va_W := ws.mapIdx (fun i e => (ad i, g_te ad cid e))
def g_tl (ad : Nat → Nat) (q : Nat × Value) : Nat × Value := (q.1, g_tv ad q.2)
def g_tys (cid : Nat → ClassId) : List (ClassId × FieldType) := [(cid 0, .char), (cid 1, .int), (cid 2, .long), (cid 3, .object "TimedThreads$TimedThread")]
def g_eq (n0 : Nat) (ad ad0 : Nat → Nat) : Prop := ∀ i, i < n0 ∨ 1000 ≤ i → ad i = ad0 i
theorem g_eq_all {ad ad0 : Nat → Nat} (h : g_eq 1000 ad ad0) : ad = ad0 := funext fun i => h i (by omega)
theorem g_get (ad : Nat → Nat) (cid : Nat → ClassId) {ws : List va_E} {i : Nat} {e : va_E} (h : ws[i]? = some e) : (g_mk ad cid ws)[i]? = some (ad i, g_te ad cid e) := by
  simp [g_mk, h]
theorem g_get' (ad : Nat → Nat) (cid : Nat → ClassId) {ws : List va_E} {i : Nat} {q : Nat × va_E} (h : (g_mk ad cid ws)[i]? = some q) : ∃ e, ws[i]? = some e ∧ q = (ad i, g_te ad cid e) := by
  simp only [g_mk, List.getElem?_mapIdx, Option.map_eq_some_iff] at h
  obtain ⟨e, h1, h2⟩ := h
  exact ⟨e, h1, h2.symm⟩
theorem g_set (ad : Nat → Nat) (cid : Nat → ClassId) (ws : List va_E) (i : Nat) (e : va_E) : (g_mk ad cid ws).set i (ad i, g_te ad cid e) = g_mk ad cid (ws.set i e) := by
  apply List.ext_getElem?
  intro j
  simp only [g_mk, List.getElem?_set, List.getElem?_mapIdx, List.length_mapIdx]
  by_cases h : i = j
  · subst h
    by_cases h2 : i < ws.length <;> simp [h2]
  · simp [h]
theorem g_len (ad : Nat → Nat) (cid : Nat → ClassId) (ws : List va_E) : (g_mk ad cid ws).length = ws.length := by simp [g_mk]
theorem g_catv (ad : Nat → Nat) (v : Value) : (g_tv ad v).category = v.category := by cases v <;> rfl
theorem g_args (ad : Nat → Nat) : ∀ (as : List Value) (i : Nat), lv_args i (as.map (g_tv ad)) = (lv_args i as).map (g_tl ad)
  | [], _ => rfl
  | v :: vs, i => by
    simp only [List.map_cons, lv_args, g_catv, g_args ad vs]
    rfl
theorem g_sl (ad : Nat → Nat) : ∀ vs : List Value, (lg_sl (vs.map (g_tv ad))).length = (lg_sl vs).length
  | [] => rfl
  | v :: vs => by
    have ih := g_sl ad vs
    cases v <;> simp_all [lg_sl, g_tv, Value.category]
/-- the constants -/
def m_key : List Int64 := [12969, 10284, 329106, 2225, 2501, 2452, 2277, 78485, 72885, 407, 386, 12373, 631, 610, 37001, 635529, 20336949, 802377, 15945, 47241, 635273, 641417, 641065, 1156, 19852, 19860, 635541, 25074, 20044, 498, 1476, 20130, 20033, 136228, 3968389, 263572, 769604]
def m_bits : List Int32 := [55, 111, 103, 99, 4195, 16483, 20579, 24675, 28771, 8195, 3, 16387, 8227, 35, 19, 8211, 12307, 16403, 24595, 28691, 4115, 20499, 1073762323, 51, 4147, 8243, 12339, 16435, 20531, 24627, 28723, 1073741875, 1073762355, 11, 4107, 115, 0]
def m_str : List Nat := [0, 1, 2, 3, 3, 3, 3, 3, 3, 2, 2, 2, 4, 4, 5, 5, 5, 5, 5, 5, 6, 6, 6, 7, 7, 7, 7, 7, 7, 7, 7, 7, 7, 8, 9, 10, 11]
def m_len : List Nat := [3, 3, 6, 5, 6, 5, 5, 5, 5, 1, 0, 1]
def m_byt : List (List Int32) := [[100, 44, 117], [100, 44, 106], [100, 44, 105, 40, 115, 41], [115, 44, 116, 44, 98], [116, 44, 109, 40, 115, 41], [100, 44, 115, 44, 105], [100, 44, 115, 44, 104], [100, 44, 115, 44, 116], [107, 44, 115, 44, 105], [100], [], [119]]
def g_Z (q : String × String × String × Value) : Prop :=
  (∃ i, i < 3 ∧ q = ("TimedThreads$Outcome", ["DONE", "TRY_AGAIN", "FAULT"].getD i "", "LTimedThreads$Outcome;", .ref (1000 + i))) ∨ q = ("TimedThreads", "MNEMONICS", "[LTimedThreads$Mnemonic;", .ref 1003) ∨ q = ("java/lang/String", "COMPACT_STRINGS", "Z", .int 1)
def g_O (q : String × Nat) : Prop := ∃ i, i < 12 ∧ q = ("java/lang/String", 1200 + i)
def g_OF (q : String × String × String × Value × Nat) : Prop :=
  (∃ i, i < 37 ∧ (q = ("TimedThreads$Mnemonic", "key", "J", .long (m_key.getD i 0), 1100 + i) ∨ q = ("TimedThreads$Mnemonic", "bits", "I", .int (m_bits.getD i 0), 1100 + i) ∨ q = ("TimedThreads$Mnemonic", "pieces", "Ljava/lang/String;", .ref (1200 + m_str.getD i 0), 1100 + i))) ∨
  (∃ i, i < 12 ∧ (q = ("java/lang/String", "coder", "B", .int 0, 1200 + i) ∨ q = ("java/lang/String", "value", "[B", .ref (1300 + i), 1200 + i)))
def g_T (q : FieldType × Nat × Nat × (Nat → Value)) : Prop :=
  q = (.object "TimedThreads$Mnemonic", 1003, 37, fun j => .ref (1100 + j)) ∨ ∃ i, i < 12 ∧ q = (.byte, 1300 + i, m_len.getD i 0, fun j => .int ((m_byt.getD i []).getD j 0))
def g_B (ad : Nat → Nat) (A : Nat → Prop) (U : State) (H : Heap) : Prop :=
  (∀ q, g_Z q → va_Z q.1 q.2.1 q.2.2.1 (g_tv ad q.2.2.2) A U H) ∧ (∀ q, g_O q → va_O q.1 (ad q.2) A U H) ∧ (∀ q, g_OF q → va_OF q.1 q.2.1 q.2.2.1 (g_tv ad q.2.2.2.1) (ad q.2.2.2.2) A U H) ∧ (∀ q, g_T q → va_T q.1 (ad q.2.1) q.2.2.1 (fun j => g_tv ad (q.2.2.2 j)) A U H) ∧
  (∀ i j, i < 3 → j < 3 → ad (1000 + i) = ad (1000 + j) → i = j) ∧ va_Zq "jdk/internal/util/Preconditions" "SIOOBE_FORMATTER" "Ljava/util/function/BiFunction;" A U H
theorem g_B.moved {ad : Nat → Nat} {A : Nat → Prop} {u U : State} {H : Heap} (hvm : u.vm.Alike U.vm) (h : g_B ad A u H) : g_B ad A U H :=
  ⟨fun q hq => (h.1 q hq).moved hvm, fun q hq => (h.2.1 q hq).moved hvm, fun q hq => (h.2.2.1 q hq).moved hvm, fun q hq => (h.2.2.2.1 q hq).moved hvm, h.2.2.2.2.1, h.2.2.2.2.2.moved hvm⟩
theorem g_B.kept {ad : Nat → Nat} {A : Nat → Prop} {U : State} {H H1 : Heap} (h : g_B ad A U H) (hq : ∀ a : Nat, a < H.size → ¬ A a → H1[a]? = H[a]?) : g_B ad A U H1 :=
  ⟨fun q h1 => (h.1 q h1).kept hq, fun q h1 => (h.2.1 q h1).kept hq, fun q h1 => (h.2.2.1 q h1).kept hq, fun q h1 => (h.2.2.2.1 q h1).kept hq, h.2.2.2.2.1, h.2.2.2.2.2.kept hq⟩
theorem g_B.narrow {ad : Nat → Nat} {A B : Nat → Prop} {U : State} {H : Heap} (h : g_B ad A U H) (hAB : ∀ q, B q → A q) : g_B ad B U H :=
  ⟨fun q h1 => (h.1 q h1).narrow hAB, fun q h1 => (h.2.1 q h1).narrow hAB, fun q h1 => (h.2.2.1 q h1).narrow hAB, fun q h1 => (h.2.2.2.1 q h1).narrow hAB, h.2.2.2.2.1, h.2.2.2.2.2.narrow hAB⟩
theorem g_B.at {ad ad1 : Nat → Nat} {A : Nat → Prop} {U : State} {H : Heap} (h : g_B ad A U H) (he : ∀ i, 1000 ≤ i → ad1 i = ad i) : g_B ad1 A U H := by
  obtain ⟨h1, h2, h3, h4, h5, h6⟩ := h
  refine ⟨?_, ?_, ?_, ?_, ?_, h6⟩
  · intro q hq
    have h9 := h1 q hq
    rcases hq with ⟨i, hi, rfl⟩ | rfl | rfl
    · simp only [g_tv, he (1000 + i) (by omega)]; exact h9
    · simp only [g_tv, he 1003 (by omega)]; exact h9
    · exact h9
  · intro q hq
    have h9 := h2 q hq
    obtain ⟨i, hi, rfl⟩ := hq
    rw [show ad1 (1200 + i) = ad (1200 + i) from he _ (by omega)]; exact h9
  · intro q hq
    have h9 := h3 q hq
    rcases hq with ⟨i, hi, rfl | rfl | rfl⟩ | ⟨i, hi, rfl | rfl⟩
    · simp only [g_tv, he (1100 + i) (by omega)]; exact h9
    · simp only [g_tv, he (1100 + i) (by omega)]; exact h9
    · simp only [g_tv, he (1100 + i) (by omega), he (1200 + m_str.getD i 0) (by omega)]; exact h9
    · simp only [g_tv, he (1200 + i) (by omega)]; exact h9
    · simp only [g_tv, he (1200 + i) (by omega), he (1300 + i) (by omega)]; exact h9
  · intro q hq
    have h9 := h4 q hq
    rcases hq with rfl | ⟨i, hi, rfl⟩
    · have e1 : (fun j => g_tv ad1 (Value.ref (1100 + j))) = fun j => g_tv ad (Value.ref (1100 + j)) := funext fun j => by simp only [g_tv, he (1100 + j) (by omega)]
      show va_T _ (ad1 1003) _ (fun j => g_tv ad1 (Value.ref (1100 + j))) _ _ _
      rw [e1, he 1003 (by omega)]; exact h9
    · show va_T _ (ad1 (1300 + i)) _ _ _ _ _
      rw [he (1300 + i) (by omega)]; exact h9
  · intro i j hi hj
    rw [he (1000 + i) (by omega), he (1000 + j) (by omega)]
    exact h5 i j hi hj
/-- the links to private members of the nest -/
def g_nn : List Cond := [.methodLinkNest RX8 20 yX2_init "TimedThreads", .methodLinkNest RX10 36 yX7_init "TimedThreads", .methodLinkNest RX10 43 yX0_init "TimedThreads", .methodLinkNest RX0 24 yX3_init "TimedThreads", .methodLinkNest RX0 31 yX9_init "TimedThreads", .methodLinkNest RX8 116 yX10_isRegister "TimedThreads"]
def g_N (U : State) : Prop := ∀ w ∈ g_nn, va_Nw w U
theorem g_N.warm {s U : State} (hW : s.WarmedH U.vm) (h : g_N s) : g_N U := by
  intro w hw
  have h9 := h w hw
  simp only [g_nn, List.mem_cons, List.not_mem_nil, or_false] at hw
  rcases hw with rfl | rfl | rfl | rfl | rfl | rfl <;> exact va_Nw.warmM hW h9
theorem g_N.same {u U : State} (hv : u.vm = U.vm) (h : g_N u) : g_N U := by
  intro w hw
  have h9 := h w hw
  simp only [g_nn, List.mem_cons, List.not_mem_nil, or_false] at hw
  rcases hw with rfl | rfl | rfl | rfl | rfl | rfl <;> exact va_Nw.same rfl hv h9
/-- a method: its bytes, its locals, its class, what it returns, its room, the cells and slots that it makes -/
abbrev g_M : Type := ByteArray × Nat × String × Option FieldType × Room × Nat × Nat
def g_Cx (M : g_M) (p : Program) (s : State) (m : MethodId) (args : Array Value) (meth : Method) (c : Code) (D : va_G) (cid : Nat → ClassId) (A : Nat → Prop) (ad0 : Nat → Nat) : Prop :=
  p.tables.exec = Jvm.exec ∧ c.code = M.1 ∧ meth.sig.returnType = M.2.2.2.1 ∧ c.maxLocals = M.2.1 ∧ s.vm.findClass M.2.2.1 = some m.cls ∧ (∀ w ∈ TT, w.before args s = true) ∧ meth.locks = false ∧ va_K D vwCl (g_tys cid) s ∧ (∀ q, s.heap.size ≤ q → A q) ∧ g_B ad0 A s s.heap ∧ g_N s
def g_Q (D : va_G) (cid : Nat → ClassId) (A : Nat → Prop) (n0 : Nat) (ad0 : Nat → Nat) (r : Option Value) (ws' : List va_E) : Array Value → State → Outcome → State → Prop := fun _ st oc t =>
  (∃ ad : Nat → Nat, g_eq n0 ad ad0 ∧ oc = .returned (r.map (g_tv ad)) ∧ va_P D vwCl (g_mk ad cid ws') t.heap ∧ va_K D vwCl (g_tys cid) t ∧ va_D A (g_mk ad cid ws')) ∧ va_F A st t
/-- from this place of the method, with these locals, this stack, this world, it comes to its end: the answer r, the world ws' -/
def G (M : g_M) (k n pc : Nat) (lv : List (Nat × Value)) (st : List Value) (ws : List va_E) (r : Option Value) (ws' : List va_E) : Prop :=
  ∀ (p : Program) (l : Launch) (e : Env) (s : State) (m : MethodId) (args : Array Value) (below : List Frame) (meth : Method) (c : Code) (D : va_G) (cid : Nat → ClassId) (A : Nat → Prop) (n0 : Nat) (ad0 : Nat → Nat), g_Cx M p s m args meth c D cid A ad0 →
  ∀ (ad : Nat → Nat) (ls : Array Slot) (H : Heap) (locs : List Loc), g_eq n0 ad ad0 → lv_has ls M.2.1 (lv.map (g_tl ad)) → va_P D vwCl (g_mk ad cid ws) H → va_D A (g_mk ad cid ws) → va_S A s.heap H locs →
  W p l e M.2.2.2.2.1 s m args below meth c H locs k n (MQ below (g_Q D cid A n0 ad0 r ws') args s M.2.2.2.2.2.1 M.2.2.2.2.2.2 A) (F0 m pc ls (st.map (g_tv ad)))
def g_n0 (M : g_M) (ws : List va_E) : Nat := if M.2.2.2.2.2.1 = 0 then 1000 else ws.length
def g_Pc (D : va_G) (cid : Nat → ClassId) (ad : Nat → Nat) (sz : Nat) (as : List Value) (ws : List va_E) : Array Value → State → Prop :=
  va_Pc (as.map (g_tv ad)) (fun U => U.heap.size = sz ∧ va_P D vwCl (g_mk ad cid ws) U.heap ∧ va_K D vwCl (g_tys cid) U ∧ va_D (fun _ => True) (g_mk ad cid ws) ∧ g_B ad (va_A (g_mk ad cid ws) sz) U U.heap ∧ g_N U)
/-- the method y, called with these values in this world: the answer r, the world ws' -/
def K (M : g_M) (y : MethodName) (as : List Value) (ws : List va_E) (r : Option Value) (ws' : List va_E) : Prop :=
  ∀ (l : Launch) (D : va_G) (cid : Nat → ClassId) (ad : Nat → Nat) (sz : Nat), Met l y (Cond.code y M.1 M.2.1 M.2.2.2.1 :: TT) M.2.2.2.2.1
    (g_Pc D cid ad sz as ws) (g_Q D cid (va_A (g_mk ad cid ws) sz) (g_n0 M ws) ad r ws') M.2.2.2.2.2.1 M.2.2.2.2.2.2 (va_A (g_mk ad cid ws) sz)
theorem K.of {M : g_M} {y : MethodName} {as : List Value} {lv : List (Nat × Value)} {ws : List va_E} {r : Option Value} {ws' : List va_E} (hy : plainFor y = true) (ho : M.2.2.1 = y.cls) (hn : Nat.ble (lg_sl as).length M.2.1 = true) (hlv : lv_args 0 as = lv) (h : G M 0 0 0 lv [] ws r ws') : K M y as ws r ws' := by
  intro l D cid ad sz
  refine va_MetF (cc := M.1) (maxL := M.2.1) (ret := M.2.2.2.1) hy rfl ?_
  intro p e s m args below meth c s₁ B hml hv
  obtain ⟨rfl, hsz, hP, hK, hD0, hB, hN⟩ := hv
  have hts := atoms_spec (ws := Cond.code y M.1 M.2.1 M.2.2.2.1 :: TT) B.pre
  have hown : s.vm.findClass y.cls = some m.cls := findClass_of_methodNamed B.named
  subst hsz
  have hD := hD0.self (sz := s.heap.size)
  have hl := lv_entry (as.map (g_tv ad)) (n := M.2.1) (by rw [g_sl]; exact Nat.le_of_ble_eq_true hn)
  rw [lg_entry_eq]
  rw [g_args, hlv] at hl
  exact h p l e s m _ below meth c D cid (va_A (g_mk ad cid ws) s.heap.size) (g_n0 M ws) ad ⟨B.exec, B.bytes, B.returns, hml, ho ▸ hown, fun w hw => hts w (List.mem_cons_of_mem _ hw), B.notSynchronized, hK, fun q hq => Or.inr hq, hB, hN⟩ ad _ s.heap [] (fun _ _ => rfl) hl hP hD va_S.rf
end
section
def g_lk : List (Nat × Value) → Nat → Option Value
  | [], _ => none
  | (i, v) :: l, k => match Nat.beq i k with
    | true => some v
    | false => g_lk l k
theorem g_lk_mem : ∀ {l : List (Nat × Value)} {k : Nat} {v : Value}, g_lk l k = some v → (k, v) ∈ l
  | [], _, _, h => by cases h
  | (i, w) :: l, k, v, h => by
    unfold g_lk at h
    cases hb : Nat.beq i k with
    | true =>
      rw [hb] at h
      have e := Nat.eq_of_beq_eq_true hb
      subst e
      cases h
      exact List.mem_cons_self
    | false =>
      rw [hb] at h
      exact List.mem_cons_of_mem _ (g_lk_mem h)
theorem g_at {ad : Nat → Nat} {ls : Array Slot} {nL : Nat} {lv : List (Nat × Value)} (hl : lv_has ls nL (lv.map (g_tl ad))) {i : Nat} {v : Value} (h : g_lk lv i = some v) : ls[i]? = some (.val (g_tv ad v)) :=
  hl.2.2 (i, g_tv ad v) (List.mem_map.mpr ⟨(i, v), g_lk_mem h, rfl⟩)
def g_s1 (lv : List (Nat × Value)) (i : Nat) (v : Value) : List (Nat × Value) := (i, v) :: lv.filter (fun q => !(q.1 == i) && !(q.1 + 1 == i && q.2.category == 2))
def g_s2 (lv : List (Nat × Value)) (i : Nat) (v : Value) : List (Nat × Value) := (i, v) :: lv.filter (fun q => !(q.1 == i) && (!(q.1 == i + 1) && !(q.1 + 1 == i && q.2.category == 2)))
theorem g_s1_map (ad : Nat → Nat) (lv : List (Nat × Value)) (i : Nat) (v : Value) : (i, g_tv ad v) :: (lv.map (g_tl ad)).filter (fun q => !(q.1 == i) && !(q.1 + 1 == i && q.2.category == 2)) = (g_s1 lv i v).map (g_tl ad) := by
  simp only [g_s1, List.map_cons, List.filter_map, g_tl, Function.comp_def, g_catv]
theorem g_s2_map (ad : Nat → Nat) (lv : List (Nat × Value)) (i : Nat) (v : Value) : (i, g_tv ad v) :: (lv.map (g_tl ad)).filter (fun q => !(q.1 == i) && (!(q.1 == i + 1) && !(q.1 + 1 == i && q.2.category == 2))) = (g_s2 lv i v).map (g_tl ad) := by
  simp only [g_s2, List.map_cons, List.filter_map, g_tl, Function.comp_def, g_catv]
theorem g_lt {i m : Nat} (h : Nat.ble (i + 1) m = true) : i < m := Nat.le_of_ble_eq_true h
theorem G.iload_n {M : g_M} {k n pc : Nat} {lv : List (Nat × Value)} {st : List Value} {ws : List va_E} {r : Option Value} {ws' : List va_E} {kf : Fin 4} {x : Int32} (hd : decode M.1 pc = .ok (.iload_n kf, 1)) (hx : g_lk lv kf.val = some (.int x)) (kk : G M k n (pc + 1) lv (.int x :: st) ws r ws') : G M k n pc lv st ws r ws' := by
  intro p l e s m args below meth c D cid A n0 ad0 C ad ls H locs hq hl hP hD hS
  exact lv_iload_n C.1 C.2.1 hd rfl (g_at hl hx) (kk p l e s m args below meth c D cid A n0 ad0 C ad ls H locs hq hl hP hD hS)
theorem G.lload_n {M : g_M} {k n pc : Nat} {lv : List (Nat × Value)} {st : List Value} {ws : List va_E} {r : Option Value} {ws' : List va_E} {kf : Fin 4} {x : Int64} (hd : decode M.1 pc = .ok (.lload_n kf, 1)) (hx : g_lk lv kf.val = some (.long x)) (kk : G M k n (pc + 1) lv (.long x :: st) ws r ws') : G M k n pc lv st ws r ws' := by
  intro p l e s m args below meth c D cid A n0 ad0 C ad ls H locs hq hl hP hD hS
  exact lv_lload_n C.1 C.2.1 hd rfl (g_at hl hx) (kk p l e s m args below meth c D cid A n0 ad0 C ad ls H locs hq hl hP hD hS)
theorem G.aload_n {M : g_M} {k n pc : Nat} {lv : List (Nat × Value)} {st : List Value} {ws : List va_E} {r : Option Value} {ws' : List va_E} {kf : Fin 4} {x : Nat} (hd : decode M.1 pc = .ok (.aload_n kf, 1)) (hx : g_lk lv kf.val = some (.ref x)) (kk : G M k n (pc + 1) lv (.ref x :: st) ws r ws') : G M k n pc lv st ws r ws' := by
  intro p l e s m args below meth c D cid A n0 ad0 C ad ls H locs hq hl hP hD hS
  exact lv_aload_n C.1 C.2.1 hd rfl (g_at hl hx) (kk p l e s m args below meth c D cid A n0 ad0 C ad ls H locs hq hl hP hD hS)
theorem G.iload {M : g_M} {k n pc : Nat} {lv : List (Nat × Value)} {st : List Value} {ws : List va_E} {r : Option Value} {ws' : List va_E} {i : Nat} {x : Int32} (hd : decode M.1 pc = .ok (.iload i, 2)) (hx : g_lk lv i = some (.int x)) (kk : G M k n (pc + 2) lv (.int x :: st) ws r ws') : G M k n pc lv st ws r ws' := by
  intro p l e s m args below meth c D cid A n0 ad0 C ad ls H locs hq hl hP hD hS
  exact lv_iload C.1 C.2.1 hd (g_at hl hx) (kk p l e s m args below meth c D cid A n0 ad0 C ad ls H locs hq hl hP hD hS)
theorem G.lload {M : g_M} {k n pc : Nat} {lv : List (Nat × Value)} {st : List Value} {ws : List va_E} {r : Option Value} {ws' : List va_E} {i : Nat} {x : Int64} (hd : decode M.1 pc = .ok (.lload i, 2)) (hx : g_lk lv i = some (.long x)) (kk : G M k n (pc + 2) lv (.long x :: st) ws r ws') : G M k n pc lv st ws r ws' := by
  intro p l e s m args below meth c D cid A n0 ad0 C ad ls H locs hq hl hP hD hS
  exact lv_lload C.1 C.2.1 hd (g_at hl hx) (kk p l e s m args below meth c D cid A n0 ad0 C ad ls H locs hq hl hP hD hS)
theorem G.aload {M : g_M} {k n pc : Nat} {lv : List (Nat × Value)} {st : List Value} {ws : List va_E} {r : Option Value} {ws' : List va_E} {i : Nat} {x : Nat} (hd : decode M.1 pc = .ok (.aload i, 2)) (hx : g_lk lv i = some (.ref x)) (kk : G M k n (pc + 2) lv (.ref x :: st) ws r ws') : G M k n pc lv st ws r ws' := by
  intro p l e s m args below meth c D cid A n0 ad0 C ad ls H locs hq hl hP hD hS
  exact lv_aload C.1 C.2.1 hd (g_at hl hx) (kk p l e s m args below meth c D cid A n0 ad0 C ad ls H locs hq hl hP hD hS)
theorem G.istore_n {M : g_M} {k n pc : Nat} {lv : List (Nat × Value)} {st : List Value} {ws : List va_E} {r : Option Value} {ws' : List va_E} {kf : Fin 4} {x : Int32} {lv1 : List (Nat × Value)} (hd : decode M.1 pc = .ok (.istore_n kf, 1)) (hn : Nat.ble (kf.val + 1) M.2.1 = true) (hs : g_s1 lv kf.val (.int x) = lv1) (kk : G M k n (pc + 1) lv1 st ws r ws') : G M k n pc lv (.int x :: st) ws r ws' := by
  intro p l e s m args below meth c D cid A n0 ad0 C ad ls H locs hq hl hP hD hS
  refine lv_istore_n C.1 C.2.1 hd rfl hl (g_lt hn) (g_s1_map ad lv kf.val (.int x)) (fun ls hl => ?_)
  exact (kk p l e s m args below meth c D cid A n0 ad0 C ad ls H locs hq (hs ▸ hl) hP hD hS)
theorem G.astore_n {M : g_M} {k n pc : Nat} {lv : List (Nat × Value)} {st : List Value} {ws : List va_E} {r : Option Value} {ws' : List va_E} {kf : Fin 4} {x : Nat} {lv1 : List (Nat × Value)} (hd : decode M.1 pc = .ok (.astore_n kf, 1)) (hn : Nat.ble (kf.val + 1) M.2.1 = true) (hs : g_s1 lv kf.val (.ref x) = lv1) (kk : G M k n (pc + 1) lv1 st ws r ws') : G M k n pc lv (.ref x :: st) ws r ws' := by
  intro p l e s m args below meth c D cid A n0 ad0 C ad ls H locs hq hl hP hD hS
  refine lv_astore_n C.1 C.2.1 hd rfl hl (g_lt hn) (g_s1_map ad lv kf.val (.ref x)) (fun ls hl => ?_)
  exact (kk p l e s m args below meth c D cid A n0 ad0 C ad ls H locs hq (hs ▸ hl) hP hD hS)
theorem G.lstore_n {M : g_M} {k n pc : Nat} {lv : List (Nat × Value)} {st : List Value} {ws : List va_E} {r : Option Value} {ws' : List va_E} {kf : Fin 4} {x : Int64} {lv1 : List (Nat × Value)} (hd : decode M.1 pc = .ok (.lstore_n kf, 1)) (hn : Nat.ble (kf.val + 1 + 1) M.2.1 = true) (hs : g_s2 lv kf.val (.long x) = lv1) (kk : G M k n (pc + 1) lv1 st ws r ws') : G M k n pc lv (.long x :: st) ws r ws' := by
  intro p l e s m args below meth c D cid A n0 ad0 C ad ls H locs hq hl hP hD hS
  refine lv_lstore_n C.1 C.2.1 hd rfl hl (g_lt hn) (g_s2_map ad lv kf.val (.long x)) (fun ls hl => ?_)
  exact (kk p l e s m args below meth c D cid A n0 ad0 C ad ls H locs hq (hs ▸ hl) hP hD hS)
theorem G.istore {M : g_M} {k n pc : Nat} {lv : List (Nat × Value)} {st : List Value} {ws : List va_E} {r : Option Value} {ws' : List va_E} {i : Nat} {x : Int32} {lv1 : List (Nat × Value)} (hd : decode M.1 pc = .ok (.istore i, 2)) (hn : Nat.ble (i + 1) M.2.1 = true) (hs : g_s1 lv i (.int x) = lv1) (kk : G M k n (pc + 2) lv1 st ws r ws') : G M k n pc lv (.int x :: st) ws r ws' := by
  intro p l e s m args below meth c D cid A n0 ad0 C ad ls H locs hq hl hP hD hS
  refine lv_istore C.1 C.2.1 hd hl (g_lt hn) (g_s1_map ad lv i (.int x)) (fun ls hl => ?_)
  exact (kk p l e s m args below meth c D cid A n0 ad0 C ad ls H locs hq (hs ▸ hl) hP hD hS)
theorem G.astore {M : g_M} {k n pc : Nat} {lv : List (Nat × Value)} {st : List Value} {ws : List va_E} {r : Option Value} {ws' : List va_E} {i : Nat} {x : Nat} {lv1 : List (Nat × Value)} (hd : decode M.1 pc = .ok (.astore i, 2)) (hn : Nat.ble (i + 1) M.2.1 = true) (hs : g_s1 lv i (.ref x) = lv1) (kk : G M k n (pc + 2) lv1 st ws r ws') : G M k n pc lv (.ref x :: st) ws r ws' := by
  intro p l e s m args below meth c D cid A n0 ad0 C ad ls H locs hq hl hP hD hS
  refine lv_astore C.1 C.2.1 hd hl (g_lt hn) (g_s1_map ad lv i (.ref x)) (fun ls hl => ?_)
  exact (kk p l e s m args below meth c D cid A n0 ad0 C ad ls H locs hq (hs ▸ hl) hP hD hS)
theorem G.lstore {M : g_M} {k n pc : Nat} {lv : List (Nat × Value)} {st : List Value} {ws : List va_E} {r : Option Value} {ws' : List va_E} {i : Nat} {x : Int64} {lv1 : List (Nat × Value)} (hd : decode M.1 pc = .ok (.lstore i, 2)) (hn : Nat.ble (i + 1 + 1) M.2.1 = true) (hs : g_s2 lv i (.long x) = lv1) (kk : G M k n (pc + 2) lv1 st ws r ws') : G M k n pc lv (.long x :: st) ws r ws' := by
  intro p l e s m args below meth c D cid A n0 ad0 C ad ls H locs hq hl hP hD hS
  refine lv_lstore C.1 C.2.1 hd hl (g_lt hn) (g_s2_map ad lv i (.long x)) (fun ls hl => ?_)
  exact (kk p l e s m args below meth c D cid A n0 ad0 C ad ls H locs hq (hs ▸ hl) hP hD hS)
theorem g_lk_ix : ∀ {l : List (Nat × Value)} {k : Nat} {v : Value}, g_lk l k = some v → ∃ j : Nat, l[j]? = some (k, v) := fun h => by
  obtain ⟨j, hj⟩ := List.getElem?_of_mem (g_lk_mem h)
  exact ⟨j, hj⟩
theorem G.iinc {M : g_M} {k n pc : Nat} {lv : List (Nat × Value)} {st : List Value} {ws : List va_E} {r : Option Value} {ws' : List va_E} {i : Nat} {d : Int} {x v : Int32} {lv1 : List (Nat × Value)} (hd : decode M.1 pc = .ok (.iinc i d, 3)) (hx : g_lk lv i = some (.int x)) (hv : x + Int32.ofInt d = v) (hn : Nat.ble (i + 1) M.2.1 = true) (hs : g_s1 lv i (.int v) = lv1) (kk : G M k n (pc + 3) lv1 st ws r ws') : G M k n pc lv st ws r ws' := by
  intro p l e s m args below meth c D cid A n0 ad0 C ad ls H locs hq hl hP hD hS
  obtain ⟨j, hj⟩ := g_lk_ix hx
  refine lv_iinc C.1 C.2.1 hd hl (k := j) (by rw [List.getElem?_map, hj]; rfl) hv (g_lt hn) (g_s1_map ad lv i (.int v)) (fun ls hl => ?_)
  exact (kk p l e s m args below meth c D cid A n0 ad0 C ad ls H locs hq (hs ▸ hl) hP hD hS)
theorem G.iconst {M : g_M} {k n pc : Nat} {lv : List (Nat × Value)} {st : List Value} {ws : List va_E} {r : Option Value} {ws' : List va_E} {d : Int} {v : Int32} (hd : decode M.1 pc = .ok (.iconst d, 1)) (hv : Int32.ofInt d = v) (kk : G M k n (pc + 1) lv (.int v :: st) ws r ws') : G M k n pc lv st ws r ws' := by
  intro p l e s m args below meth c D cid A n0 ad0 C ad ls H locs hq hl hP hD hS
  exact lv_iconst C.1 C.2.1 hd hv (kk p l e s m args below meth c D cid A n0 ad0 C ad ls H locs hq hl hP hD hS)
theorem G.bipush {M : g_M} {k n pc : Nat} {lv : List (Nat × Value)} {st : List Value} {ws : List va_E} {r : Option Value} {ws' : List va_E} {d : Int} {v : Int32} (hd : decode M.1 pc = .ok (.bipush d, 2)) (hv : (Int8.ofInt d).toInt32 = v) (kk : G M k n (pc + 2) lv (.int v :: st) ws r ws') : G M k n pc lv st ws r ws' := by
  intro p l e s m args below meth c D cid A n0 ad0 C ad ls H locs hq hl hP hD hS
  exact lv_bipush C.1 C.2.1 hd hv (kk p l e s m args below meth c D cid A n0 ad0 C ad ls H locs hq hl hP hD hS)
theorem G.sipush {M : g_M} {k n pc : Nat} {lv : List (Nat × Value)} {st : List Value} {ws : List va_E} {r : Option Value} {ws' : List va_E} {d : Int} {v : Int32} (hd : decode M.1 pc = .ok (.sipush d, 3)) (hv : (Int16.ofInt d).toInt32 = v) (kk : G M k n (pc + 3) lv (.int v :: st) ws r ws') : G M k n pc lv st ws r ws' := by
  intro p l e s m args below meth c D cid A n0 ad0 C ad ls H locs hq hl hP hD hS
  exact lv_sipush C.1 C.2.1 hd hv (kk p l e s m args below meth c D cid A n0 ad0 C ad ls H locs hq hl hP hD hS)
theorem G.lconst {M : g_M} {k n pc : Nat} {lv : List (Nat × Value)} {st : List Value} {ws : List va_E} {r : Option Value} {ws' : List va_E} {d : Fin 2} {v : Int64} (hd : decode M.1 pc = .ok (.lconst d, 1)) (hv : Int64.ofNat d.val = v) (kk : G M k n (pc + 1) lv (.long v :: st) ws r ws') : G M k n pc lv st ws r ws' := by
  intro p l e s m args below meth c D cid A n0 ad0 C ad ls H locs hq hl hP hD hS
  exact lv_lconst C.1 C.2.1 hd hv (kk p l e s m args below meth c D cid A n0 ad0 C ad ls H locs hq hl hP hD hS)
theorem G.ldc {M : g_M} {k n pc : Nat} {lv : List (Nat × Value)} {st : List Value} {ws : List va_E} {r : Option Value} {ws' : List va_E} {i : Nat} {v : Int32} (hd : decode M.1 pc = .ok (.ldc i, 2)) (hw : Cond.constant M.2.2.1 i v ∈ TT) (kk : G M k n (pc + 2) lv (.int v :: st) ws r ws') : G M k n pc lv st ws r ws' := by
  intro p l e s m args below meth c D cid A n0 ad0 C ad ls H locs hq hl hP hD hS
  exact lv_ldc C.1 C.2.1 C.2.2.2.2.1 (C.2.2.2.2.2.1 _ hw) hd (kk p l e s m args below meth c D cid A n0 ad0 C ad ls H locs hq hl hP hD hS)
theorem G.ldc_w {M : g_M} {k n pc : Nat} {lv : List (Nat × Value)} {st : List Value} {ws : List va_E} {r : Option Value} {ws' : List va_E} {i : Nat} {v : Int32} (hd : decode M.1 pc = .ok (.ldc_w i, 3)) (hw : Cond.constant M.2.2.1 i v ∈ TT) (kk : G M k n (pc + 3) lv (.int v :: st) ws r ws') : G M k n pc lv st ws r ws' := by
  intro p l e s m args below meth c D cid A n0 ad0 C ad ls H locs hq hl hP hD hS
  exact lv_ldcw C.1 C.2.1 C.2.2.2.2.1 (C.2.2.2.2.2.1 _ hw) hd (kk p l e s m args below meth c D cid A n0 ad0 C ad ls H locs hq hl hP hD hS)
theorem G.ldc2 {M : g_M} {k n pc : Nat} {lv : List (Nat × Value)} {st : List Value} {ws : List va_E} {r : Option Value} {ws' : List va_E} {i : Nat} {v : Int64} (hd : decode M.1 pc = .ok (.ldc2_w i, 3)) (hw : Cond.constantLong M.2.2.1 i v ∈ TT) (kk : G M k n (pc + 3) lv (.long v :: st) ws r ws') : G M k n pc lv st ws r ws' := by
  intro p l e s m args below meth c D cid A n0 ad0 C ad ls H locs hq hl hP hD hS
  exact lv_ldc2 C.1 C.2.1 C.2.2.2.2.1 (C.2.2.2.2.2.1 _ hw) hd (kk p l e s m args below meth c D cid A n0 ad0 C ad ls H locs hq hl hP hD hS)
theorem G.iadd {M : g_M} {k n pc : Nat} {lv : List (Nat × Value)} {st : List Value} {ws : List va_E} {r : Option Value} {ws' : List va_E} {x y : Int32} (hd : decode M.1 pc = .ok (.iadd, 1)) (kk : G M k n (pc + 1) lv (.int (x + y) :: st) ws r ws') : G M k n pc lv (.int y :: .int x :: st) ws r ws' := by
  intro p l e s m args below meth c D cid A n0 ad0 C ad ls H locs hq hl hP hD hS
  exact lv_iadd C.1 C.2.1 hd (kk p l e s m args below meth c D cid A n0 ad0 C ad ls H locs hq hl hP hD hS)
theorem G.isub {M : g_M} {k n pc : Nat} {lv : List (Nat × Value)} {st : List Value} {ws : List va_E} {r : Option Value} {ws' : List va_E} {x y : Int32} (hd : decode M.1 pc = .ok (.isub, 1)) (kk : G M k n (pc + 1) lv (.int (x - y) :: st) ws r ws') : G M k n pc lv (.int y :: .int x :: st) ws r ws' := by
  intro p l e s m args below meth c D cid A n0 ad0 C ad ls H locs hq hl hP hD hS
  exact lv_isub C.1 C.2.1 hd (kk p l e s m args below meth c D cid A n0 ad0 C ad ls H locs hq hl hP hD hS)
theorem G.imul {M : g_M} {k n pc : Nat} {lv : List (Nat × Value)} {st : List Value} {ws : List va_E} {r : Option Value} {ws' : List va_E} {x y : Int32} (hd : decode M.1 pc = .ok (.imul, 1)) (kk : G M k n (pc + 1) lv (.int (x * y) :: st) ws r ws') : G M k n pc lv (.int y :: .int x :: st) ws r ws' := by
  intro p l e s m args below meth c D cid A n0 ad0 C ad ls H locs hq hl hP hD hS
  exact lv_imul C.1 C.2.1 hd (kk p l e s m args below meth c D cid A n0 ad0 C ad ls H locs hq hl hP hD hS)
theorem G.iand {M : g_M} {k n pc : Nat} {lv : List (Nat × Value)} {st : List Value} {ws : List va_E} {r : Option Value} {ws' : List va_E} {x y : Int32} (hd : decode M.1 pc = .ok (.iand, 1)) (kk : G M k n (pc + 1) lv (.int (x &&& y) :: st) ws r ws') : G M k n pc lv (.int y :: .int x :: st) ws r ws' := by
  intro p l e s m args below meth c D cid A n0 ad0 C ad ls H locs hq hl hP hD hS
  exact lv_iand C.1 C.2.1 hd (kk p l e s m args below meth c D cid A n0 ad0 C ad ls H locs hq hl hP hD hS)
theorem G.ior {M : g_M} {k n pc : Nat} {lv : List (Nat × Value)} {st : List Value} {ws : List va_E} {r : Option Value} {ws' : List va_E} {x y : Int32} (hd : decode M.1 pc = .ok (.ior, 1)) (kk : G M k n (pc + 1) lv (.int (x ||| y) :: st) ws r ws') : G M k n pc lv (.int y :: .int x :: st) ws r ws' := by
  intro p l e s m args below meth c D cid A n0 ad0 C ad ls H locs hq hl hP hD hS
  exact lv_ior C.1 C.2.1 hd (kk p l e s m args below meth c D cid A n0 ad0 C ad ls H locs hq hl hP hD hS)
theorem G.ixor {M : g_M} {k n pc : Nat} {lv : List (Nat × Value)} {st : List Value} {ws : List va_E} {r : Option Value} {ws' : List va_E} {x y : Int32} (hd : decode M.1 pc = .ok (.ixor, 1)) (kk : G M k n (pc + 1) lv (.int (x ^^^ y) :: st) ws r ws') : G M k n pc lv (.int y :: .int x :: st) ws r ws' := by
  intro p l e s m args below meth c D cid A n0 ad0 C ad ls H locs hq hl hP hD hS
  exact lv_ixor C.1 C.2.1 hd (kk p l e s m args below meth c D cid A n0 ad0 C ad ls H locs hq hl hP hD hS)
theorem G.ishl {M : g_M} {k n pc : Nat} {lv : List (Nat × Value)} {st : List Value} {ws : List va_E} {r : Option Value} {ws' : List va_E} {x y : Int32} (hd : decode M.1 pc = .ok (.ishl, 1)) (kk : G M k n (pc + 1) lv (.int (x <<< (y &&& 31)) :: st) ws r ws') : G M k n pc lv (.int y :: .int x :: st) ws r ws' := by
  intro p l e s m args below meth c D cid A n0 ad0 C ad ls H locs hq hl hP hD hS
  exact lv_ishl C.1 C.2.1 hd (kk p l e s m args below meth c D cid A n0 ad0 C ad ls H locs hq hl hP hD hS)
theorem G.ishr {M : g_M} {k n pc : Nat} {lv : List (Nat × Value)} {st : List Value} {ws : List va_E} {r : Option Value} {ws' : List va_E} {x y : Int32} (hd : decode M.1 pc = .ok (.ishr, 1)) (kk : G M k n (pc + 1) lv (.int (x >>> (y &&& 31)) :: st) ws r ws') : G M k n pc lv (.int y :: .int x :: st) ws r ws' := by
  intro p l e s m args below meth c D cid A n0 ad0 C ad ls H locs hq hl hP hD hS
  exact lv_ishr C.1 C.2.1 hd (kk p l e s m args below meth c D cid A n0 ad0 C ad ls H locs hq hl hP hD hS)
theorem G.idiv {M : g_M} {k n pc : Nat} {lv : List (Nat × Value)} {st : List Value} {ws : List va_E} {r : Option Value} {ws' : List va_E} {x y : Int32} (hd : decode M.1 pc = .ok (.idiv, 1)) (hne : ¬ y = 0) (kk : G M k n (pc + 1) lv (.int (x / y) :: st) ws r ws') : G M k n pc lv (.int y :: .int x :: st) ws r ws' := by
  intro p l e s m args below meth c D cid A n0 ad0 C ad ls H locs hq hl hP hD hS
  exact lv_idiv C.1 C.2.1 hd hne (kk p l e s m args below meth c D cid A n0 ad0 C ad ls H locs hq hl hP hD hS)
theorem G.irem {M : g_M} {k n pc : Nat} {lv : List (Nat × Value)} {st : List Value} {ws : List va_E} {r : Option Value} {ws' : List va_E} {x y : Int32} (hd : decode M.1 pc = .ok (.irem, 1)) (hne : ¬ y = 0) (kk : G M k n (pc + 1) lv (.int (x - x / y * y) :: st) ws r ws') : G M k n pc lv (.int y :: .int x :: st) ws r ws' := by
  intro p l e s m args below meth c D cid A n0 ad0 C ad ls H locs hq hl hP hD hS
  exact lv_irem C.1 C.2.1 hd hne (kk p l e s m args below meth c D cid A n0 ad0 C ad ls H locs hq hl hP hD hS)
theorem G.ladd {M : g_M} {k n pc : Nat} {lv : List (Nat × Value)} {st : List Value} {ws : List va_E} {r : Option Value} {ws' : List va_E} {x y : Int64} (hd : decode M.1 pc = .ok (.ladd, 1)) (kk : G M k n (pc + 1) lv (.long (x + y) :: st) ws r ws') : G M k n pc lv (.long y :: .long x :: st) ws r ws' := by
  intro p l e s m args below meth c D cid A n0 ad0 C ad ls H locs hq hl hP hD hS
  exact lv_ladd C.1 C.2.1 hd (kk p l e s m args below meth c D cid A n0 ad0 C ad ls H locs hq hl hP hD hS)
theorem G.lsub {M : g_M} {k n pc : Nat} {lv : List (Nat × Value)} {st : List Value} {ws : List va_E} {r : Option Value} {ws' : List va_E} {x y : Int64} (hd : decode M.1 pc = .ok (.lsub, 1)) (kk : G M k n (pc + 1) lv (.long (x - y) :: st) ws r ws') : G M k n pc lv (.long y :: .long x :: st) ws r ws' := by
  intro p l e s m args below meth c D cid A n0 ad0 C ad ls H locs hq hl hP hD hS
  exact lv_lsub C.1 C.2.1 hd (kk p l e s m args below meth c D cid A n0 ad0 C ad ls H locs hq hl hP hD hS)
theorem G.lmul {M : g_M} {k n pc : Nat} {lv : List (Nat × Value)} {st : List Value} {ws : List va_E} {r : Option Value} {ws' : List va_E} {x y : Int64} (hd : decode M.1 pc = .ok (.lmul, 1)) (kk : G M k n (pc + 1) lv (.long (x * y) :: st) ws r ws') : G M k n pc lv (.long y :: .long x :: st) ws r ws' := by
  intro p l e s m args below meth c D cid A n0 ad0 C ad ls H locs hq hl hP hD hS
  exact lv_lmul C.1 C.2.1 hd (kk p l e s m args below meth c D cid A n0 ad0 C ad ls H locs hq hl hP hD hS)
theorem G.land {M : g_M} {k n pc : Nat} {lv : List (Nat × Value)} {st : List Value} {ws : List va_E} {r : Option Value} {ws' : List va_E} {x y : Int64} (hd : decode M.1 pc = .ok (.land, 1)) (kk : G M k n (pc + 1) lv (.long (x &&& y) :: st) ws r ws') : G M k n pc lv (.long y :: .long x :: st) ws r ws' := by
  intro p l e s m args below meth c D cid A n0 ad0 C ad ls H locs hq hl hP hD hS
  exact lv_land C.1 C.2.1 hd (kk p l e s m args below meth c D cid A n0 ad0 C ad ls H locs hq hl hP hD hS)
theorem G.lor {M : g_M} {k n pc : Nat} {lv : List (Nat × Value)} {st : List Value} {ws : List va_E} {r : Option Value} {ws' : List va_E} {x y : Int64} (hd : decode M.1 pc = .ok (.lor, 1)) (kk : G M k n (pc + 1) lv (.long (x ||| y) :: st) ws r ws') : G M k n pc lv (.long y :: .long x :: st) ws r ws' := by
  intro p l e s m args below meth c D cid A n0 ad0 C ad ls H locs hq hl hP hD hS
  exact lv_lor C.1 C.2.1 hd (kk p l e s m args below meth c D cid A n0 ad0 C ad ls H locs hq hl hP hD hS)
def g_ushr (x y : Int32) : Int32 := (x.toUInt32 >>> (y.toUInt32 &&& Int32.toUInt32 31)).toInt32
def g_lushr (x : Int64) (y : Int32) : Int64 := (x.toUInt64 >>> (y.toInt64.toUInt64 &&& Int64.toUInt64 63)).toInt64
def g_lshl (x : Int64) (y : Int32) : Int64 := x <<< (y.toInt64 &&& 63)
def g_lshr (x : Int64) (y : Int32) : Int64 := x >>> (y.toInt64 &&& 63)
def g_i2c (x : Int32) : Int32 := (x.toUInt32 % 65536).toInt32
def g_i2b (x : Int32) : Int32 := x.toInt8.toInt32
theorem G.iushr {M : g_M} {k n pc : Nat} {lv : List (Nat × Value)} {st : List Value} {ws : List va_E} {r : Option Value} {ws' : List va_E} {x y : Int32} (hd : decode M.1 pc = .ok (.iushr, 1)) (kk : G M k n (pc + 1) lv (.int (g_ushr x y) :: st) ws r ws') : G M k n pc lv (.int y :: .int x :: st) ws r ws' := by
  intro p l e s m args below meth c D cid A n0 ad0 C ad ls H locs hq hl hP hD hS
  exact lv_iushr C.1 C.2.1 hd rfl (kk p l e s m args below meth c D cid A n0 ad0 C ad ls H locs hq hl hP hD hS)
theorem G.lushr {M : g_M} {k n pc : Nat} {lv : List (Nat × Value)} {st : List Value} {ws : List va_E} {r : Option Value} {ws' : List va_E} {x : Int64} {y : Int32} (hd : decode M.1 pc = .ok (.lushr, 1)) (kk : G M k n (pc + 1) lv (.long (g_lushr x y) :: st) ws r ws') : G M k n pc lv (.int y :: .long x :: st) ws r ws' := by
  intro p l e s m args below meth c D cid A n0 ad0 C ad ls H locs hq hl hP hD hS
  exact lv_lushr C.1 C.2.1 hd rfl (kk p l e s m args below meth c D cid A n0 ad0 C ad ls H locs hq hl hP hD hS)
theorem G.lshl {M : g_M} {k n pc : Nat} {lv : List (Nat × Value)} {st : List Value} {ws : List va_E} {r : Option Value} {ws' : List va_E} {x : Int64} {y : Int32} (hd : decode M.1 pc = .ok (.lshl, 1)) (kk : G M k n (pc + 1) lv (.long (g_lshl x y) :: st) ws r ws') : G M k n pc lv (.int y :: .long x :: st) ws r ws' := by
  intro p l e s m args below meth c D cid A n0 ad0 C ad ls H locs hq hl hP hD hS
  exact lv_lshl C.1 C.2.1 hd rfl (kk p l e s m args below meth c D cid A n0 ad0 C ad ls H locs hq hl hP hD hS)
theorem G.lshr {M : g_M} {k n pc : Nat} {lv : List (Nat × Value)} {st : List Value} {ws : List va_E} {r : Option Value} {ws' : List va_E} {x : Int64} {y : Int32} (hd : decode M.1 pc = .ok (.lshr, 1)) (kk : G M k n (pc + 1) lv (.long (g_lshr x y) :: st) ws r ws') : G M k n pc lv (.int y :: .long x :: st) ws r ws' := by
  intro p l e s m args below meth c D cid A n0 ad0 C ad ls H locs hq hl hP hD hS
  exact lv_lshr C.1 C.2.1 hd rfl (kk p l e s m args below meth c D cid A n0 ad0 C ad ls H locs hq hl hP hD hS)
theorem G.i2l {M : g_M} {k n pc : Nat} {lv : List (Nat × Value)} {st : List Value} {ws : List va_E} {r : Option Value} {ws' : List va_E} {x : Int32} (hd : decode M.1 pc = .ok (.i2l, 1)) (kk : G M k n (pc + 1) lv (.long (x.toInt64) :: st) ws r ws') : G M k n pc lv (.int x :: st) ws r ws' := by
  intro p l e s m args below meth c D cid A n0 ad0 C ad ls H locs hq hl hP hD hS
  exact lv_i2l C.1 C.2.1 hd rfl (kk p l e s m args below meth c D cid A n0 ad0 C ad ls H locs hq hl hP hD hS)
theorem G.l2i {M : g_M} {k n pc : Nat} {lv : List (Nat × Value)} {st : List Value} {ws : List va_E} {r : Option Value} {ws' : List va_E} {x : Int64} (hd : decode M.1 pc = .ok (.l2i, 1)) (kk : G M k n (pc + 1) lv (.int (x.toInt32) :: st) ws r ws') : G M k n pc lv (.long x :: st) ws r ws' := by
  intro p l e s m args below meth c D cid A n0 ad0 C ad ls H locs hq hl hP hD hS
  exact lv_l2i C.1 C.2.1 hd rfl (kk p l e s m args below meth c D cid A n0 ad0 C ad ls H locs hq hl hP hD hS)
theorem G.i2c {M : g_M} {k n pc : Nat} {lv : List (Nat × Value)} {st : List Value} {ws : List va_E} {r : Option Value} {ws' : List va_E} {x : Int32} (hd : decode M.1 pc = .ok (.i2c, 1)) (kk : G M k n (pc + 1) lv (.int (g_i2c x) :: st) ws r ws') : G M k n pc lv (.int x :: st) ws r ws' := by
  intro p l e s m args below meth c D cid A n0 ad0 C ad ls H locs hq hl hP hD hS
  exact lv_i2c C.1 C.2.1 hd rfl (kk p l e s m args below meth c D cid A n0 ad0 C ad ls H locs hq hl hP hD hS)
theorem G.i2b {M : g_M} {k n pc : Nat} {lv : List (Nat × Value)} {st : List Value} {ws : List va_E} {r : Option Value} {ws' : List va_E} {x : Int32} (hd : decode M.1 pc = .ok (.i2b, 1)) (kk : G M k n (pc + 1) lv (.int (g_i2b x) :: st) ws r ws') : G M k n pc lv (.int x :: st) ws r ws' := by
  intro p l e s m args below meth c D cid A n0 ad0 C ad ls H locs hq hl hP hD hS
  exact lv_i2b C.1 C.2.1 hd rfl (kk p l e s m args below meth c D cid A n0 ad0 C ad ls H locs hq hl hP hD hS)
theorem G.lneg {M : g_M} {k n pc : Nat} {lv : List (Nat × Value)} {st : List Value} {ws : List va_E} {r : Option Value} {ws' : List va_E} {x : Int64} (hd : decode M.1 pc = .ok (.lneg, 1)) (kk : G M k n (pc + 1) lv (.long (-x) :: st) ws r ws') : G M k n pc lv (.long x :: st) ws r ws' := by
  intro p l e s m args below meth c D cid A n0 ad0 C ad ls H locs hq hl hP hD hS
  exact lv_lneg C.1 C.2.1 hd (kk p l e s m args below meth c D cid A n0 ad0 C ad ls H locs hq hl hP hD hS)
theorem G.lcmp {M : g_M} {k n pc : Nat} {lv : List (Nat × Value)} {st : List Value} {ws : List va_E} {r : Option Value} {ws' : List va_E} {x y : Int64} (hd : decode M.1 pc = .ok (.lcmp, 1)) (kk : G M k n (pc + 1) lv (.int (lg_cmp x y) :: st) ws r ws') : G M k n pc lv (.long y :: .long x :: st) ws r ws' := by
  intro p l e s m args below meth c D cid A n0 ad0 C ad ls H locs hq hl hP hD hS
  exact W.lcmp C.1 C.2.1 hd (kk p l e s m args below meth c D cid A n0 ad0 C ad ls H locs hq hl hP hD hS)
theorem G.dup {M : g_M} {k n pc : Nat} {lv : List (Nat × Value)} {st : List Value} {ws : List va_E} {r : Option Value} {ws' : List va_E} {v : Value} (hd : decode M.1 pc = .ok (.dup, 1)) (hc : v.category = 1) (kk : G M k n (pc + 1) lv (v :: v :: st) ws r ws') : G M k n pc lv (v :: st) ws r ws' := by
  intro p l e s m args below meth c D cid A n0 ad0 C ad ls H locs hq hl hP hD hS
  exact lv_dup C.1 C.2.1 hd ((g_catv ad v).trans hc) (kk p l e s m args below meth c D cid A n0 ad0 C ad ls H locs hq hl hP hD hS)
theorem G.pop {M : g_M} {k n pc : Nat} {lv : List (Nat × Value)} {st : List Value} {ws : List va_E} {r : Option Value} {ws' : List va_E} {v : Value} (hd : decode M.1 pc = .ok (.pop, 1)) (hc : v.category = 1) (kk : G M k n (pc + 1) lv st ws r ws') : G M k n pc lv (v :: st) ws r ws' := by
  intro p l e s m args below meth c D cid A n0 ad0 C ad ls H locs hq hl hP hD hS
  exact lv_pop C.1 C.2.1 hd ((g_catv ad v).trans hc) (kk p l e s m args below meth c D cid A n0 ad0 C ad ls H locs hq hl hP hD hS)
theorem G.dup2 {M : g_M} {k n pc : Nat} {lv : List (Nat × Value)} {st : List Value} {ws : List va_E} {r : Option Value} {ws' : List va_E} {v u : Value} (hd : decode M.1 pc = .ok (.dup2, 1)) (hc : v.category = 1) (hc2 : u.category = 1) (kk : G M k n (pc + 1) lv (v :: u :: v :: u :: st) ws r ws') : G M k n pc lv (v :: u :: st) ws r ws' := by
  intro p l e s m args below meth c D cid A n0 ad0 C ad ls H locs hq hl hP hD hS
  exact lv_dup2_11 C.1 C.2.1 hd ((g_catv ad v).trans hc) ((g_catv ad u).trans hc2) (kk p l e s m args below meth c D cid A n0 ad0 C ad ls H locs hq hl hP hD hS)
theorem G.if_eq {M : g_M} {k n pc : Nat} {lv : List (Nat × Value)} {st : List Value} {ws : List va_E} {r : Option Value} {ws' : List va_E} {x : Int32} {off : Int} {tgt : Nat} (hd : decode M.1 pc = .ok (.ifCond .eq off, 3)) (ht : (pc : Int) + off = (tgt : Int)) (kt : x = 0 → G M k n tgt lv st ws r ws') (kf : ¬ x = 0 → G M k n (pc + 3) lv st ws r ws') : G M k n pc lv (.int x :: st) ws r ws' := by
  intro p l e s m args below meth c D cid A n0 ad0 C ad ls H locs hq hl hP hD hS
  exact lv_if_eq C.1 C.2.1 hd ht (fun h => (kt h p l e s m args below meth c D cid A n0 ad0 C ad ls H locs hq hl hP hD hS)) (fun h => (kf h p l e s m args below meth c D cid A n0 ad0 C ad ls H locs hq hl hP hD hS))
theorem G.if_ne {M : g_M} {k n pc : Nat} {lv : List (Nat × Value)} {st : List Value} {ws : List va_E} {r : Option Value} {ws' : List va_E} {x : Int32} {off : Int} {tgt : Nat} (hd : decode M.1 pc = .ok (.ifCond .ne off, 3)) (ht : (pc : Int) + off = (tgt : Int)) (kt : ¬ x = 0 → G M k n tgt lv st ws r ws') (kf : x = 0 → G M k n (pc + 3) lv st ws r ws') : G M k n pc lv (.int x :: st) ws r ws' := by
  intro p l e s m args below meth c D cid A n0 ad0 C ad ls H locs hq hl hP hD hS
  exact lv_if_ne C.1 C.2.1 hd ht (fun h => (kt h p l e s m args below meth c D cid A n0 ad0 C ad ls H locs hq hl hP hD hS)) (fun h => (kf h p l e s m args below meth c D cid A n0 ad0 C ad ls H locs hq hl hP hD hS))
theorem G.if_lt {M : g_M} {k n pc : Nat} {lv : List (Nat × Value)} {st : List Value} {ws : List va_E} {r : Option Value} {ws' : List va_E} {x : Int32} {off : Int} {tgt : Nat} (hd : decode M.1 pc = .ok (.ifCond .lt off, 3)) (ht : (pc : Int) + off = (tgt : Int)) (kt : x < 0 → G M k n tgt lv st ws r ws') (kf : ¬ x < 0 → G M k n (pc + 3) lv st ws r ws') : G M k n pc lv (.int x :: st) ws r ws' := by
  intro p l e s m args below meth c D cid A n0 ad0 C ad ls H locs hq hl hP hD hS
  exact lv_if_lt C.1 C.2.1 hd ht (fun h => (kt h p l e s m args below meth c D cid A n0 ad0 C ad ls H locs hq hl hP hD hS)) (fun h => (kf h p l e s m args below meth c D cid A n0 ad0 C ad ls H locs hq hl hP hD hS))
theorem G.if_ge {M : g_M} {k n pc : Nat} {lv : List (Nat × Value)} {st : List Value} {ws : List va_E} {r : Option Value} {ws' : List va_E} {x : Int32} {off : Int} {tgt : Nat} (hd : decode M.1 pc = .ok (.ifCond .ge off, 3)) (ht : (pc : Int) + off = (tgt : Int)) (kt : 0 ≤ x → G M k n tgt lv st ws r ws') (kf : ¬ 0 ≤ x → G M k n (pc + 3) lv st ws r ws') : G M k n pc lv (.int x :: st) ws r ws' := by
  intro p l e s m args below meth c D cid A n0 ad0 C ad ls H locs hq hl hP hD hS
  exact lv_if_ge C.1 C.2.1 hd ht (fun h => (kt h p l e s m args below meth c D cid A n0 ad0 C ad ls H locs hq hl hP hD hS)) (fun h => (kf h p l e s m args below meth c D cid A n0 ad0 C ad ls H locs hq hl hP hD hS))
theorem G.if_gt {M : g_M} {k n pc : Nat} {lv : List (Nat × Value)} {st : List Value} {ws : List va_E} {r : Option Value} {ws' : List va_E} {x : Int32} {off : Int} {tgt : Nat} (hd : decode M.1 pc = .ok (.ifCond .gt off, 3)) (ht : (pc : Int) + off = (tgt : Int)) (kt : 0 < x → G M k n tgt lv st ws r ws') (kf : ¬ 0 < x → G M k n (pc + 3) lv st ws r ws') : G M k n pc lv (.int x :: st) ws r ws' := by
  intro p l e s m args below meth c D cid A n0 ad0 C ad ls H locs hq hl hP hD hS
  exact lv_if_gt C.1 C.2.1 hd ht (fun h => (kt h p l e s m args below meth c D cid A n0 ad0 C ad ls H locs hq hl hP hD hS)) (fun h => (kf h p l e s m args below meth c D cid A n0 ad0 C ad ls H locs hq hl hP hD hS))
theorem G.if_le {M : g_M} {k n pc : Nat} {lv : List (Nat × Value)} {st : List Value} {ws : List va_E} {r : Option Value} {ws' : List va_E} {x : Int32} {off : Int} {tgt : Nat} (hd : decode M.1 pc = .ok (.ifCond .le off, 3)) (ht : (pc : Int) + off = (tgt : Int)) (kt : x ≤ 0 → G M k n tgt lv st ws r ws') (kf : ¬ x ≤ 0 → G M k n (pc + 3) lv st ws r ws') : G M k n pc lv (.int x :: st) ws r ws' := by
  intro p l e s m args below meth c D cid A n0 ad0 C ad ls H locs hq hl hP hD hS
  exact lv_if_le C.1 C.2.1 hd ht (fun h => (kt h p l e s m args below meth c D cid A n0 ad0 C ad ls H locs hq hl hP hD hS)) (fun h => (kf h p l e s m args below meth c D cid A n0 ad0 C ad ls H locs hq hl hP hD hS))
theorem G.icmp_eq {M : g_M} {k n pc : Nat} {lv : List (Nat × Value)} {st : List Value} {ws : List va_E} {r : Option Value} {ws' : List va_E} {x y : Int32} {off : Int} {tgt : Nat} (hd : decode M.1 pc = .ok (.if_icmp .eq off, 3)) (ht : (pc : Int) + off = (tgt : Int)) (kt : x = y → G M k n tgt lv st ws r ws') (kf : ¬ x = y → G M k n (pc + 3) lv st ws r ws') : G M k n pc lv (.int y :: .int x :: st) ws r ws' := by
  intro p l e s m args below meth c D cid A n0 ad0 C ad ls H locs hq hl hP hD hS
  exact lv_icmp_eq C.1 C.2.1 hd ht (fun h => (kt h p l e s m args below meth c D cid A n0 ad0 C ad ls H locs hq hl hP hD hS)) (fun h => (kf h p l e s m args below meth c D cid A n0 ad0 C ad ls H locs hq hl hP hD hS))
theorem G.icmp_ne {M : g_M} {k n pc : Nat} {lv : List (Nat × Value)} {st : List Value} {ws : List va_E} {r : Option Value} {ws' : List va_E} {x y : Int32} {off : Int} {tgt : Nat} (hd : decode M.1 pc = .ok (.if_icmp .ne off, 3)) (ht : (pc : Int) + off = (tgt : Int)) (kt : ¬ x = y → G M k n tgt lv st ws r ws') (kf : x = y → G M k n (pc + 3) lv st ws r ws') : G M k n pc lv (.int y :: .int x :: st) ws r ws' := by
  intro p l e s m args below meth c D cid A n0 ad0 C ad ls H locs hq hl hP hD hS
  exact lv_icmp_ne C.1 C.2.1 hd ht (fun h => (kt h p l e s m args below meth c D cid A n0 ad0 C ad ls H locs hq hl hP hD hS)) (fun h => (kf h p l e s m args below meth c D cid A n0 ad0 C ad ls H locs hq hl hP hD hS))
theorem G.icmp_lt {M : g_M} {k n pc : Nat} {lv : List (Nat × Value)} {st : List Value} {ws : List va_E} {r : Option Value} {ws' : List va_E} {x y : Int32} {off : Int} {tgt : Nat} (hd : decode M.1 pc = .ok (.if_icmp .lt off, 3)) (ht : (pc : Int) + off = (tgt : Int)) (kt : x < y → G M k n tgt lv st ws r ws') (kf : ¬ x < y → G M k n (pc + 3) lv st ws r ws') : G M k n pc lv (.int y :: .int x :: st) ws r ws' := by
  intro p l e s m args below meth c D cid A n0 ad0 C ad ls H locs hq hl hP hD hS
  exact lv_icmp_lt C.1 C.2.1 hd ht (fun h => (kt h p l e s m args below meth c D cid A n0 ad0 C ad ls H locs hq hl hP hD hS)) (fun h => (kf h p l e s m args below meth c D cid A n0 ad0 C ad ls H locs hq hl hP hD hS))
theorem G.icmp_ge {M : g_M} {k n pc : Nat} {lv : List (Nat × Value)} {st : List Value} {ws : List va_E} {r : Option Value} {ws' : List va_E} {x y : Int32} {off : Int} {tgt : Nat} (hd : decode M.1 pc = .ok (.if_icmp .ge off, 3)) (ht : (pc : Int) + off = (tgt : Int)) (kt : y ≤ x → G M k n tgt lv st ws r ws') (kf : ¬ y ≤ x → G M k n (pc + 3) lv st ws r ws') : G M k n pc lv (.int y :: .int x :: st) ws r ws' := by
  intro p l e s m args below meth c D cid A n0 ad0 C ad ls H locs hq hl hP hD hS
  exact lv_icmp_ge C.1 C.2.1 hd ht (fun h => (kt h p l e s m args below meth c D cid A n0 ad0 C ad ls H locs hq hl hP hD hS)) (fun h => (kf h p l e s m args below meth c D cid A n0 ad0 C ad ls H locs hq hl hP hD hS))
theorem G.icmp_gt {M : g_M} {k n pc : Nat} {lv : List (Nat × Value)} {st : List Value} {ws : List va_E} {r : Option Value} {ws' : List va_E} {x y : Int32} {off : Int} {tgt : Nat} (hd : decode M.1 pc = .ok (.if_icmp .gt off, 3)) (ht : (pc : Int) + off = (tgt : Int)) (kt : y < x → G M k n tgt lv st ws r ws') (kf : ¬ y < x → G M k n (pc + 3) lv st ws r ws') : G M k n pc lv (.int y :: .int x :: st) ws r ws' := by
  intro p l e s m args below meth c D cid A n0 ad0 C ad ls H locs hq hl hP hD hS
  exact lv_icmp_gt C.1 C.2.1 hd ht (fun h => (kt h p l e s m args below meth c D cid A n0 ad0 C ad ls H locs hq hl hP hD hS)) (fun h => (kf h p l e s m args below meth c D cid A n0 ad0 C ad ls H locs hq hl hP hD hS))
theorem G.icmp_le {M : g_M} {k n pc : Nat} {lv : List (Nat × Value)} {st : List Value} {ws : List va_E} {r : Option Value} {ws' : List va_E} {x y : Int32} {off : Int} {tgt : Nat} (hd : decode M.1 pc = .ok (.if_icmp .le off, 3)) (ht : (pc : Int) + off = (tgt : Int)) (kt : x ≤ y → G M k n tgt lv st ws r ws') (kf : ¬ x ≤ y → G M k n (pc + 3) lv st ws r ws') : G M k n pc lv (.int y :: .int x :: st) ws r ws' := by
  intro p l e s m args below meth c D cid A n0 ad0 C ad ls H locs hq hl hP hD hS
  exact lv_icmp_le C.1 C.2.1 hd ht (fun h => (kt h p l e s m args below meth c D cid A n0 ad0 C ad ls H locs hq hl hP hD hS)) (fun h => (kf h p l e s m args below meth c D cid A n0 ad0 C ad ls H locs hq hl hP hD hS))
theorem G.goto {M : g_M} {k n pc : Nat} {lv : List (Nat × Value)} {st : List Value} {ws : List va_E} {r : Option Value} {ws' : List va_E} {off : Int} {tgt : Nat} (hd : decode M.1 pc = .ok (.goto off, 3)) (ht : (pc : Int) + off = (tgt : Int)) (kk : G M k n tgt lv st ws r ws') : G M k n pc lv st ws r ws' := by
  intro p l e s m args below meth c D cid A n0 ad0 C ad ls H locs hq hl hP hD hS
  exact lv_goto C.1 C.2.1 hd ht (kk p l e s m args below meth c D cid A n0 ad0 C ad ls H locs hq hl hP hD hS)
theorem G.topi {M : g_M} {k n pc : Nat} {lv : List (Nat × Value)} {st : List Value} {ws : List va_E} {r : Option Value} {ws' : List va_E} {x : Int32} (kk : ∀ y : Int32, y = x → G M k n pc lv (.int y :: st) ws r ws') : G M k n pc lv (.int x :: st) ws r ws' := kk x rfl
theorem G.topl {M : g_M} {k n pc : Nat} {lv : List (Nat × Value)} {st : List Value} {ws : List va_E} {r : Option Value} {ws' : List va_E} {x : Int64} (kk : ∀ y : Int64, y = x → G M k n pc lv (.long y :: st) ws r ws') : G M k n pc lv (.long x :: st) ws r ws' := kk x rfl
theorem g_tabOff {x v : Int32} (h : x = v) : x.toInt = v.toInt := by rw [h]
theorem G.tabIn {M : g_M} {k n pc : Nat} {lv : List (Nat × Value)} {st : List Value} {ws : List va_E} {r : Option Value} {ws' : List va_E} {dflt lo hi : Int} {offs : Array Int} {len : Nat} {x v : Int32} {off : Int} {tgt : Nat} (hd : decode M.1 pc = .ok (.tableswitch dflt lo hi offs, len)) (hv : x = v) (h1 : ¬ v.toInt < lo) (h2 : ¬ hi < v.toInt) (ho : offs[(v.toInt - lo).toNat]? = some off) (ht : (pc : Int) + off = (tgt : Int)) (kk : G M k n tgt lv st ws r ws') : G M k n pc lv (.int x :: st) ws r ws' := by
  intro p l e s m args below meth c D cid A n0 ad0 C ad ls H locs hq hl hP hD hS
  subst hv
  exact lv_tableIn C.1 C.2.1 hd h1 h2 ho ht (kk p l e s m args below meth c D cid A n0 ad0 C ad ls H locs hq hl hP hD hS)
theorem G.tabOut {M : g_M} {k n pc : Nat} {lv : List (Nat × Value)} {st : List Value} {ws : List va_E} {r : Option Value} {ws' : List va_E} {dflt lo hi : Int} {offs : Array Int} {len : Nat} {x : Int32} {tgt : Nat} (hd : decode M.1 pc = .ok (.tableswitch dflt lo hi offs, len)) (h : x.toInt < lo ∨ hi < x.toInt) (ht : (pc : Int) + dflt = (tgt : Int)) (kk : G M k n tgt lv st ws r ws') : G M k n pc lv (.int x :: st) ws r ws' := by
  intro p l e s m args below meth c D cid A n0 ad0 C ad ls H locs hq hl hP hD hS
  exact lv_tableOut C.1 C.2.1 hd h ht (kk p l e s m args below meth c D cid A n0 ad0 C ad ls H locs hq hl hP hD hS)
theorem G.lookup {M : g_M} {k n pc : Nat} {lv : List (Nat × Value)} {st : List Value} {ws : List va_E} {r : Option Value} {ws' : List va_E} {dflt : Int} {ps : Array (Int × Int)} {len : Nat} {x : Int32} {off : Int} {tgt : Nat} (hd : decode M.1 pc = .ok (.lookupswitch dflt ps, len)) (hp : (ps.toList.zip (ps.toList.drop 1)).all (fun (a, next) => a.1 < next.1) = true) (ho : Op.lookupswitch.offset ps.toList dflt x.toInt = off) (ht : (pc : Int) + off = (tgt : Int)) (kk : G M k n tgt lv st ws r ws') : G M k n pc lv (.int x :: st) ws r ws' := by
  intro p l e s m args below meth c D cid A n0 ad0 C ad ls H locs hq hl hP hD hS
  exact lv_lookup C.1 C.2.1 hd hp ho ht (kk p l e s m args below meth c D cid A n0 ad0 C ad ls H locs hq hl hP hD hS)
def g_F (own : String) (idx ci k : Nat) : Prop := ∃ (C : String) (T : u_T) (N : Nat), vwCl[ci]? = some (C, T, N) ∧ k < N ∧ (∀ w ∈ u_ws C T N, w ∈ TT) ∧ Cond.fieldLink own idx (T k).1 (T k).2.1 (T k).2.2.1 ∈ TT
def g_Fw (own : String) (idx ci k : Nat) (ty : FieldType) : Prop := ∃ (C : String) (T : u_T) (N : Nat) (ty0 : Nat → FieldType), vwCl[ci]? = some (C, T, N) ∧ k < N ∧ (∀ w ∈ u_ws C T N, w ∈ TT) ∧ Cond.fieldLink own idx (T k).1 (T k).2.1 (T k).2.2.1 ∈ TT ∧ (∀ k, k < N → parseFieldDescriptor (T k).2.2.1 = some (ty0 k)) ∧ (∀ a, a < N → ∀ b, b < N → a ≠ b → (T a).2.1 ≠ (T b).2.1) ∧ (T k).2.2.2 = false ∧ parseFieldDescriptor (T k).2.2.1 = some ty
theorem G.getfield {M : g_M} {k n pc : Nat} {lv : List (Nat × Value)} {st : List Value} {ws : List va_E} {r : Option Value} {ws' : List va_E} {idx ci kf a : Nat} {fs : List Value} {v : Value} (hd : decode M.1 pc = .ok (.getfield idx, 3)) (hf : g_F M.2.2.1 idx ci kf) (he : ws[a]? = some (.inr (ci, fs))) (hv : fs[kf]? = some v) (kk : G M k n (pc + 3) lv (v :: st) ws r ws') : G M k n pc lv (.ref a :: st) ws r ws' := by
  intro p l e s m args below meth c D cid A n0 ad0 C ad ls H locs hq hl hP hD hS
  obtain ⟨C9, T9, N9, h1, h2, h3, h4⟩ := hf
  exact va_get (D := D) (ci := ci) (v := g_tv ad v) C.1 C.2.1 C.2.2.2.2.2.1 h3 C.2.2.2.2.1 C.2.2.2.2.2.2.2.1 hP a (fs := fs.map (g_tv ad)) (g_get ad cid he) h1 kf h2 (C.2.2.2.2.2.1 _ h4) (fun _ h9 => h9) (by rw [List.getElem?_map, hv]; rfl) hd (kk p l e s m args below meth c D cid A n0 ad0 C ad ls H locs hq hl hP hD hS)
def g_fit (ty : FieldType) (v : Value) : Prop := ∀ ad : Nat → Nat, narrow ty (g_tv ad v) = g_tv ad v ∧ fits ty (g_tv ad v) = true
theorem g_fit_i (x : Int32) : g_fit .int (.int x) := fun _ => ⟨rfl, rfl⟩
theorem g_fit_l (x : Int64) : g_fit .long (.long x) := fun _ => ⟨rfl, rfl⟩
theorem g_fit_z {x : Int32} (h : x = 0 ∨ x = 1) : g_fit .boolean (.int x) := fun _ => by
  rcases h with rfl | rfl
  · show narrow .boolean (.int 0) = .int 0 ∧ fits .boolean (.int 0) = true; decide
  · show narrow .boolean (.int 1) = .int 1 ∧ fits .boolean (.int 1) = true; decide
theorem g_fit_a (t : FieldType) (i : Nat) : g_fit (.array t) (.ref i) := fun _ => ⟨rfl, rfl⟩
theorem g_fit_o (t : String) (i : Nat) : g_fit (.object t) (.ref i) := fun _ => ⟨rfl, rfl⟩
theorem G.putfield {M : g_M} {k n pc : Nat} {lv : List (Nat × Value)} {st : List Value} {ws : List va_E} {r : Option Value} {ws' : List va_E} {idx ci kf a : Nat} {fs : List Value} {v : Value} {ty : FieldType} {ws1 : List va_E} (hd : decode M.1 pc = .ok (.putfield idx, 3)) (hf : g_Fw M.2.2.1 idx ci kf ty) (he : ws[a]? = some (.inr (ci, fs))) (hfit : g_fit ty v) (hl9 : Nat.ble (kf + 1) fs.length = true) (hw : ws.set a (.inr (ci, fs.set kf v)) = ws1) (kk : G M k n (pc + 3) lv st ws1 r ws') : G M k n pc lv (v :: .ref a :: st) ws r ws' := by
  intro p l e s m args below meth c D cid A n0 ad0 C ad ls H locs hq hl hP hD hS
  obtain ⟨C9, T9, N9, ty0, h1, h2, h3, h4, h5, h6, h7, h8⟩ := hf
  refine va_put (D := D) (ci := ci) (v := g_tv ad v) (ty := ty) C.1 C.2.1 C.2.2.2.2.2.1 h3 ty0 h5 h6 C.2.2.2.2.1 C.2.2.2.2.2.2.2.1 hP hD hS a (fs := fs.map (g_tv ad)) (g_get ad cid he) h1 kf h2 (C.2.2.2.2.2.1 _ h4) (fun _ h9 => h9) h7 h8 (hfit ad).1 (hfit ad).2 (by rw [List.length_map]; exact g_lt hl9) hd (fun H locs hP hD hS => ?_)
  have hz : (g_mk ad cid ws).set a (ad a, .inr (ci, (fs.map (g_tv ad)).set kf (g_tv ad v))) = g_mk ad cid ws1 := by
    rw [← hw, ← g_set]
    simp only [g_te, List.map_set]
  rw [hz] at hP hD
  exact (kk p l e s m args below meth c D cid A n0 ad0 C ad ls H locs hq hl hP hD hS)
theorem G.iaload {M : g_M} {k n pc : Nat} {lv : List (Nat × Value)} {st : List Value} {ws : List va_E} {r : Option Value} {ws' : List va_E} {a N : Nat} {f : Nat → Int32} {i : Int32} (hd : decode M.1 pc = .ok (.iaload, 1)) (he : ws[a]? = some (.inl (1, N, .inl f))) (hin : vp_in i N) (kk : G M k n (pc + 1) lv (.int (f i.toNatClampNeg) :: st) ws r ws') : G M k n pc lv (.int i :: .ref a :: st) ws r ws' := by
  intro p l e s m args below meth c D cid A n0 ad0 C ad ls H locs hq hl hP hD hS
  exact va_iald (D := D) C.1 C.2.1 C.2.2.2.2.2.2.2.1 hP a 1 (g_get ad cid he) rfl hin hd (kk p l e s m args below meth c D cid A n0 ad0 C ad ls H locs hq hl hP hD hS)
theorem G.caload {M : g_M} {k n pc : Nat} {lv : List (Nat × Value)} {st : List Value} {ws : List va_E} {r : Option Value} {ws' : List va_E} {a N : Nat} {f : Nat → Int32} {i : Int32} (hd : decode M.1 pc = .ok (.caload, 1)) (he : ws[a]? = some (.inl (0, N, .inl f))) (hin : vp_in i N) (kk : G M k n (pc + 1) lv (.int (f i.toNatClampNeg) :: st) ws r ws') : G M k n pc lv (.int i :: .ref a :: st) ws r ws' := by
  intro p l e s m args below meth c D cid A n0 ad0 C ad ls H locs hq hl hP hD hS
  exact va_cald (D := D) C.1 C.2.1 C.2.2.2.2.2.2.2.1 hP a 0 (g_get ad cid he) rfl hin hd (kk p l e s m args below meth c D cid A n0 ad0 C ad ls H locs hq hl hP hD hS)
theorem G.laload {M : g_M} {k n pc : Nat} {lv : List (Nat × Value)} {st : List Value} {ws : List va_E} {r : Option Value} {ws' : List va_E} {a N : Nat} {f : Nat → Int64} {i : Int32} (hd : decode M.1 pc = .ok (.laload, 1)) (he : ws[a]? = some (.inl (2, N, .inr (.inl f)))) (hin : vp_in i N) (kk : G M k n (pc + 1) lv (.long (f i.toNatClampNeg) :: st) ws r ws') : G M k n pc lv (.int i :: .ref a :: st) ws r ws' := by
  intro p l e s m args below meth c D cid A n0 ad0 C ad ls H locs hq hl hP hD hS
  exact va_lald (D := D) C.1 C.2.1 C.2.2.2.2.2.2.2.1 hP a 2 (g_get ad cid he) rfl hin hd (kk p l e s m args below meth c D cid A n0 ad0 C ad ls H locs hq hl hP hD hS)
theorem G.aaload {M : g_M} {k n pc : Nat} {lv : List (Nat × Value)} {st : List Value} {ws : List va_E} {r : Option Value} {ws' : List va_E} {a N b : Nat} {f : Nat → Option Nat} {i : Int32} (hd : decode M.1 pc = .ok (.aaload, 1)) (he : ws[a]? = some (.inl (3, N, .inr (.inr (.inr (.inr f)))))) (hin : vp_in i N) (hb : f i.toNatClampNeg = some b) (kk : G M k n (pc + 1) lv (.ref b :: st) ws r ws') : G M k n pc lv (.int i :: .ref a :: st) ws r ws' := by
  intro p l e s m args below meth c D cid A n0 ad0 C ad ls H locs hq hl hP hD hS
  refine va_aldq (D := D) C.1 C.2.1 C.2.2.2.2.2.2.2.1 hP a 3 (f := fun j => (f j).map ad) (g_get ad cid he) rfl hin hd ?_
  have hz : va_rf ((f i.toNatClampNeg).map ad) = .ref (ad b) := by rw [hb]; rfl
  rw [hz]
  exact (kk p l e s m args below meth c D cid A n0 ad0 C ad ls H locs hq hl hP hD hS)
theorem G.arraylength {M : g_M} {k n pc : Nat} {lv : List (Nat × Value)} {st : List Value} {ws : List va_E} {r : Option Value} {ws' : List va_E} {a t N : Nat} {x : (Nat → Int32) ⊕ (Nat → Int64) ⊕ (Nat → UInt32) ⊕ (Nat → UInt64) ⊕ (Nat → Option Nat)} {v : Int32} (hd : decode M.1 pc = .ok (.arraylength, 1)) (he : ws[a]? = some (.inl (t, N, x))) (ht : Nat.ble (t + 1) 4 = true) (hv : Int32.ofNat N = v) (kk : G M k n (pc + 1) lv (.int v :: st) ws r ws') : G M k n pc lv (.ref a :: st) ws r ws' := by
  intro p l e s m args below meth c D cid A n0 ad0 C ad ls H locs hq hl hP hD hS
  have ht := g_lt ht
  have hh : ∃ ty, (g_tys cid)[t]? = some (cid t, ty) := by
    rcases (show t = 0 ∨ t = 1 ∨ t = 2 ∨ t = 3 by omega) with rfl | rfl | rfl | rfl <;> exact ⟨_, rfl⟩
  obtain ⟨ty, hty⟩ := hh
  exact va_alen (D := D) C.1 C.2.1 C.2.2.2.2.2.2.2.1 hP a t (x := g_ta ad (N, x)) (g_get ad cid he) hty hv hd (kk p l e s m args below meth c D cid A n0 ad0 C ad ls H locs hq hl hP hD hS)
theorem G.iastore {M : g_M} {k n pc : Nat} {lv : List (Nat × Value)} {st : List Value} {ws : List va_E} {r : Option Value} {ws' : List va_E} {a N : Nat} {f : Nat → Int32} {i : Int32} {x : Int32} {ws1 : List va_E} (hd : decode M.1 pc = .ok (.iastore, 1)) (he : ws[a]? = some (.inl (1, N, .inl f))) (hin : vp_in i N) (hw : ws.set a (.inl (1, N, .inl (upd f i.toNatClampNeg x))) = ws1) (kk : G M k n (pc + 1) lv st ws1 r ws') : G M k n pc lv (.int x :: .int i :: .ref a :: st) ws r ws' := by
  intro p l e s m args below meth c D cid A n0 ad0 C ad ls H locs hq hl hP hD hS
  refine va_iast (D := D) C.1 C.2.1 C.2.2.2.2.2.2.2.1 hP hD hS a 1 (g_get ad cid he) rfl hin hd (fun H locs hP hD hS => ?_)
  have hz := g_set ad cid ws a (.inl (1, N, .inl (upd f i.toNatClampNeg x)))
  rw [hw] at hz
  have hP : va_P D vwCl (g_mk ad cid ws1) H := hz ▸ hP
  have hD : va_D A (g_mk ad cid ws1) := hz ▸ hD
  exact (kk p l e s m args below meth c D cid A n0 ad0 C ad ls H locs hq hl hP hD hS)
theorem G.castore {M : g_M} {k n pc : Nat} {lv : List (Nat × Value)} {st : List Value} {ws : List va_E} {r : Option Value} {ws' : List va_E} {a N : Nat} {f : Nat → Int32} {i : Int32} {x : Int32} {ws1 : List va_E} (hd : decode M.1 pc = .ok (.castore, 1)) (he : ws[a]? = some (.inl (0, N, .inl f))) (hin : vp_in i N) (hw : ws.set a (.inl (0, N, .inl (upd f i.toNatClampNeg (vp_nar .char x)))) = ws1) (kk : G M k n (pc + 1) lv st ws1 r ws') : G M k n pc lv (.int x :: .int i :: .ref a :: st) ws r ws' := by
  intro p l e s m args below meth c D cid A n0 ad0 C ad ls H locs hq hl hP hD hS
  refine va_cast (D := D) C.1 C.2.1 C.2.2.2.2.2.2.2.1 hP hD hS a 0 (g_get ad cid he) rfl hin hd (fun H locs hP hD hS => ?_)
  have hz := g_set ad cid ws a (.inl (0, N, .inl (upd f i.toNatClampNeg (vp_nar .char x))))
  rw [hw] at hz
  have hP : va_P D vwCl (g_mk ad cid ws1) H := hz ▸ hP
  have hD : va_D A (g_mk ad cid ws1) := hz ▸ hD
  exact (kk p l e s m args below meth c D cid A n0 ad0 C ad ls H locs hq hl hP hD hS)
theorem G.lastore {M : g_M} {k n pc : Nat} {lv : List (Nat × Value)} {st : List Value} {ws : List va_E} {r : Option Value} {ws' : List va_E} {a N : Nat} {f : Nat → Int64} {i : Int32} {x : Int64} {ws1 : List va_E} (hd : decode M.1 pc = .ok (.lastore, 1)) (he : ws[a]? = some (.inl (2, N, .inr (.inl f)))) (hin : vp_in i N) (hw : ws.set a (.inl (2, N, .inr (.inl (vp_updL f i.toNatClampNeg x)))) = ws1) (kk : G M k n (pc + 1) lv st ws1 r ws') : G M k n pc lv (.long x :: .int i :: .ref a :: st) ws r ws' := by
  intro p l e s m args below meth c D cid A n0 ad0 C ad ls H locs hq hl hP hD hS
  refine va_last (D := D) C.1 C.2.1 C.2.2.2.2.2.2.2.1 hP hD hS a 2 (g_get ad cid he) rfl hin hd (fun H locs hP hD hS => ?_)
  have hz := g_set ad cid ws a (.inl (2, N, .inr (.inl (vp_updL f i.toNatClampNeg x))))
  rw [hw] at hz
  have hP : va_P D vwCl (g_mk ad cid ws1) H := hz ▸ hP
  have hD : va_D A (g_mk ad cid ws1) := hz ▸ hD
  exact (kk p l e s m args below meth c D cid A n0 ad0 C ad ls H locs hq hl hP hD hS)
theorem G.ireturn {M : g_M} {k n pc : Nat} {lv : List (Nat × Value)} {ws : List va_E} {x : Int32} (hd : decode M.1 pc = .ok (.ireturn, 1)) (hr : M.2.2.2.1 = some .int) (hk : Nat.ble k M.2.2.2.2.2.1 = true) (hn : Nat.ble n M.2.2.2.2.2.2 = true) : G M k n pc lv [.int x] ws (some (.int x)) ws := by
  intro p l e s m args below meth c D cid A n0 ad0 C ad ls H locs hq hl hP hD hS
  refine W.widen (k := M.2.2.2.2.2.1) (n := M.2.2.2.2.2.2) (Nat.le_of_ble_eq_true hk) (Nat.le_of_ble_eq_true hn) ?_
  exact W.iret (v := x) C.1 C.2.1 (C.2.2.1.trans hr) (fun t ht hW => ⟨⟨ad, hq, rfl, by rw [ht]; exact hP, va_K.moved hW.alike C.2.2.2.2.2.2.2.1, hD⟩, hS.F ht⟩) hS.2.2 hd C.2.2.2.2.2.2.1
theorem G.zreturn {M : g_M} {k n pc : Nat} {lv : List (Nat × Value)} {ws : List va_E} {x : Int32} {ty : FieldType} (hd : decode M.1 pc = .ok (.ireturn, 1)) (hr : M.2.2.2.1 = some ty) (hx : narrow ty (.int x) = .int x) (hk : Nat.ble k M.2.2.2.2.2.1 = true) (hn : Nat.ble n M.2.2.2.2.2.2 = true) : G M k n pc lv [.int x] ws (some (.int x)) ws := by
  intro p l e s m args below meth c D cid A n0 ad0 C ad ls H locs hq hl hP hD hS
  refine W.widen (k := M.2.2.2.2.2.1) (n := M.2.2.2.2.2.2) (Nat.le_of_ble_eq_true hk) (Nat.le_of_ble_eq_true hn) ?_
  exact W.zret (v := x) C.1 C.2.1 (C.2.2.1.trans hr) hx (fun t ht hW => ⟨⟨ad, hq, rfl, by rw [ht]; exact hP, va_K.moved hW.alike C.2.2.2.2.2.2.2.1, hD⟩, hS.F ht⟩) hS.2.2 hd C.2.2.2.2.2.2.1
theorem G.lreturn {M : g_M} {k n pc : Nat} {lv : List (Nat × Value)} {ws : List va_E} {x : Int64} (hd : decode M.1 pc = .ok (.lreturn, 1)) (hr : M.2.2.2.1 = some .long) (hk : Nat.ble k M.2.2.2.2.2.1 = true) (hn : Nat.ble n M.2.2.2.2.2.2 = true) : G M k n pc lv [.long x] ws (some (.long x)) ws := by
  intro p l e s m args below meth c D cid A n0 ad0 C ad ls H locs hq hl hP hD hS
  refine W.widen (k := M.2.2.2.2.2.1) (n := M.2.2.2.2.2.2) (Nat.le_of_ble_eq_true hk) (Nat.le_of_ble_eq_true hn) ?_
  exact W.lret (v := x) C.1 C.2.1 (C.2.2.1.trans hr) (fun t ht hW => ⟨⟨ad, hq, rfl, by rw [ht]; exact hP, va_K.moved hW.alike C.2.2.2.2.2.2.2.1, hD⟩, hS.F ht⟩) hS.2.2 hd C.2.2.2.2.2.2.1
theorem G.vreturn {M : g_M} {k n pc : Nat} {lv : List (Nat × Value)} {ws : List va_E} (hd : decode M.1 pc = .ok (.return_, 1)) (hr : M.2.2.2.1 = none) (hk : Nat.ble k M.2.2.2.2.2.1 = true) (hn : Nat.ble n M.2.2.2.2.2.2 = true) : G M k n pc lv [] ws none ws := by
  intro p l e s m args below meth c D cid A n0 ad0 C ad ls H locs hq hl hP hD hS
  refine W.widen (k := M.2.2.2.2.2.1) (n := M.2.2.2.2.2.2) (Nat.le_of_ble_eq_true hk) (Nat.le_of_ble_eq_true hn) ?_
  exact W.vret C.1 C.2.1 (C.2.2.1.trans hr) (fun t ht hW => ⟨⟨ad, hq, rfl, by rw [ht]; exact hP, va_K.moved hW.alike C.2.2.2.2.2.2.2.1, hD⟩, hS.F ht⟩) hS.2.2 hd C.2.2.2.2.2.2.1
theorem G.areturn {M : g_M} {k n pc : Nat} {lv : List (Nat × Value)} {ws : List va_E} {i : Nat} {rt : FieldType} (hd : decode M.1 pc = .ok (.areturn, 1)) (hr : M.2.2.2.1 = some rt) (hrt : (∃ n, rt = .object n) ∨ ∃ t, rt = .array t) (hk : Nat.ble k M.2.2.2.2.2.1 = true) (hn : Nat.ble n M.2.2.2.2.2.2 = true) : G M k n pc lv [.ref i] ws (some (.ref i)) ws := by
  intro p l e s m args below meth c D cid A n0 ad0 C ad ls H locs hq hl hP hD hS
  refine W.widen (k := M.2.2.2.2.2.1) (n := M.2.2.2.2.2.2) (Nat.le_of_ble_eq_true hk) (Nat.le_of_ble_eq_true hn) ?_
  exact W.aret (v := .ref (ad i)) C.1 C.2.1 (C.2.2.1.trans hr) hrt (Or.inr ⟨_, rfl⟩) (fun t ht hW => ⟨⟨ad, hq, rfl, by rw [ht]; exact hP, va_K.moved hW.alike C.2.2.2.2.2.2.2.1, hD⟩, hS.F ht⟩) hS.2.2 hd C.2.2.2.2.2.2.1
theorem G.lvp {M : g_M} {k n pc : Nat} {lv : List (Nat × Value)} {st : List Value} {ws : List va_E} {r : Option Value} {ws' : List va_E} {lv1 : List (Nat × Value)} (ks : List Nat) (h : lv_pick lv ks = lv1) (kk : G M k n pc lv1 st ws r ws') : G M k n pc lv st ws r ws' := by
  intro p l e s m args below meth c D cid A n0 ad0 C ad ls H locs hq hl hP hD hS
  have hl : lv_has ls M.2.1 (lv1.map (g_tl ad)) := lv_sub hl ks (by rw [← h]; simp [lv_pick, List.map_filterMap])
  exact (kk p l e s m args below meth c D cid A n0 ad0 C ad ls H locs hq hl hP hD hS)
theorem g_tabmiss {x : Int32} {lo hi : Int} (hlo : -2147483648 ≤ lo) (hhi : hi ≤ 2147483647) (h : ∀ v : Int, lo ≤ v → v ≤ hi → x ≠ Int32.ofInt v) : x.toInt < lo ∨ hi < x.toInt := by
  rcases Int.lt_or_le x.toInt lo with h1 | h1
  · exact Or.inl h1
  · rcases Int.lt_or_le hi x.toInt with h2 | h2
    · exact Or.inr h2
    · exact absurd (Int32.ofInt_toInt x).symm (h x.toInt h1 h2)
theorem g_toInt_ne {x v : Int32} {z : Int} (h : ¬ x = v) (hz : v.toInt = z) : ¬ x.toInt = z := fun e => h (Int32.toInt_inj.mp (e.trans hz.symm))
theorem g_lkmiss {dflt x : Int} : ∀ {ps : List (Int × Int)}, ps.all (fun q => decide (¬ x = q.1)) = true → Op.lookupswitch.offset ps dflt x = dflt
  | [], _ => rfl
  | q :: ps, h => by
    simp only [List.all_cons, Bool.and_eq_true, decide_eq_true_eq] at h
    have ih := g_lkmiss (dflt := dflt) (x := x) (ps := ps) (by simpa using h.2)
    simp only [Op.lookupswitch.offset] at ih ⊢
    simp [h.1, Ne.symm h.1, ih]
end
section
def TG (ws : List Cond) : Prop := ∀ w ∈ ws, (w.onTables && w.keeps) = true ∨ ∃ ty, w = .arrayClass ty
theorem tg1 {a : List Cond} (h : a.all goodWord = true) : TG a := fun w hw => good_of_word (List.all_eq_true.mp h w hw)
theorem tg2 {a b : List Cond} (ha : TG a) (hb : TG b) : TG (a ++ b) := fun w h => (List.mem_append.mp h).elim (ha w) (hb w)
theorem tg_TT0 : TT0.all goodWord = true := by decide +kernel
theorem tg_TT1 : TT1.all goodWord = true := by decide +kernel
theorem tg_TT2 : TT2.all goodWord = true := by decide +kernel
theorem tg_TT3 : TT3.all goodWord = true := by decide +kernel
theorem tg_TT4 : TT4.all goodWord = true := by decide +kernel
theorem tg_TT5 : TT5.all goodWord = true := by decide +kernel
theorem tg_TT6 : TT6.all goodWord = true := by decide +kernel
theorem tg_TT7 : TT7.all goodWord = true := by decide +kernel
theorem tg_TT8 : TT8.all goodWord = true := by decide +kernel
theorem tg_TT9 : TT9.all goodWord = true := by decide +kernel
theorem tg_TT10 : TT10.all goodWord = true := by decide +kernel
theorem tg_TT11 : TT11.all goodWord = true := by decide +kernel
theorem tg_TT12 : TT12.all goodWord = true := by decide +kernel
theorem tg_TT13 : TT13.all goodWord = true := by decide +kernel
theorem tg_TT14 : TT14.all goodWord = true := by decide +kernel
theorem tg_TT15 : TT15.all goodWord = true := by decide +kernel
theorem tg_TT16 : TT16.all goodWord = true := by decide +kernel
theorem tg_TT17 : TT17.all goodWord = true := by decide +kernel
theorem tg_TT18 : TT18.all goodWord = true := by decide +kernel
theorem tg_TT19 : TT19.all goodWord = true := by decide +kernel
theorem tg_TT20 : TT20.all goodWord = true := by decide +kernel
theorem tg_TT21 : TT21.all goodWord = true := by decide +kernel
theorem tg_TT22 : TT22.all goodWord = true := by decide +kernel
theorem tg_TT23 : TT23.all goodWord = true := by decide +kernel
theorem tg_TT24 : TT24.all goodWord = true := by decide +kernel
theorem tg_TT25 : TT25.all goodWord = true := by decide +kernel
theorem tg_TT26 : TT26.all goodWord = true := by decide +kernel
theorem tg_TT27 : TT27.all goodWord = true := by decide +kernel
theorem tg_TT28 : TT28.all goodWord = true := by decide +kernel
theorem tg_TT29 : TT29.all goodWord = true := by decide +kernel
theorem tg_TT30 : TT30.all goodWord = true := by decide +kernel
theorem tg_TT31 : TT31.all goodWord = true := by decide +kernel
theorem tg_TT32 : TT32.all goodWord = true := by decide +kernel
theorem tg_TT33 : TT33.all goodWord = true := by decide +kernel
theorem tg_TT34 : TT34.all goodWord = true := by decide +kernel
theorem tg_TT35 : TT35.all goodWord = true := by decide +kernel
theorem tg_TT36 : TT36.all goodWord = true := by decide +kernel
theorem tg_wsX00 : wsX00.all goodWord = true := by decide +kernel
theorem tg_wsX20 : wsX20.all goodWord = true := by decide +kernel
theorem tg_wsX30 : wsX30.all goodWord = true := by decide +kernel
theorem tg_wsX60 : wsX60.all goodWord = true := by decide +kernel
theorem tg_wsX70 : wsX70.all goodWord = true := by decide +kernel
theorem tg_wsX80 : wsX80.all goodWord = true := by decide +kernel
theorem tg_wsX90 : wsX90.all goodWord = true := by decide +kernel
theorem tg_wsX100 : wsX100.all goodWord = true := by decide +kernel
theorem tg_wsX110 : wsX110.all goodWord = true := by decide +kernel
theorem tg_TT : TG TT := by
  unfold TT
  exact tg2 (tg1 tg_TT0) (tg2 (tg1 tg_TT1) (tg2 (tg1 tg_TT2) (tg2 (tg1 tg_TT3) (tg2 (tg1 tg_TT4) (tg2 (tg1 tg_TT5) (tg2 (tg1 tg_TT6) (tg2 (tg1 tg_TT7) (tg2 (tg1 tg_TT8) (tg2 (tg1 tg_TT9) (tg2 (tg1 tg_TT10) (tg2 (tg1 tg_TT11) (tg2 (tg1 tg_TT12) (tg2 (tg1 tg_TT13) (tg2 (tg1 tg_TT14) (tg2 (tg1 tg_TT15) (tg2 (tg1 tg_TT16) (tg2 (tg1 tg_TT17) (tg2 (tg1 tg_TT18) (tg2 (tg1 tg_TT19) (tg2 (tg1 tg_TT20) (tg2 (tg1 tg_TT21) (tg2 (tg1 tg_TT22) (tg2 (tg1 tg_TT23) (tg2 (tg1 tg_TT24) (tg2 (tg1 tg_TT25) (tg2 (tg1 tg_TT26) (tg2 (tg1 tg_TT27) (tg2 (tg1 tg_TT28) (tg2 (tg1 tg_TT29) (tg2 (tg1 tg_TT30) (tg2 (tg1 tg_TT31) (tg2 (tg1 tg_TT32) (tg2 (tg1 tg_TT33) (tg2 (tg1 tg_TT34) (tg2 (tg1 tg_TT35) (tg2 (tg1 tg_TT36) (tg2 (tg1 tg_wsX00) (tg2 (tg1 tg_wsX20) (tg2 (tg1 tg_wsX30) (tg2 (tg1 tg_wsX60) (tg2 (tg1 tg_wsX70) (tg2 (tg1 tg_wsX80) (tg2 (tg1 tg_wsX90) (tg2 (tg1 tg_wsX100) (tg1 tg_wsX110)))))))))))))))))))))))))))))))))))))))))))))
theorem tg_in {ws : List Cond} (h : ∀ w ∈ ws, w ∈ TT) : GoodIn TT ws := fun w hw => ⟨h w hw, tg_TT w (h w hw)⟩
/-- a callee's cells, written with the caller's places -/
def g_rn (is : List Nat) (j : Nat) : Nat := (is[j]?).getD j
def g_re (is : List Nat) (e : va_E) : va_E := g_te (g_rn is) (fun x => x) e
def g_rv (is : List Nat) (v : Value) : Value := g_tv (g_rn is) v
def g_pt : List Nat → List va_E → List va_E → List va_E
  | i :: is, e :: es, ws => g_pt is es (ws.set i e)
  | _, _, ws => ws
theorem g_tv_tv (ad f : Nat → Nat) (v : Value) : g_tv ad (g_tv f v) = g_tv (fun j => ad (f j)) v := by cases v <;> rfl
theorem g_te_te (ad f : Nat → Nat) (cid : Nat → ClassId) (e : va_E) : g_te ad cid (g_te f (fun x => x) e) = g_te (fun j => ad (f j)) cid e := by
  rcases e with ⟨k, n, x⟩ | ⟨ci, fs⟩
  · rcases x with x | x | x | x | x <;> simp [g_te, g_ta, Function.comp_def]
  · simp [g_te, Function.comp_def, g_tv_tv]
theorem g_pt_len : ∀ (is : List Nat) (es ws : List va_E), (g_pt is es ws).length = ws.length
  | [], _, _ => by simp [g_pt]
  | _ :: _, [], _ => by simp [g_pt]
  | i :: is, e :: es, ws => by simp [g_pt, g_pt_len is es]
theorem g_pt_get : ∀ (is : List Nat) (es ws : List va_E) (i : Nat) (e : va_E), (g_pt is es ws)[i]? = some e → is.length = es.length → (∃ j : Nat, is[j]? = some i ∧ es[j]? = some e) ∨ (i ∉ is ∧ ws[i]? = some e)
  | [], es, ws, i, e, h, _ => by
    simp [g_pt] at h
    exact Or.inr ⟨by simp, h⟩
  | _ :: _, [], _, _, _, _, h => by simp at h
  | i0 :: is, e0 :: es, ws, i, e, h, hl => by
    rw [g_pt] at h
    rcases g_pt_get is es (ws.set i0 e0) i e h (by simpa using hl) with ⟨j, h1, h2⟩ | ⟨h1, h2⟩
    · exact Or.inl ⟨j + 1, by simpa using h1, by simpa using h2⟩
    · rw [List.getElem?_set] at h2
      by_cases hi : i0 = i
      · subst hi
        rw [if_pos rfl] at h2
        by_cases hl2 : i0 < ws.length
        · rw [if_pos hl2] at h2
          cases h2
          exact Or.inl ⟨0, rfl, rfl⟩
        · rw [if_neg hl2] at h2
          cases h2
      · rw [if_neg hi] at h2
        exact Or.inr ⟨by simp [Ne.symm hi, h1], h2⟩
theorem g_D_len {A : Nat → Prop} {ad : Nat → Nat} {cid : Nat → ClassId} {ws ws1 : List va_E} (hl : ws1.length = ws.length) (h : va_D A (g_mk ad cid ws)) : va_D A (g_mk ad cid ws1) := by
  have hx : ∀ (i : Nat) (q : Nat × va_E), (g_mk ad cid ws1)[i]? = some q → ∃ q0 : Nat × va_E, (g_mk ad cid ws)[i]? = some q0 ∧ q0.1 = q.1 := by
    intro i q hq
    obtain ⟨e, h1, rfl⟩ := g_get' ad cid hq
    have hi : i < ws.length := by
      have := (List.getElem?_eq_some_iff.mp h1).1
      omega
    exact ⟨_, g_get ad cid (List.getElem?_eq_getElem hi), rfl⟩
  refine ⟨fun i j p q hp hq hpq => ?_, fun i q hq => ?_⟩
  · obtain ⟨p0, h1, h2⟩ := hx i p hp
    obtain ⟨q0, h3, h4⟩ := hx j q hq
    exact h.1 i j p0 q0 h1 h3 (by rw [h2, h4, hpq])
  · obtain ⟨q0, h1, h2⟩ := hx i q hq
    rw [← h2]
    exact h.2 i q0 h1
/-- the callee's world among the caller's -/
theorem g_sub {ad : Nat → Nat} {cid : Nat → ClassId} {ws wc : List va_E} {is : List Nat} (hw : is.map (fun i => ws[i]?) = (wc.map (g_re is)).map some) : is.map (fun i => (g_mk ad cid ws)[i]?) = (g_mk (fun j => ad (g_rn is j)) cid wc).map some := by
  apply List.ext_getElem?
  intro j
  have h := congrArg (fun l => l[j]?) hw
  simp only [List.getElem?_map] at h ⊢
  cases hi : is[j]? with
  | none =>
    rw [hi] at h
    cases hc : wc[j]? with
    | none => simp [g_mk, hc]
    | some e => rw [hc] at h; simp at h
  | some i =>
    rw [hi] at h
    cases hc : wc[j]? with
    | none => rw [hc] at h; simp at h
    | some e =>
      rw [hc] at h
      simp only [Option.map_some, Option.some.injEq] at h
      have hr : g_rn is j = i := by simp [g_rn, hi]
      simp only [Option.map_some, g_get ad cid h, g_get (fun j => ad (g_rn is j)) cid hc]
      rw [g_re, g_te_te, hr]
section GCall
variable {p : Program} {l : Launch} {e : Env} {R : Room} {s : State} {m : MethodId} {args : Array Value} {below : List Frame} {meth : Method} {c : Code} {H : Heap} {locs : List Loc} {Q : State → Prop}
theorem g_after {k n pc : Nat} {ls : Array Slot} {st0 rest0 : List Value} {a : Array Value} {D : va_G} {cid : Nat → ClassId} {A : Nat → Prop} {ad : Nat → Nat} {ws wc wc1 : List va_E} {is : List Nat} {r1 : Option Value}
    (hr : va_Run p l e R s m args below meth c H locs k n 0 0 (F0 m pc ls st0) rest0 (g_Q D cid (va_A (g_mk (fun j => ad (g_rn is j)) cid wc) H.size) 1000 (fun j => ad (g_rn is j)) r1 wc1 a) (va_A (g_mk (fun j => ad (g_rn is j)) cid wc) H.size))
    (hw : is.map (fun i => ws[i]?) = (wc.map (g_re is)).map some) (hlen : wc1.length = wc.length) (hA : ∀ q, s.heap.size ≤ q → A q) (hP : va_P D vwCl (g_mk ad cid ws) H) (hD : va_D A (g_mk ad cid ws)) (hS : va_S A s.heap H locs)
    (kk : ∀ (H1 : Heap) (locs1 : List Loc), va_P D vwCl (g_mk ad cid (g_pt is (wc1.map (g_re is)) ws)) H1 → va_D A (g_mk ad cid (g_pt is (wc1.map (g_re is)) ws)) → va_S A s.heap H1 locs1 → W p l e R s m args below meth c H1 locs1 k n Q (F0 m (pc + 3) ls ((r1.map (g_tv (fun j => ad (g_rn is j)))).toList ++ rest0))) :
    W p l e R s m args below meth c H locs k n Q (F0 m pc ls st0) := by
  intro T hT X
  obtain ⟨v, st₀, t, T', L, h0, X', hL, e1, e2, ⟨⟨ad', hq', hv, hP1, hK1, hD1⟩, hz, hk⟩, st⟩ := hr T hT X
  have hF := va_free (wc := g_mk (fun j => ad (g_rn is j)) cid wc) hD hS hA is (g_sub hw)
  rw [g_eq_all hq'] at hv hP1 hD1
  cases hv
  rw [h0] at hz hk
  have hlw : is.length = (wc1.map (g_re is)).length := by
    have := congrArg List.length hw
    simp at this
    simp [this, hlen]
  have hP2 : va_P D vwCl (g_mk ad cid (g_pt is (wc1.map (g_re is)) ws)) t.heap := by
    intro i q hq
    obtain ⟨e0, h1, rfl⟩ := g_get' ad cid hq
    rcases g_pt_get is _ ws i e0 h1 hlw with ⟨j, h2, h3⟩ | ⟨h2, h3⟩
    · rw [List.getElem?_map, Option.map_eq_some_iff] at h3
      obtain ⟨e3, h4, rfl⟩ := h3
      have h5 := hP1 j _ (g_get _ cid h4)
      have hr9 : g_rn is j = i := by simp [g_rn, h2]
      rw [g_re, g_te_te]
      rw [hr9] at h5
      exact h5
    · have h4 := hP i _ (g_get ad cid h3)
      have h5 := h4.lt
      refine h4.kept ?_
      refine hk _ h5 (fun hA1 => ?_)
      rcases hA1 with ⟨j, e3, h6⟩ | h6
      · obtain ⟨e4, h7, h8⟩ := g_get' _ cid h6
        have h9 : is[j]? = some (g_rn is j) := by
          have := (List.getElem?_eq_some_iff.mp h7).1
          have hj : j < is.length := by
            have h10 := congrArg List.length hw
            simp at h10
            omega
          simp [g_rn, List.getElem?_eq_getElem hj]
        have h10 := g_sub (ad := ad) (cid := cid) hw
        have h11 := congrArg (fun l => l[j]?) h10
        simp only [List.getElem?_map, h9, Option.map_some, g_get (fun j => ad (g_rn is j)) cid h7, Option.some.injEq] at h11
        have h12 := hD.1 i (g_rn is j) _ _ (g_get ad cid h3) h11 (by simpa using (congrArg Prod.fst h8))
        exact h2 (h12 ▸ List.mem_of_getElem? h9)
      · exact absurd h5 (Nat.not_lt.mpr h6)
  obtain ⟨t2, a1, b1⟩ := kk T'.heap (locs ++ L) (by rw [e1]; exact hP2) (g_D_len (g_pt_len _ _ _) hD)
    ⟨Nat.le_trans hS.1 (by rw [e1]; exact hz), fun q h1 h2 => by rw [e1, hk q (Nat.lt_of_lt_of_le h1 hS.1) (fun z => h2 (hF q z))]; exact hS.2.1 q h1 h2, fun q hq => by
      rcases List.mem_append.mp hq with h | h
      · exact hS.2.2 q h
      · exact hF _ (hL q h)⟩ T' rfl X'
  exact ⟨t2, st t2 a1, b1⟩
end GCall
/-- what a call of y stands on, but the worlds: a static call, a call on an object, one of a private method of the nest -/
def g_cs (M : g_M) (idx : Nat) (M1 : g_M) (y : MethodName) (n : Nat) : Prop := Cond.methodLink M.2.2.1 idx y ∈ TT ∧ Cond.static y ∈ TT ∧ Cond.initialized y.cls ∈ TT ∧ Cond.code y M1.1 M1.2.1 M1.2.2.2.1 ∈ TT ∧ (M1.2.2.2.2.1.cells = 0 ∧ M1.2.2.2.2.1.slots = 0 ∧ M1.2.2.2.2.2.1 = 0 ∧ M1.2.2.2.2.2.2 = 0) ∧ (y.cls ≠ "java/lang/invoke/MethodHandle" ∧ y.cls ≠ "java/lang/invoke/VarHandle" ∧ (parseMethodDescriptor y.desc).map (fun d => d.parameters.length) = some n) ∧ (M1.2.2.2.2.1.frames + 1 ≤ M.2.2.2.2.1.frames ∧ 8 + (M1.2.1 + 11) + M1.2.2.2.2.1.locals ≤ M.2.2.2.2.1.locals)
def g_cv (M : g_M) (idx : Nat) (M1 : g_M) (y : MethodName) (n : Nat) : Prop := Cond.methodLink M.2.2.1 idx y ∈ TT ∧ Cond.instanceMethod y ∈ TT ∧ Cond.selects y.cls y y ∈ TT ∧ Cond.initialized y.cls ∈ TT ∧ Cond.code y M1.1 M1.2.1 M1.2.2.2.1 ∈ TT ∧ (M1.2.2.2.2.1.cells = 0 ∧ M1.2.2.2.2.1.slots = 0 ∧ M1.2.2.2.2.2.1 = 0 ∧ M1.2.2.2.2.2.2 = 0) ∧ (y.cls ≠ "java/lang/invoke/MethodHandle" ∧ y.cls ≠ "java/lang/invoke/VarHandle" ∧ (parseMethodDescriptor y.desc).map (fun d => d.parameters.length) = some n) ∧ (M1.2.2.2.2.1.frames + 1 ≤ M.2.2.2.2.1.frames ∧ 8 + (M1.2.1 + 11) + M1.2.2.2.2.1.locals ≤ M.2.2.2.2.1.locals)
def g_csn (M : g_M) (idx : Nat) (M1 : g_M) (y : MethodName) (n : Nat) : Prop := Cond.methodLinkNest M.2.2.1 idx y "TimedThreads" ∈ g_nn ∧ Cond.static y ∈ TT ∧ Cond.initialized y.cls ∈ TT ∧ Cond.code y M1.1 M1.2.1 M1.2.2.2.1 ∈ TT ∧ (M1.2.2.2.2.1.cells = 0 ∧ M1.2.2.2.2.1.slots = 0 ∧ M1.2.2.2.2.2.1 = 0 ∧ M1.2.2.2.2.2.2 = 0) ∧ (y.cls ≠ "java/lang/invoke/MethodHandle" ∧ y.cls ≠ "java/lang/invoke/VarHandle" ∧ (parseMethodDescriptor y.desc).map (fun d => d.parameters.length) = some n) ∧ (M1.2.2.2.2.1.frames + 1 ≤ M.2.2.2.2.1.frames ∧ 8 + (M1.2.1 + 11) + M1.2.2.2.2.1.locals ≤ M.2.2.2.2.1.locals)
theorem g_blind (D : va_G) (cid : Nat → ClassId) (ad : Nat → Nat) (sz : Nat) (as : List Value) (ws : List va_E) : FrameBlind (g_Pc D cid ad sz as ws) := fun a U g mk q => by
  obtain ⟨q0, q1, qP, qK, qD, qB, qN⟩ := q
  exact ⟨q0, q1, qP, va_K.moved (u := U) (U := U.calling g mk a) (Vm.Alike.refl U.vm) qK, qD, g_B.moved (u := U) (U := U.calling g mk a) (Vm.Alike.refl U.vm) qB, g_N.same (u := U) (U := U.calling g mk a) rfl qN⟩
theorem g_pre {M : g_M} {p : Program} {s : State} {m : MethodId} {args : Array Value} {meth : Method} {c : Code} {D : va_G} {cid : Nat → ClassId} {A : Nat → Prop} {n0 : Nat} {ad0 ad : Nat → Nat} {H : Heap} {locs : List Loc} {ws wc : List va_E} {is : List Nat} {as : List Value} {As : List Value}
    (C : g_Cx M p s m args meth c D cid A ad0) (hq : g_eq n0 ad ad0) (hP : va_P D vwCl (g_mk ad cid ws) H) (hD : va_D A (g_mk ad cid ws)) (hS : va_S A s.heap H locs)
    (hw : is.map (fun i => ws[i]?) = (wc.map (g_re is)).map some) (hnd : va_nd is = true) (hle : is.length ≤ 1000) (hAs : As = as.map (g_tv (fun j => ad (g_rn is j)))) :
    ∀ U : State, U.heap = H → s.WarmedH U.vm → g_Pc D cid (fun j => ad (g_rn is j)) H.size as wc As.toArray U := by
  intro U hU hW
  have hF := va_free (wc := g_mk (fun j => ad (g_rn is j)) cid wc) hD hS C.2.2.2.2.2.2.2.2.1 is (g_sub hw)
  subst hAs
  refine ⟨rfl, by rw [hU], ?_, va_K.moved hW.alike C.2.2.2.2.2.2.2.1, ?_, ?_, g_N.warm hW C.2.2.2.2.2.2.2.2.2.2⟩
  · rw [hU]
    intro j q hj
    have h := congrArg (fun l => l[j]?) (g_sub (ad := ad) (cid := cid) hw)
    simp only [List.getElem?_map, hj, Option.map_some] at h
    cases hi : is[j]? with
    | none => rw [hi] at h; simp at h
    | some i =>
      rw [hi] at h
      simp only [Option.map_some, Option.some.injEq] at h
      exact hP i q h
  · exact (hD.sub is hnd (g_sub hw)).weaken (fun _ _ _ _ => trivial)
  · have h1 := C.2.2.2.2.2.2.2.2.2.1.kept hS.2.1
    have h2 := (h1.narrow hF).moved hW.alike
    rw [hU]
    refine h2.at (fun i hi => ?_)
    have : g_rn is i = i := by
      have : is[i]? = none := by simp; omega
      simp [g_rn, this]
    rw [this, hq i (Or.inr hi)]
theorem G.callS {M : g_M} {k n pc : Nat} {lv : List (Nat × Value)} {st : List Value} {ws : List va_E} {r : Option Value} {ws' : List va_E} {M1 : g_M} {y : MethodName} {as rest : List Value} {wc wc1 ws1 : List va_E} {r1 : Option Value} {st1 : List Value} {idx : Nat} (is : List Nat) (hd : decode M.1 pc = .ok (.invokestatic idx, 3)) (hc : g_cs M idx M1 y as.length) (hM : K M1 y as wc r1 wc1) (hst : (as.map (g_rv is)).reverse ++ rest = st) (hw : is.map (fun i => ws[i]?) = (wc.map (g_re is)).map some) (hnd : (va_nd is && Nat.ble is.length 1000 && Nat.beq wc1.length wc.length) = true) (hk9 : Nat.ble k M.2.2.2.2.1.cells = true) (hn9 : Nat.ble n M.2.2.2.2.1.slots = true) (hcat : Nat.ble (rest.map fun v => v.category).sum 8 = true) (hs1 : (r1.map (g_rv is)).toList ++ rest = st1) (hw1 : g_pt is (wc1.map (g_re is)) ws = ws1) (kk : G M k n (pc + 3) lv st1 ws1 r ws') : G M k n pc lv st ws r ws' := by
  intro p l e s m args below meth c D cid A n0 ad0 C ad ls H locs hq hl hP hD hS
  simp only [Bool.and_eq_true] at hnd
  obtain ⟨⟨hnd1, hnd2⟩, hnd3⟩ := hnd
  have hK := hM l D cid (fun j => ad (g_rn is j)) H.size
  obtain ⟨c1, c2, c3, c4, ⟨c5, c6, c7, c8⟩, c9, c10⟩ := hc
  rw [show g_n0 M1 wc = 1000 by simp [g_n0, c7], c7, c8] at hK
  have hcw := va_cwS (R := M.2.2.2.2.1) (s := s) (args := args) (own := M.2.2.1) (index := idx) (y := y) (bytes := M1.1) (maxL := M1.2.1) (ret := M1.2.2.2.1) (Ts := TT) (ws := Cond.code y M1.1 M1.2.1 M1.2.2.2.1 :: TT) (ws' := TT) (rm := M1.2.2.2.2.1) as.length C.2.2.2.2.2.1 (tg_in (fun w h => by
    simp only [va_wsS, List.mem_append, List.mem_cons, List.not_mem_nil, or_false] at h
    rcases h with (rfl | rfl | rfl) | rfl | h <;> first | assumption)) rfl c5 c6 c9 c10
  subst hst
  refine g_after (ad := ad) (is := is) (ws := ws) (va_runS (As := as.map (g_tv (fun j => ad (g_rn is j)))) (rest := rest.map (g_tv ad)) (nL := M.2.1) (Ts := TT) ⟨C.1, C.2.1, C.2.2.2.1, C.2.2.2.2.1, C.2.2.2.2.2.1⟩ hK hcw ⟨g_blind _ _ _ _ _ _, g_pre C hq hP hD hS hw hnd1 (Nat.le_of_ble_eq_true hnd2) rfl⟩ rfl (by simp) hl.1 (by simp [g_rv, g_tv_tv, Function.comp_def]) (lv_room (by rw [List.map_map]; simp only [Function.comp_def, g_catv]; exact Nat.le_of_ble_eq_true hcat)) hd ⟨?_, ?_⟩) hw (Nat.eq_of_beq_eq_true hnd3) C.2.2.2.2.2.2.2.2.1 hP hD hS ?_
  · exact Nat.le_of_ble_eq_true hk9
  · exact Nat.le_of_ble_eq_true hn9
  · intro H locs hP hD hS
    rw [hw1] at hP hD
    have h9 := kk p l e s m args below meth c D cid A n0 ad0 C ad ls H locs hq hl hP hD hS
    rw [← hs1, show ((r1.map (g_rv is)).toList ++ rest).map (g_tv ad) = (r1.map (g_tv (fun j => ad (g_rn is j)))).toList ++ rest.map (g_tv ad) by cases r1 <;> simp [g_rv, g_tv_tv]] at h9
    exact h9
theorem G.callV {M : g_M} {k n pc : Nat} {lv : List (Nat × Value)} {st : List Value} {ws : List va_E} {r : Option Value} {ws' : List va_E} {M1 : g_M} {y : MethodName} {as rest : List Value} {wc wc1 ws1 : List va_E} {r1 : Option Value} {st1 : List Value} {idx : Nat} {j0 ci : Nat} {fs : List Value} {T0 : u_T} {N0 : Nat} (is : List Nat) (hd : decode M.1 pc = .ok (.invokevirtual idx, 3)) (hc : g_cv M idx M1 y as.length) (hM : K M1 y (.ref j0 :: as) wc r1 wc1) (hj : wc[j0]? = some (.inr (ci, fs))) (hcl : vwCl[ci]? = some (y.cls, T0, N0)) (hst : (as.map (g_rv is)).reverse ++ .ref (g_rn is j0) :: rest = st) (hw : is.map (fun i => ws[i]?) = (wc.map (g_re is)).map some) (hnd : (va_nd is && Nat.ble is.length 1000 && Nat.beq wc1.length wc.length) = true) (hk9 : Nat.ble k M.2.2.2.2.1.cells = true) (hn9 : Nat.ble n M.2.2.2.2.1.slots = true) (hcat : Nat.ble (rest.map fun v => v.category).sum 8 = true) (hs1 : (r1.map (g_rv is)).toList ++ rest = st1) (hw1 : g_pt is (wc1.map (g_re is)) ws = ws1) (kk : G M k n (pc + 3) lv st1 ws1 r ws') : G M k n pc lv st ws r ws' := by
  intro p l e s m args below meth c D cid A n0 ad0 C ad ls H locs hq hl hP hD hS
  simp only [Bool.and_eq_true] at hnd
  obtain ⟨⟨hnd1, hnd2⟩, hnd3⟩ := hnd
  have hK := hM l D cid (fun j => ad (g_rn is j)) H.size
  obtain ⟨c1, c2, c2b, c3, c4, ⟨c5, c6, c7, c8⟩, c9, c10⟩ := hc
  rw [show g_n0 M1 wc = 1000 by simp [g_n0, c7], c7, c8] at hK
  have hcw := cwV (R := M.2.2.2.2.1) (s := s) (args := args) (own := M.2.2.1) (C := y.cls) (index := idx) (y := y) (bytes := M1.1) (maxL := M1.2.1) (ret := M1.2.2.2.1) (Ts := TT) (ws := Cond.code y M1.1 M1.2.1 M1.2.2.2.1 :: TT) (ws' := TT) (rm := M1.2.2.2.2.1) as.length C.2.2.2.2.2.1 (tg_in (fun w h => by
    simp only [wsV, List.mem_append, List.mem_cons, List.not_mem_nil, or_false] at h
    rcases h with (rfl | rfl | rfl | rfl) | rfl | h <;> first | assumption)) rfl c5 c6 ⟨rfl, c9⟩ c10
  subst hst
  have hpre := g_pre (as := .ref j0 :: as) C hq hP hD hS hw hnd1 (Nat.le_of_ble_eq_true hnd2) rfl
  have hrecv : ∃ cellB : Cell, H[ad (g_rn is j0)]? = some cellB ∧ cellB.vm.isStatics = false ∧ s.vm.findClass y.cls = some cellB.cls := by
    have h := congrArg (fun l => l[j0]?) (g_sub (ad := ad) (cid := cid) hw)
    simp only [List.getElem?_map, g_get (fun j => ad (g_rn is j)) cid hj, Option.map_some] at h
    cases hi : is[j0]? with
    | none => rw [hi] at h; simp at h
    | some i =>
      rw [hi] at h
      simp only [Option.map_some, Option.some.injEq] at h
      exact va_recv C.2.2.2.2.2.2.2.1 hP hcl h
  refine g_after (ad := ad) (is := is) (ws := ws) (va_runV (b := ad (g_rn is j0)) (C := y.cls) (As := as.map (g_tv (fun j => ad (g_rn is j)))) (rest := rest.map (g_tv ad)) (nL := M.2.1) (Ts := TT) ⟨C.1, C.2.1, C.2.2.2.1, C.2.2.2.2.1, C.2.2.2.2.2.1⟩ hK hcw ⟨g_blind _ _ _ _ _ _, hrecv, hpre⟩ rfl (by simp) hl.1 (by simp only [List.map_append, List.map_reverse, List.map_map, List.map_cons, g_rv, Function.comp_def, g_tv_tv]; rfl) (lv_room (by rw [List.map_map]; simp only [Function.comp_def, g_catv]; exact Nat.le_of_ble_eq_true hcat)) hd ⟨?_, ?_⟩) hw (Nat.eq_of_beq_eq_true hnd3) C.2.2.2.2.2.2.2.2.1 hP hD hS ?_
  · exact Nat.le_of_ble_eq_true hk9
  · exact Nat.le_of_ble_eq_true hn9
  · intro H locs hP hD hS
    rw [hw1] at hP hD
    have h9 := kk p l e s m args below meth c D cid A n0 ad0 C ad ls H locs hq hl hP hD hS
    rw [← hs1, show ((r1.map (g_rv is)).toList ++ rest).map (g_tv ad) = (r1.map (g_tv (fun j => ad (g_rn is j)))).toList ++ rest.map (g_tv ad) by cases r1 <;> simp [g_rv, g_tv_tv]] at h9
    exact h9
theorem G.callSN {M : g_M} {k n pc : Nat} {lv : List (Nat × Value)} {st : List Value} {ws : List va_E} {r : Option Value} {ws' : List va_E} {M1 : g_M} {y : MethodName} {as rest : List Value} {wc wc1 ws1 : List va_E} {r1 : Option Value} {st1 : List Value} {idx : Nat} (is : List Nat) (hd : decode M.1 pc = .ok (.invokestatic idx, 3)) (hc : g_csn M idx M1 y as.length) (hM : K M1 y as wc r1 wc1) (hst : (as.map (g_rv is)).reverse ++ rest = st) (hw : is.map (fun i => ws[i]?) = (wc.map (g_re is)).map some) (hnd : (va_nd is && Nat.ble is.length 1000 && Nat.beq wc1.length wc.length) = true) (hk9 : Nat.ble k M.2.2.2.2.1.cells = true) (hn9 : Nat.ble n M.2.2.2.2.1.slots = true) (hcat : Nat.ble (rest.map fun v => v.category).sum 8 = true) (hs1 : (r1.map (g_rv is)).toList ++ rest = st1) (hw1 : g_pt is (wc1.map (g_re is)) ws = ws1) (kk : G M k n (pc + 3) lv st1 ws1 r ws') : G M k n pc lv st ws r ws' := by
  intro p l e s m args below meth c D cid A n0 ad0 C ad ls H locs hq hl hP hD hS
  simp only [Bool.and_eq_true] at hnd
  obtain ⟨⟨hnd1, hnd2⟩, hnd3⟩ := hnd
  have hK := hM l D cid (fun j => ad (g_rn is j)) H.size
  obtain ⟨c1, c2, c3, c4, ⟨c5, c6, c7, c8⟩, c9, c10⟩ := hc
  rw [show g_n0 M1 wc = 1000 by simp [g_n0, c7], c7, c8] at hK
  have hcw := va_cnB (R := M.2.2.2.2.1) (s := s) (args := args) (own := M.2.2.1) (host := "TimedThreads") (index := idx) (y := y) (bytes := M1.1) (maxL := M1.2.1) (ret := M1.2.2.2.1) (Ts := TT) (ws := Cond.code y M1.1 M1.2.1 M1.2.2.2.1 :: TT) (ws' := TT) (rm := M1.2.2.2.2.1) as.length C.2.2.2.2.2.1 (tg_in (fun w h => by
    simp only [List.mem_cons] at h
    rcases h with rfl | h <;> assumption)) rfl c5 c6 (C.2.2.2.2.2.2.2.2.2.2 _ c1) (C.2.2.2.2.2.1 _ c3) c9 c10
  subst hst
  refine g_after (ad := ad) (is := is) (ws := ws) (va_runSN (As := as.map (g_tv (fun j => ad (g_rn is j)))) (rest := rest.map (g_tv ad)) (nL := M.2.1) (Ts := TT) ⟨C.1, C.2.1, C.2.2.2.1, C.2.2.2.2.1, C.2.2.2.2.2.1⟩ hK ⟨hcw, C.2.2.2.2.2.1 _ c2, trivial⟩ ⟨g_blind _ _ _ _ _ _, g_pre C hq hP hD hS hw hnd1 (Nat.le_of_ble_eq_true hnd2) rfl⟩ rfl (by simp) hl.1 (by simp [g_rv, g_tv_tv, Function.comp_def]) (lv_room (by rw [List.map_map]; simp only [Function.comp_def, g_catv]; exact Nat.le_of_ble_eq_true hcat)) hd ⟨?_, ?_⟩) hw (Nat.eq_of_beq_eq_true hnd3) C.2.2.2.2.2.2.2.2.1 hP hD hS ?_
  · exact Nat.le_of_ble_eq_true hk9
  · exact Nat.le_of_ble_eq_true hn9
  · intro H locs hP hD hS
    rw [hw1] at hP hD
    have h9 := kk p l e s m args below meth c D cid A n0 ad0 C ad ls H locs hq hl hP hD hS
    rw [← hs1, show ((r1.map (g_rv is)).toList ++ rest).map (g_tv ad) = (r1.map (g_tv (fun j => ad (g_rn is j)))).toList ++ rest.map (g_tv ad) by cases r1 <;> simp [g_rv, g_tv_tv]] at h9
    exact h9
end
section
theorem qb_m2 : (Int8.ofInt (-2)).toInt32 = (-2) := by decide
theorem qb_6 : (Int8.ofInt 6).toInt32 = 6 := by decide
theorem qb_7 : (Int8.ofInt 7).toInt32 = 7 := by decide
theorem qb_8 : (Int8.ofInt 8).toInt32 = 8 := by decide
theorem qb_9 : (Int8.ofInt 9).toInt32 = 9 := by decide
theorem qb_10 : (Int8.ofInt 10).toInt32 = 10 := by decide
theorem qb_11 : (Int8.ofInt 11).toInt32 = 11 := by decide
theorem qb_12 : (Int8.ofInt 12).toInt32 = 12 := by decide
theorem qb_14 : (Int8.ofInt 14).toInt32 = 14 := by decide
theorem qb_15 : (Int8.ofInt 15).toInt32 = 15 := by decide
theorem qb_16 : (Int8.ofInt 16).toInt32 = 16 := by decide
theorem qb_20 : (Int8.ofInt 20).toInt32 = 20 := by decide
theorem qb_21 : (Int8.ofInt 21).toInt32 = 21 := by decide
theorem qb_24 : (Int8.ofInt 24).toInt32 = 24 := by decide
theorem qb_25 : (Int8.ofInt 25).toInt32 = 25 := by decide
theorem qb_30 : (Int8.ofInt 30).toInt32 = 30 := by decide
theorem qb_31 : (Int8.ofInt 31).toInt32 = 31 := by decide
theorem qb_32 : (Int8.ofInt 32).toInt32 = 32 := by decide
theorem qb_40 : (Int8.ofInt 40).toInt32 = 40 := by decide
theorem qb_41 : (Int8.ofInt 41).toInt32 = 41 := by decide
theorem qb_44 : (Int8.ofInt 44).toInt32 = 44 := by decide
theorem qb_45 : (Int8.ofInt 45).toInt32 = 45 := by decide
theorem qb_48 : (Int8.ofInt 48).toInt32 = 48 := by decide
theorem qb_51 : (Int8.ofInt 51).toInt32 = 51 := by decide
theorem qb_57 : (Int8.ofInt 57).toInt32 = 57 := by decide
theorem qb_58 : (Int8.ofInt 58).toInt32 = 58 := by decide
theorem qb_59 : (Int8.ofInt 59).toInt32 = 59 := by decide
theorem qb_63 : (Int8.ofInt 63).toInt32 = 63 := by decide
theorem qb_64 : (Int8.ofInt 64).toInt32 = 64 := by decide
theorem qb_97 : (Int8.ofInt 97).toInt32 = 97 := by decide
theorem qb_98 : (Int8.ofInt 98).toInt32 = 98 := by decide
theorem qb_106 : (Int8.ofInt 106).toInt32 = 106 := by decide
theorem qb_111 : (Int8.ofInt 111).toInt32 = 111 := by decide
theorem qb_115 : (Int8.ofInt 115).toInt32 = 115 := by decide
theorem qb_120 : (Int8.ofInt 120).toInt32 = 120 := by decide
theorem qb_122 : (Int8.ofInt 122).toInt32 = 122 := by decide
theorem qb_126 : (Int8.ofInt 126).toInt32 = 126 := by decide
theorem qb_127 : (Int8.ofInt 127).toInt32 = 127 := by decide
theorem qi_m1 : Int32.ofInt (-1) = (-1) := by decide
theorem qi_0 : Int32.ofInt 0 = 0 := by decide
theorem qi_1 : Int32.ofInt 1 = 1 := by decide
theorem qi_2 : Int32.ofInt 2 = 2 := by decide
theorem qi_3 : Int32.ofInt 3 = 3 := by decide
theorem qi_4 : Int32.ofInt 4 = 4 := by decide
theorem qi_5 : Int32.ofInt 5 = 5 := by decide
theorem qs_m4096 : (Int16.ofInt (-4096)).toInt32 = (-4096) := by decide
theorem qs_128 : (Int16.ofInt 128).toInt32 = 128 := by decide
theorem qs_185 : (Int16.ofInt 185).toInt32 = 185 := by decide
theorem qs_192 : (Int16.ofInt 192).toInt32 = 192 := by decide
theorem qs_255 : (Int16.ofInt 255).toInt32 = 255 := by decide
theorem qs_306 : (Int16.ofInt 306).toInt32 = 306 := by decide
theorem qs_400 : (Int16.ofInt 400).toInt32 = 400 := by decide
theorem qs_401 : (Int16.ofInt 401).toInt32 = 401 := by decide
theorem qs_512 : (Int16.ofInt 512).toInt32 = 512 := by decide
theorem qs_564 : (Int16.ofInt 564).toInt32 = 564 := by decide
theorem qs_817 : (Int16.ofInt 817).toInt32 = 817 := by decide
theorem qs_887 : (Int16.ofInt 887).toInt32 = 887 := by decide
theorem qs_1023 : (Int16.ofInt 1023).toInt32 = 1023 := by decide
theorem qs_1589 : (Int16.ofInt 1589).toInt32 = 1589 := by decide
theorem qs_1651 : (Int16.ofInt 1651).toInt32 = 1651 := by decide
theorem qs_1782 : (Int16.ofInt 1782).toInt32 = 1782 := by decide
theorem qs_1851 : (Int16.ofInt 1851).toInt32 = 1851 := by decide
theorem qs_2000 : (Int16.ofInt 2000).toInt32 = 2000 := by decide
theorem qs_2016 : (Int16.ofInt 2016).toInt32 = 2016 := by decide
theorem qs_2046 : (Int16.ofInt 2046).toInt32 = 2046 := by decide
theorem qs_2048 : (Int16.ofInt 2048).toInt32 = 2048 := by decide
theorem qs_2234 : (Int16.ofInt 2234).toInt32 = 2234 := by decide
theorem qs_2360 : (Int16.ofInt 2360).toInt32 = 2360 := by decide
theorem qs_2865 : (Int16.ofInt 2865).toInt32 = 2865 := by decide
theorem qs_3637 : (Int16.ofInt 3637).toInt32 = 3637 := by decide
theorem qs_4094 : (Int16.ofInt 4094).toInt32 = 4094 := by decide
theorem qs_4096 : (Int16.ofInt 4096).toInt32 = 4096 := by decide
theorem qs_4147 : (Int16.ofInt 4147).toInt32 = 4147 := by decide
theorem qs_4402 : (Int16.ofInt 4402).toInt32 = 4402 := by decide
theorem qs_4660 : (Int16.ofInt 4660).toInt32 = 4660 := by decide
theorem qs_4913 : (Int16.ofInt 4913).toInt32 = 4913 := by decide
theorem qs_6450 : (Int16.ofInt 6450).toInt32 = 6450 := by decide
theorem qs_6961 : (Int16.ofInt 6961).toInt32 = 6961 := by decide
theorem qs_8243 : (Int16.ofInt 8243).toInt32 = 8243 := by decide
theorem qs_8498 : (Int16.ofInt 8498).toInt32 = 8498 := by decide
theorem qs_9009 : (Int16.ofInt 9009).toInt32 = 9009 := by decide
theorem qs_9781 : (Int16.ofInt 9781).toInt32 = 9781 := by decide
theorem qs_10552 : (Int16.ofInt 10552).toInt32 = 10552 := by decide
theorem qs_11057 : (Int16.ofInt 11057).toInt32 = 11057 := by decide
theorem qs_11829 : (Int16.ofInt 11829).toInt32 = 11829 := by decide
theorem qs_12594 : (Int16.ofInt 12594).toInt32 = 12594 := by decide
theorem qs_13105 : (Int16.ofInt 13105).toInt32 = 13105 := by decide
theorem qs_13877 : (Int16.ofInt 13877).toInt32 = 13877 := by decide
theorem qs_14642 : (Int16.ofInt 14642).toInt32 = 14642 := by decide
theorem qs_15153 : (Int16.ofInt 15153).toInt32 = 15153 := by decide
theorem qs_15925 : (Int16.ofInt 15925).toInt32 = 15925 := by decide
theorem gf_X0_9 : g_F RX0 9 0 0 := ⟨_, _, _, rfl, by decide, tin_wsX00, tw75⟩
theorem gf_X0_15 : g_F RX0 15 0 4 := ⟨_, _, _, rfl, by decide, tin_wsX00, tw76⟩
theorem gf_X0_19 : g_F RX0 19 0 5 := ⟨_, _, _, rfl, by decide, tin_wsX00, tw77⟩
theorem gf_X0_25 : g_F RX0 25 0 6 := ⟨_, _, _, rfl, by decide, tin_wsX00, tw81⟩
theorem gf_X0_32 : g_F RX0 32 0 7 := ⟨_, _, _, rfl, by decide, tin_wsX00, tw85⟩
theorem gf_X0_40 : g_F RX0 40 0 8 := ⟨_, _, _, rfl, by decide, tin_wsX00, tw198⟩
theorem gw_X0_40 : g_Fw RX0 40 0 8 (tyX0 8) := ⟨_, _, _, tyX0, rfl, by decide, tin_wsX00, tw198, tyX0_ok, nmX0, rfl, tyX0_ok 8 (by decide)⟩
theorem gf_X0_44 : g_F RX0 44 0 1 := ⟨_, _, _, rfl, by decide, tin_wsX00, tw199⟩
theorem gw_X0_44 : g_Fw RX0 44 0 1 (tyX0 1) := ⟨_, _, _, tyX0, rfl, by decide, tin_wsX00, tw199, tyX0_ok, nmX0, rfl, tyX0_ok 1 (by decide)⟩
theorem gf_X0_47 : g_F RX0 47 2 0 := ⟨_, _, _, rfl, by decide, tin_wsX30, tw200⟩
theorem gw_X0_47 : g_Fw RX0 47 2 0 (tyX3 0) := ⟨_, _, _, tyX3, rfl, by decide, tin_wsX30, tw200, tyX3_ok, nmX3, rfl, tyX3_ok 0 (by decide)⟩
theorem gf_X0_48 : g_F RX0 48 0 2 := ⟨_, _, _, rfl, by decide, tin_wsX00, tw201⟩
theorem gw_X0_48 : g_Fw RX0 48 0 2 (tyX0 2) := ⟨_, _, _, tyX0, rfl, by decide, tin_wsX00, tw201, tyX0_ok, nmX0, rfl, tyX0_ok 2 (by decide)⟩
theorem gf_X0_51 : g_F RX0 51 0 3 := ⟨_, _, _, rfl, by decide, tin_wsX00, tw202⟩
theorem gw_X0_51 : g_Fw RX0 51 0 3 (tyX0 3) := ⟨_, _, _, tyX0, rfl, by decide, tin_wsX00, tw202, tyX0_ok, nmX0, rfl, tyX0_ok 3 (by decide)⟩
theorem gf_X0_76 : g_F RX0 76 0 9 := ⟨_, _, _, rfl, by decide, tin_wsX00, tw257⟩
theorem gw_X0_76 : g_Fw RX0 76 0 9 (tyX0 9) := ⟨_, _, _, tyX0, rfl, by decide, tin_wsX00, tw257, tyX0_ok, nmX0, rfl, tyX0_ok 9 (by decide)⟩
theorem gf_X0_80 : g_F RX0 80 0 10 := ⟨_, _, _, rfl, by decide, tin_wsX00, tw258⟩
theorem gw_X0_80 : g_Fw RX0 80 0 10 (tyX0 10) := ⟨_, _, _, tyX0, rfl, by decide, tin_wsX00, tw258, tyX0_ok, nmX0, rfl, tyX0_ok 10 (by decide)⟩
theorem gf_X0_84 : g_F RX0 84 0 11 := ⟨_, _, _, rfl, by decide, tin_wsX00, tw259⟩
theorem gw_X0_84 : g_Fw RX0 84 0 11 (tyX0 11) := ⟨_, _, _, tyX0, rfl, by decide, tin_wsX00, tw259, tyX0_ok, nmX0, rfl, tyX0_ok 11 (by decide)⟩
theorem gf_X0_87 : g_F RX0 87 0 12 := ⟨_, _, _, rfl, by decide, tin_wsX00, tw260⟩
theorem gw_X0_87 : g_Fw RX0 87 0 12 (tyX0 12) := ⟨_, _, _, tyX0, rfl, by decide, tin_wsX00, tw260, tyX0_ok, nmX0, rfl, tyX0_ok 12 (by decide)⟩
theorem gf_X0_90 : g_F RX0 90 0 13 := ⟨_, _, _, rfl, by decide, tin_wsX00, tw261⟩
theorem gw_X0_90 : g_Fw RX0 90 0 13 (tyX0 13) := ⟨_, _, _, tyX0, rfl, by decide, tin_wsX00, tw261, tyX0_ok, nmX0, rfl, tyX0_ok 13 (by decide)⟩
theorem gf_X0_93 : g_F RX0 93 0 14 := ⟨_, _, _, rfl, by decide, tin_wsX00, tw262⟩
theorem gw_X0_93 : g_Fw RX0 93 0 14 (tyX0 14) := ⟨_, _, _, tyX0, rfl, by decide, tin_wsX00, tw262, tyX0_ok, nmX0, rfl, tyX0_ok 14 (by decide)⟩
theorem gf_X10_23 : g_F RX10 23 7 0 := ⟨_, _, _, rfl, by decide, tin_wsX100, tw28⟩
theorem gf_X10_29 : g_F RX10 29 7 1 := ⟨_, _, _, rfl, by decide, tin_wsX100, tw30⟩
theorem gf_X10_37 : g_F RX10 37 7 2 := ⟨_, _, _, rfl, by decide, tin_wsX100, tw36⟩
theorem gf_X10_44 : g_F RX10 44 7 3 := ⟨_, _, _, rfl, by decide, tin_wsX100, tw40⟩
theorem gf_X10_55 : g_F RX10 55 4 1 := ⟨_, _, _, rfl, by decide, tin_wsX70, tw132⟩
theorem gw_X10_55 : g_Fw RX10 55 4 1 (tyX7 1) := ⟨_, _, _, tyX7, rfl, by decide, tin_wsX70, tw132, tyX7_ok, nmX7, rfl, tyX7_ok 1 (by decide)⟩
theorem gf_X10_77 : g_F RX10 77 0 2 := ⟨_, _, _, rfl, by decide, tin_wsX00, tw180⟩
theorem gw_X10_77 : g_Fw RX10 77 0 2 (tyX0 2) := ⟨_, _, _, tyX0, rfl, by decide, tin_wsX00, tw180, tyX0_ok, nmX0, rfl, tyX0_ok 2 (by decide)⟩
theorem gf_X10_80 : g_F RX10 80 0 0 := ⟨_, _, _, rfl, by decide, tin_wsX00, tw181⟩
theorem gf_X10_84 : g_F RX10 84 5 1 := ⟨_, _, _, rfl, by decide, tin_wsX80, tw182⟩
theorem gf_X10_87 : g_F RX10 87 0 1 := ⟨_, _, _, rfl, by decide, tin_wsX00, tw183⟩
theorem gw_X10_87 : g_Fw RX10 87 0 1 (tyX0 1) := ⟨_, _, _, tyX0, rfl, by decide, tin_wsX00, tw183, tyX0_ok, nmX0, rfl, tyX0_ok 1 (by decide)⟩
theorem gf_X10_96 : g_F RX10 96 0 3 := ⟨_, _, _, rfl, by decide, tin_wsX00, tw544⟩
theorem gw_X10_96 : g_Fw RX10 96 0 3 (tyX0 3) := ⟨_, _, _, tyX0, rfl, by decide, tin_wsX00, tw544, tyX0_ok, nmX0, rfl, tyX0_ok 3 (by decide)⟩
theorem gf_X10_99 : g_F RX10 99 3 0 := ⟨_, _, _, rfl, by decide, tin_wsX60, tw569⟩
theorem gf_X10_104 : g_F RX10 104 5 3 := ⟨_, _, _, rfl, by decide, tin_wsX80, tw578⟩
theorem gw_X10_104 : g_Fw RX10 104 5 3 (tyX8 3) := ⟨_, _, _, tyX8, rfl, by decide, tin_wsX80, tw578, tyX8_ok, nmX8, rfl, tyX8_ok 3 (by decide)⟩
theorem gf_X10_107 : g_F RX10 107 5 4 := ⟨_, _, _, rfl, by decide, tin_wsX80, tw579⟩
theorem gw_X10_107 : g_Fw RX10 107 5 4 (tyX8 4) := ⟨_, _, _, tyX8, rfl, by decide, tin_wsX80, tw579, tyX8_ok, nmX8, rfl, tyX8_ok 4 (by decide)⟩
theorem gf_X10_110 : g_F RX10 110 7 4 := ⟨_, _, _, rfl, by decide, tin_wsX100, tw588⟩
theorem gw_X10_110 : g_Fw RX10 110 7 4 (tyX10 4) := ⟨_, _, _, tyX10, rfl, by decide, tin_wsX100, tw588, tyX10_ok, nmX10, rfl, tyX10_ok 4 (by decide)⟩
theorem gf_X10_127 : g_F RX10 127 5 0 := ⟨_, _, _, rfl, by decide, tin_wsX80, tw844⟩
theorem gf_X10_134 : g_F RX10 134 5 2 := ⟨_, _, _, rfl, by decide, tin_wsX80, tw867⟩
theorem gf_X11_7 : g_F RX11 7 8 3 := ⟨_, _, _, rfl, by decide, tin_wsX110, tw100⟩
theorem gw_X11_7 : g_Fw RX11 7 8 3 (tyX11 3) := ⟨_, _, _, tyX11, rfl, by decide, tin_wsX110, tw100, tyX11_ok, nmX11, rfl, tyX11_ok 3 (by decide)⟩
theorem gf_X11_13 : g_F RX11 13 8 14 := ⟨_, _, _, rfl, by decide, tin_wsX110, tw101⟩
theorem gw_X11_13 : g_Fw RX11 13 8 14 (tyX11 14) := ⟨_, _, _, tyX11, rfl, by decide, tin_wsX110, tw101, tyX11_ok, nmX11, rfl, tyX11_ok 14 (by decide)⟩
theorem gf_X11_17 : g_F RX11 17 8 15 := ⟨_, _, _, rfl, by decide, tin_wsX110, tw102⟩
theorem gw_X11_17 : g_Fw RX11 17 8 15 (tyX11 15) := ⟨_, _, _, tyX11, rfl, by decide, tin_wsX110, tw102, tyX11_ok, nmX11, rfl, tyX11_ok 15 (by decide)⟩
theorem gf_X11_21 : g_F RX11 21 8 16 := ⟨_, _, _, rfl, by decide, tin_wsX110, tw103⟩
theorem gw_X11_21 : g_Fw RX11 21 8 16 (tyX11 16) := ⟨_, _, _, tyX11, rfl, by decide, tin_wsX110, tw103, tyX11_ok, nmX11, rfl, tyX11_ok 16 (by decide)⟩
theorem gf_X11_24 : g_F RX11 24 8 17 := ⟨_, _, _, rfl, by decide, tin_wsX110, tw104⟩
theorem gw_X11_24 : g_Fw RX11 24 8 17 (tyX11 17) := ⟨_, _, _, tyX11, rfl, by decide, tin_wsX110, tw104, tyX11_ok, nmX11, rfl, tyX11_ok 17 (by decide)⟩
theorem gf_X11_27 : g_F RX11 27 8 18 := ⟨_, _, _, rfl, by decide, tin_wsX110, tw105⟩
theorem gw_X11_27 : g_Fw RX11 27 8 18 (tyX11 18) := ⟨_, _, _, tyX11, rfl, by decide, tin_wsX110, tw105, tyX11_ok, nmX11, rfl, tyX11_ok 18 (by decide)⟩
theorem gf_X11_30 : g_F RX11 30 8 19 := ⟨_, _, _, rfl, by decide, tin_wsX110, tw106⟩
theorem gw_X11_30 : g_Fw RX11 30 8 19 (tyX11 19) := ⟨_, _, _, tyX11, rfl, by decide, tin_wsX110, tw106, tyX11_ok, nmX11, rfl, tyX11_ok 19 (by decide)⟩
theorem gf_X11_33 : g_F RX11 33 8 20 := ⟨_, _, _, rfl, by decide, tin_wsX110, tw107⟩
theorem gw_X11_33 : g_Fw RX11 33 8 20 (tyX11 20) := ⟨_, _, _, tyX11, rfl, by decide, tin_wsX110, tw107, tyX11_ok, nmX11, rfl, tyX11_ok 20 (by decide)⟩
theorem gf_X11_36 : g_F RX11 36 8 21 := ⟨_, _, _, rfl, by decide, tin_wsX110, tw108⟩
theorem gw_X11_36 : g_Fw RX11 36 8 21 (tyX11 21) := ⟨_, _, _, tyX11, rfl, by decide, tin_wsX110, tw108, tyX11_ok, nmX11, rfl, tyX11_ok 21 (by decide)⟩
theorem gf_X11_39 : g_F RX11 39 8 22 := ⟨_, _, _, rfl, by decide, tin_wsX110, tw109⟩
theorem gw_X11_39 : g_Fw RX11 39 8 22 (tyX11 22) := ⟨_, _, _, tyX11, rfl, by decide, tin_wsX110, tw109, tyX11_ok, nmX11, rfl, tyX11_ok 22 (by decide)⟩
theorem gf_X11_42 : g_F RX11 42 8 23 := ⟨_, _, _, rfl, by decide, tin_wsX110, tw110⟩
theorem gw_X11_42 : g_Fw RX11 42 8 23 (tyX11 23) := ⟨_, _, _, tyX11, rfl, by decide, tin_wsX110, tw110, tyX11_ok, nmX11, rfl, tyX11_ok 23 (by decide)⟩
theorem gf_X11_45 : g_F RX11 45 8 24 := ⟨_, _, _, rfl, by decide, tin_wsX110, tw111⟩
theorem gw_X11_45 : g_Fw RX11 45 8 24 (tyX11 24) := ⟨_, _, _, tyX11, rfl, by decide, tin_wsX110, tw111, tyX11_ok, nmX11, rfl, tyX11_ok 24 (by decide)⟩
theorem gf_X11_48 : g_F RX11 48 8 25 := ⟨_, _, _, rfl, by decide, tin_wsX110, tw112⟩
theorem gw_X11_48 : g_Fw RX11 48 8 25 (tyX11 25) := ⟨_, _, _, tyX11, rfl, by decide, tin_wsX110, tw112, tyX11_ok, nmX11, rfl, tyX11_ok 25 (by decide)⟩
theorem gf_X11_51 : g_F RX11 51 8 26 := ⟨_, _, _, rfl, by decide, tin_wsX110, tw113⟩
theorem gw_X11_51 : g_Fw RX11 51 8 26 (tyX11 26) := ⟨_, _, _, tyX11, rfl, by decide, tin_wsX110, tw113, tyX11_ok, nmX11, rfl, tyX11_ok 26 (by decide)⟩
theorem gf_X11_54 : g_F RX11 54 8 27 := ⟨_, _, _, rfl, by decide, tin_wsX110, tw114⟩
theorem gw_X11_54 : g_Fw RX11 54 8 27 (tyX11 27) := ⟨_, _, _, tyX11, rfl, by decide, tin_wsX110, tw114, tyX11_ok, nmX11, rfl, tyX11_ok 27 (by decide)⟩
theorem gf_X11_57 : g_F RX11 57 8 28 := ⟨_, _, _, rfl, by decide, tin_wsX110, tw115⟩
theorem gw_X11_57 : g_Fw RX11 57 8 28 (tyX11 28) := ⟨_, _, _, tyX11, rfl, by decide, tin_wsX110, tw115, tyX11_ok, nmX11, rfl, tyX11_ok 28 (by decide)⟩
theorem gf_X11_60 : g_F RX11 60 8 29 := ⟨_, _, _, rfl, by decide, tin_wsX110, tw116⟩
theorem gw_X11_60 : g_Fw RX11 60 8 29 (tyX11 29) := ⟨_, _, _, tyX11, rfl, by decide, tin_wsX110, tw116, tyX11_ok, nmX11, rfl, tyX11_ok 29 (by decide)⟩
theorem gf_X11_63 : g_F RX11 63 8 30 := ⟨_, _, _, rfl, by decide, tin_wsX110, tw117⟩
theorem gw_X11_63 : g_Fw RX11 63 8 30 (tyX11 30) := ⟨_, _, _, tyX11, rfl, by decide, tin_wsX110, tw117, tyX11_ok, nmX11, rfl, tyX11_ok 30 (by decide)⟩
theorem gf_X11_66 : g_F RX11 66 8 1 := ⟨_, _, _, rfl, by decide, tin_wsX110, tw118⟩
theorem gw_X11_66 : g_Fw RX11 66 8 1 (tyX11 1) := ⟨_, _, _, tyX11, rfl, by decide, tin_wsX110, tw118, tyX11_ok, nmX11, rfl, tyX11_ok 1 (by decide)⟩
theorem gf_X11_70 : g_F RX11 70 8 0 := ⟨_, _, _, rfl, by decide, tin_wsX110, tw151⟩
theorem gw_X11_70 : g_Fw RX11 70 8 0 (tyX11 0) := ⟨_, _, _, tyX11, rfl, by decide, tin_wsX110, tw151, tyX11_ok, nmX11, rfl, tyX11_ok 0 (by decide)⟩
theorem gf_X11_85 : g_F RX11 85 8 4 := ⟨_, _, _, rfl, by decide, tin_wsX110, tw150⟩
theorem gw_X11_85 : g_Fw RX11 85 8 4 (tyX11 4) := ⟨_, _, _, tyX11, rfl, by decide, tin_wsX110, tw150, tyX11_ok, nmX11, rfl, tyX11_ok 4 (by decide)⟩
theorem gf_X11_88 : g_F RX11 88 8 5 := ⟨_, _, _, rfl, by decide, tin_wsX110, tw403⟩
theorem gw_X11_88 : g_Fw RX11 88 8 5 (tyX11 5) := ⟨_, _, _, tyX11, rfl, by decide, tin_wsX110, tw403, tyX11_ok, nmX11, rfl, tyX11_ok 5 (by decide)⟩
theorem gf_X11_102 : g_F RX11 102 8 12 := ⟨_, _, _, rfl, by decide, tin_wsX110, tw418⟩
theorem gw_X11_102 : g_Fw RX11 102 8 12 (tyX11 12) := ⟨_, _, _, tyX11, rfl, by decide, tin_wsX110, tw418, tyX11_ok, nmX11, rfl, tyX11_ok 12 (by decide)⟩
theorem gf_X11_111 : g_F RX11 111 8 13 := ⟨_, _, _, rfl, by decide, tin_wsX110, tw419⟩
theorem gw_X11_111 : g_Fw RX11 111 8 13 (tyX11 13) := ⟨_, _, _, tyX11, rfl, by decide, tin_wsX110, tw419, tyX11_ok, nmX11, rfl, tyX11_ok 13 (by decide)⟩
theorem gf_X11_199 : g_F RX11 199 8 11 := ⟨_, _, _, rfl, by decide, tin_wsX110, tw407⟩
theorem gw_X11_199 : g_Fw RX11 199 8 11 (tyX11 11) := ⟨_, _, _, tyX11, rfl, by decide, tin_wsX110, tw407, tyX11_ok, nmX11, rfl, tyX11_ok 11 (by decide)⟩
theorem gf_X11_202 : g_F RX11 202 8 9 := ⟨_, _, _, rfl, by decide, tin_wsX110, tw405⟩
theorem gw_X11_202 : g_Fw RX11 202 8 9 (tyX11 9) := ⟨_, _, _, tyX11, rfl, by decide, tin_wsX110, tw405, tyX11_ok, nmX11, rfl, tyX11_ok 9 (by decide)⟩
theorem gf_X11_205 : g_F RX11 205 8 8 := ⟨_, _, _, rfl, by decide, tin_wsX110, tw404⟩
theorem gw_X11_205 : g_Fw RX11 205 8 8 (tyX11 8) := ⟨_, _, _, tyX11, rfl, by decide, tin_wsX110, tw404, tyX11_ok, nmX11, rfl, tyX11_ok 8 (by decide)⟩
theorem gf_X11_256 : g_F RX11 256 8 10 := ⟨_, _, _, rfl, by decide, tin_wsX110, tw406⟩
theorem gw_X11_256 : g_Fw RX11 256 8 10 (tyX11 10) := ⟨_, _, _, tyX11, rfl, by decide, tin_wsX110, tw406, tyX11_ok, nmX11, rfl, tyX11_ok 10 (by decide)⟩
theorem gf_X11_273 : g_F RX11 273 8 6 := ⟨_, _, _, rfl, by decide, tin_wsX110, tw408⟩
theorem gw_X11_273 : g_Fw RX11 273 8 6 (tyX11 6) := ⟨_, _, _, tyX11, rfl, by decide, tin_wsX110, tw408, tyX11_ok, nmX11, rfl, tyX11_ok 6 (by decide)⟩
theorem gf_X11_276 : g_F RX11 276 8 7 := ⟨_, _, _, rfl, by decide, tin_wsX110, tw409⟩
theorem gw_X11_276 : g_Fw RX11 276 8 7 (tyX11 7) := ⟨_, _, _, tyX11, rfl, by decide, tin_wsX110, tw409, tyX11_ok, nmX11, rfl, tyX11_ok 7 (by decide)⟩
theorem gf_X11_291 : g_F RX11 291 8 2 := ⟨_, _, _, rfl, by decide, tin_wsX110, tw599⟩
theorem gw_X11_291 : g_Fw RX11 291 8 2 (tyX11 2) := ⟨_, _, _, tyX11, rfl, by decide, tin_wsX110, tw599, tyX11_ok, nmX11, rfl, tyX11_ok 2 (by decide)⟩
theorem gf_X2_9 : g_F RX2 9 1 1 := ⟨_, _, _, rfl, by decide, tin_wsX20, tw64⟩
theorem gf_X2_15 : g_F RX2 15 1 2 := ⟨_, _, _, rfl, by decide, tin_wsX20, tw65⟩
theorem gf_X2_18 : g_F RX2 18 1 3 := ⟨_, _, _, rfl, by decide, tin_wsX20, tw66⟩
theorem gf_X2_21 : g_F RX2 21 1 0 := ⟨_, _, _, rfl, by decide, tin_wsX20, tw756⟩
theorem gw_X2_21 : g_Fw RX2 21 1 0 (tyX2 0) := ⟨_, _, _, tyX2, rfl, by decide, tin_wsX20, tw756, tyX2_ok, nmX2, rfl, tyX2_ok 0 (by decide)⟩
theorem gf_X3_9 : g_F RX3 9 2 1 := ⟨_, _, _, rfl, by decide, tin_wsX30, tw89⟩
theorem gf_X3_15 : g_F RX3 15 2 2 := ⟨_, _, _, rfl, by decide, tin_wsX30, tw90⟩
theorem gf_X3_19 : g_F RX3 19 2 0 := ⟨_, _, _, rfl, by decide, tin_wsX30, tw379⟩
theorem gw_X3_19 : g_Fw RX3 19 2 0 (tyX3 0) := ⟨_, _, _, tyX3, rfl, by decide, tin_wsX30, tw379, tyX3_ok, nmX3, rfl, tyX3_ok 0 (by decide)⟩
theorem gf_X6_9 : g_F RX6 9 3 0 := ⟨_, _, _, rfl, by decide, tin_wsX60, tw46⟩
theorem gf_X6_15 : g_F RX6 15 3 1 := ⟨_, _, _, rfl, by decide, tin_wsX60, tw47⟩
theorem gf_X7_9 : g_F RX7 9 4 0 := ⟨_, _, _, rfl, by decide, tin_wsX70, tw71⟩
theorem gf_X7_19 : g_F RX7 19 4 1 := ⟨_, _, _, rfl, by decide, tin_wsX70, tw144⟩
theorem gw_X7_19 : g_Fw RX7 19 4 1 (tyX7 1) := ⟨_, _, _, tyX7, rfl, by decide, tin_wsX70, tw144, tyX7_ok, nmX7, rfl, tyX7_ok 1 (by decide)⟩
theorem gf_X8_9 : g_F RX8 9 5 0 := ⟨_, _, _, rfl, by decide, tin_wsX80, tw52⟩
theorem gf_X8_15 : g_F RX8 15 5 1 := ⟨_, _, _, rfl, by decide, tin_wsX80, tw53⟩
theorem gf_X8_21 : g_F RX8 21 5 2 := ⟨_, _, _, rfl, by decide, tin_wsX80, tw57⟩
theorem gf_X8_25 : g_F RX8 25 5 6 := ⟨_, _, _, rfl, by decide, tin_wsX80, tw58⟩
theorem gf_X8_28 : g_F RX8 28 5 7 := ⟨_, _, _, rfl, by decide, tin_wsX80, tw59⟩
theorem gw_X8_28 : g_Fw RX8 28 5 7 (tyX8 7) := ⟨_, _, _, tyX8, rfl, by decide, tin_wsX80, tw59, tyX8_ok, nmX8, rfl, tyX8_ok 7 (by decide)⟩
theorem gf_X8_32 : g_F RX8 32 5 5 := ⟨_, _, _, rfl, by decide, tin_wsX80, tw60⟩
theorem gf_X8_35 : g_F RX8 35 5 8 := ⟨_, _, _, rfl, by decide, tin_wsX80, tw593⟩
theorem gw_X8_35 : g_Fw RX8 35 5 8 (tyX8 8) := ⟨_, _, _, tyX8, rfl, by decide, tin_wsX80, tw593, tyX8_ok, nmX8, rfl, tyX8_ok 8 (by decide)⟩
theorem gf_X8_38 : g_F RX8 38 5 9 := ⟨_, _, _, rfl, by decide, tin_wsX80, tw594⟩
theorem gw_X8_38 : g_Fw RX8 38 5 9 (tyX8 9) := ⟨_, _, _, tyX8, rfl, by decide, tin_wsX80, tw594, tyX8_ok, nmX8, rfl, tyX8_ok 9 (by decide)⟩
theorem gf_X8_41 : g_F RX8 41 1 0 := ⟨_, _, _, rfl, by decide, tin_wsX20, tw858⟩
theorem gw_X8_41 : g_Fw RX8 41 1 0 (tyX2 0) := ⟨_, _, _, tyX2, rfl, by decide, tin_wsX20, tw858, tyX2_ok, nmX2, rfl, tyX2_ok 0 (by decide)⟩
theorem gf_X8_57 : g_F RX8 57 5 11 := ⟨_, _, _, rfl, by decide, tin_wsX80, tw614⟩
theorem gw_X8_57 : g_Fw RX8 57 5 11 (tyX8 11) := ⟨_, _, _, tyX8, rfl, by decide, tin_wsX80, tw614, tyX8_ok, nmX8, rfl, tyX8_ok 11 (by decide)⟩
theorem gf_X8_64 : g_F RX8 64 5 10 := ⟨_, _, _, rfl, by decide, tin_wsX80, tw615⟩
theorem gw_X8_64 : g_Fw RX8 64 5 10 (tyX8 10) := ⟨_, _, _, tyX8, rfl, by decide, tin_wsX80, tw615, tyX8_ok, nmX8, rfl, tyX8_ok 10 (by decide)⟩
theorem gf_X8_174 : g_F RX8 174 5 3 := ⟨_, _, _, rfl, by decide, tin_wsX80, tw688⟩
theorem gw_X8_174 : g_Fw RX8 174 5 3 (tyX8 3) := ⟨_, _, _, tyX8, rfl, by decide, tin_wsX80, tw688, tyX8_ok, nmX8, rfl, tyX8_ok 3 (by decide)⟩
theorem gf_X8_177 : g_F RX8 177 5 4 := ⟨_, _, _, rfl, by decide, tin_wsX80, tw689⟩
theorem gw_X8_177 : g_Fw RX8 177 5 4 (tyX8 4) := ⟨_, _, _, tyX8, rfl, by decide, tin_wsX80, tw689, tyX8_ok, nmX8, rfl, tyX8_ok 4 (by decide)⟩
theorem gf_X8_180 : g_F RX8 180 3 0 := ⟨_, _, _, rfl, by decide, tin_wsX60, tw694⟩
theorem gf_X9_9 : g_F RX9 9 6 0 := ⟨_, _, _, rfl, by decide, tin_wsX90, tw94⟩
theorem gf_X9_15 : g_F RX9 15 6 1 := ⟨_, _, _, rfl, by decide, tin_wsX90, tw95⟩
theorem gf_X9_19 : g_F RX9 19 4 0 := ⟨_, _, _, rfl, by decide, tin_wsX70, tw207⟩
theorem gf_X9_24 : g_F RX9 24 6 3 := ⟨_, _, _, rfl, by decide, tin_wsX90, tw208⟩
theorem gw_X9_24 : g_Fw RX9 24 6 3 (tyX9 3) := ⟨_, _, _, tyX9, rfl, by decide, tin_wsX90, tw208, tyX9_ok, nmX9, rfl, tyX9_ok 3 (by decide)⟩
theorem gf_X9_25 : g_F RX9 25 4 1 := ⟨_, _, _, rfl, by decide, tin_wsX70, tw209⟩
theorem gw_X9_25 : g_Fw RX9 25 4 1 (tyX7 1) := ⟨_, _, _, tyX7, rfl, by decide, tin_wsX70, tw209, tyX7_ok, nmX7, rfl, tyX7_ok 1 (by decide)⟩
theorem gf_X9_29 : g_F RX9 29 6 4 := ⟨_, _, _, rfl, by decide, tin_wsX90, tw210⟩
theorem gw_X9_29 : g_Fw RX9 29 6 4 (tyX9 4) := ⟨_, _, _, tyX9, rfl, by decide, tin_wsX90, tw210, tyX9_ok, nmX9, rfl, tyX9_ok 4 (by decide)⟩
theorem gf_X9_30 : g_F RX9 30 6 2 := ⟨_, _, _, rfl, by decide, tin_wsX90, tw211⟩
theorem gw_X9_30 : g_Fw RX9 30 6 2 (tyX9 2) := ⟨_, _, _, tyX9, rfl, by decide, tin_wsX90, tw211, tyX9_ok, nmX9, rfl, tyX9_ok 2 (by decide)⟩
theorem gf_X9_33 : g_F RX9 33 6 5 := ⟨_, _, _, rfl, by decide, tin_wsX90, tw212⟩
theorem gw_X9_33 : g_Fw RX9 33 6 5 (tyX9 5) := ⟨_, _, _, tyX9, rfl, by decide, tin_wsX90, tw212, tyX9_ok, nmX9, rfl, tyX9_ok 5 (by decide)⟩
end
section
theorem G.mmax {M : g_M} {k n pc : Nat} {lv : List (Nat × Value)} {st : List Value} {ws : List va_E} {r : Option Value} {ws' : List va_E} {idx : Nat} {x y : Int32} (hd : decode M.1 pc = .ok (.invokestatic idx, 3)) (h1 : Cond.methodLink M.2.2.1 idx Lib.Math.max.name ∈ TT) (h2 : Cond.static Lib.Math.max.name ∈ TT) (h3 : Cond.initialized "java/lang/Math" ∈ TT) (h4 : Cond.code Lib.Math.max.name Lib.Math.max.code 2 (some .int) ∈ TT) (hR : (Nat.ble 1 M.2.2.2.2.1.frames && Nat.ble ((st.map fun v => v.category).sum + 13) M.2.2.2.2.1.locals && Nat.ble k M.2.2.2.2.1.cells && Nat.ble n M.2.2.2.2.1.slots) = true) (kk : G M k n (pc + 3) lv (.int (if x < y then y else x) :: st) ws r ws') : G M k n pc lv (.int y :: .int x :: st) ws r ws' := by
  intro p l e s m args below meth c D cid A n0 ad0 C ad ls H locs hq hl hP hD hS
  simp only [Bool.and_eq_true] at hR
  obtain ⟨⟨⟨hR1, hR2⟩, hR3⟩, hR4⟩ := hR
  exact va_mmax C.1 C.2.1 (C.2.2.2.1.trans hl.1.symm) C.2.2.2.2.1 (C.2.2.2.2.2.1 _ h1) (C.2.2.2.2.2.1 _ h2) (C.2.2.2.2.2.1 _ h3) (C.2.2.2.2.2.1 _ h4) (Nat.le_of_ble_eq_true hR1) (by rw [List.map_map]; simp only [Function.comp_def, g_catv]; exact Nat.le_of_ble_eq_true hR2) (Nat.le_of_ble_eq_true hR3) (Nat.le_of_ble_eq_true hR4) hd (kk p l e s m args below meth c D cid A n0 ad0 C ad ls H locs hq hl hP hD hS)
theorem G.mmin {M : g_M} {k n pc : Nat} {lv : List (Nat × Value)} {st : List Value} {ws : List va_E} {r : Option Value} {ws' : List va_E} {idx : Nat} {x y : Int32} (hd : decode M.1 pc = .ok (.invokestatic idx, 3)) (h1 : Cond.methodLink M.2.2.1 idx Lib.Math.min.name ∈ TT) (h2 : Cond.static Lib.Math.min.name ∈ TT) (h3 : Cond.initialized "java/lang/Math" ∈ TT) (h4 : Cond.code Lib.Math.min.name Lib.Math.min.code 2 (some .int) ∈ TT) (hR : (Nat.ble 1 M.2.2.2.2.1.frames && Nat.ble ((st.map fun v => v.category).sum + 13) M.2.2.2.2.1.locals && Nat.ble k M.2.2.2.2.1.cells && Nat.ble n M.2.2.2.2.1.slots) = true) (kk : G M k n (pc + 3) lv (.int (if y < x then y else x) :: st) ws r ws') : G M k n pc lv (.int y :: .int x :: st) ws r ws' := by
  intro p l e s m args below meth c D cid A n0 ad0 C ad ls H locs hq hl hP hD hS
  simp only [Bool.and_eq_true] at hR
  obtain ⟨⟨⟨hR1, hR2⟩, hR3⟩, hR4⟩ := hR
  exact va_mmin C.1 C.2.1 (C.2.2.2.1.trans hl.1.symm) C.2.2.2.2.1 (C.2.2.2.2.2.1 _ h1) (C.2.2.2.2.2.1 _ h2) (C.2.2.2.2.2.1 _ h3) (C.2.2.2.2.2.1 _ h4) (Nat.le_of_ble_eq_true hR1) (by rw [List.map_map]; simp only [Function.comp_def, g_catv]; exact Nat.le_of_ble_eq_true hR2) (Nat.le_of_ble_eq_true hR3) (Nat.le_of_ble_eq_true hR4) hd (kk p l e s m args below meth c D cid A n0 ad0 C ad ls H locs hq hl hP hD hS)
theorem G.lmax {M : g_M} {k n pc : Nat} {lv : List (Nat × Value)} {st : List Value} {ws : List va_E} {r : Option Value} {ws' : List va_E} {idx : Nat} {x y : Int64} (hd : decode M.1 pc = .ok (.invokestatic idx, 3)) (h1 : Cond.methodLink M.2.2.1 idx Lib.MathLoose.max_long.x ∈ TT) (h2 : Cond.static Lib.MathLoose.max_long.x ∈ TT) (h3 : Cond.initialized "java/lang/Math" ∈ TT) (h4 : Cond.code Lib.MathLoose.max_long.x Lib.MathLoose.max_long.code 4 (some .long) ∈ TT) (hR : (Nat.ble 1 M.2.2.2.2.1.frames && Nat.ble ((st.map fun v => v.category).sum + 15) M.2.2.2.2.1.locals && Nat.ble k M.2.2.2.2.1.cells && Nat.ble n M.2.2.2.2.1.slots) = true) (kk : G M k n (pc + 3) lv (.long (if y < x then x else y) :: st) ws r ws') : G M k n pc lv (.long y :: .long x :: st) ws r ws' := by
  intro p l e s m args below meth c D cid A n0 ad0 C ad ls H locs hq hl hP hD hS
  simp only [Bool.and_eq_true] at hR
  obtain ⟨⟨⟨hR1, hR2⟩, hR3⟩, hR4⟩ := hR
  exact va_mmax_long C.1 C.2.1 (C.2.2.2.1.trans hl.1.symm) C.2.2.2.2.1 (C.2.2.2.2.2.1 _ h1) (C.2.2.2.2.2.1 _ h2) (C.2.2.2.2.2.1 _ h3) (C.2.2.2.2.2.1 _ h4) (Nat.le_of_ble_eq_true hR1) (by rw [List.map_map]; simp only [Function.comp_def, g_catv]; exact Nat.le_of_ble_eq_true hR2) (Nat.le_of_ble_eq_true hR3) (Nat.le_of_ble_eq_true hR4) hd (kk p l e s m args below meth c D cid A n0 ad0 C ad ls H locs hq hl hP hD hS)
theorem G.lmin {M : g_M} {k n pc : Nat} {lv : List (Nat × Value)} {st : List Value} {ws : List va_E} {r : Option Value} {ws' : List va_E} {idx : Nat} {x y : Int64} (hd : decode M.1 pc = .ok (.invokestatic idx, 3)) (h1 : Cond.methodLink M.2.2.1 idx Lib.MathLoose.min_long.x ∈ TT) (h2 : Cond.static Lib.MathLoose.min_long.x ∈ TT) (h3 : Cond.initialized "java/lang/Math" ∈ TT) (h4 : Cond.code Lib.MathLoose.min_long.x Lib.MathLoose.min_long.code 4 (some .long) ∈ TT) (hR : (Nat.ble 1 M.2.2.2.2.1.frames && Nat.ble ((st.map fun v => v.category).sum + 15) M.2.2.2.2.1.locals && Nat.ble k M.2.2.2.2.1.cells && Nat.ble n M.2.2.2.2.1.slots) = true) (kk : G M k n (pc + 3) lv (.long (if y < x then y else x) :: st) ws r ws') : G M k n pc lv (.long y :: .long x :: st) ws r ws' := by
  intro p l e s m args below meth c D cid A n0 ad0 C ad ls H locs hq hl hP hD hS
  simp only [Bool.and_eq_true] at hR
  obtain ⟨⟨⟨hR1, hR2⟩, hR3⟩, hR4⟩ := hR
  exact va_mmin_long C.1 C.2.1 (C.2.2.2.1.trans hl.1.symm) C.2.2.2.2.1 (C.2.2.2.2.2.1 _ h1) (C.2.2.2.2.2.1 _ h2) (C.2.2.2.2.2.1 _ h3) (C.2.2.2.2.2.1 _ h4) (Nat.le_of_ble_eq_true hR1) (by rw [List.map_map]; simp only [Function.comp_def, g_catv]; exact Nat.le_of_ble_eq_true hR2) (Nat.le_of_ble_eq_true hR3) (Nat.le_of_ble_eq_true hR4) hd (kk p l e s m args below meth c D cid A n0 ad0 C ad ls H locs hq hl hP hD hS)
theorem g_B.now {M : g_M} {p : Program} {s : State} {m : MethodId} {args : Array Value} {meth : Method} {c : Code} {D : va_G} {cid : Nat → ClassId} {A : Nat → Prop} {ad0 ad : Nat → Nat} {n0 : Nat} (C : g_Cx M p s m args meth c D cid A ad0) (hq : g_eq n0 ad ad0) : g_B ad A s s.heap := C.2.2.2.2.2.2.2.2.2.1.at (fun i hi => hq i (Or.inr hi))
theorem G.getstatic {M : g_M} {k n pc : Nat} {lv : List (Nat × Value)} {st : List Value} {ws : List va_E} {r : Option Value} {ws' : List va_E} {idx : Nat} {cn fn fd : String} {v : Value} (hd : decode M.1 pc = .ok (.getstatic idx, 3)) (hz : g_Z (cn, fn, fd, v)) (hw : Cond.fieldLink M.2.2.1 idx cn fn fd ∈ TT) (kk : G M k n (pc + 3) lv (v :: st) ws r ws') : G M k n pc lv st ws r ws' := by
  intro p l e s m args below meth c D cid A n0 ad0 C ad ls H locs hq hl hP hD hS
  exact va_gets C.1 C.2.1 ((g_B.now C hq).1 _ hz) hS C.2.2.2.2.1 (C.2.2.2.2.2.1 _ hw) (fun _ h => h) hd (kk p l e s m args below meth c D cid A n0 ad0 C ad ls H locs hq hl hP hD hS)
theorem G.getfieldC {M : g_M} {k n pc : Nat} {lv : List (Nat × Value)} {st : List Value} {ws : List va_E} {r : Option Value} {ws' : List va_E} {idx a : Nat} {cn fn fd : String} {v : Value} (hd : decode M.1 pc = .ok (.getfield idx, 3)) (hz : g_OF (cn, fn, fd, v, a)) (hw : Cond.fieldLink M.2.2.1 idx cn fn fd ∈ TT) (kk : G M k n (pc + 3) lv (v :: st) ws r ws') : G M k n pc lv (.ref a :: st) ws r ws' := by
  intro p l e s m args below meth c D cid A n0 ad0 C ad ls H locs hq hl hP hD hS
  exact vk_getf C.1 C.2.1 ((g_B.now C hq).2.2.1 _ hz) hS C.2.2.2.2.1 (C.2.2.2.2.2.1 _ hw) (fun _ h => h) hd (kk p l e s m args below meth c D cid A n0 ad0 C ad ls H locs hq hl hP hD hS)
theorem G.aaloadC {M : g_M} {k n pc : Nat} {lv : List (Nat × Value)} {st : List Value} {ws : List va_E} {r : Option Value} {ws' : List va_E} {cn : String} {a N : Nat} {f : Nat → Value} {i : Int32} {v : Value} (hd : decode M.1 pc = .ok (.aaload, 1)) (hz : g_T (.object cn, a, N, f)) (hin : vp_in i N) (hv : f i.toNatClampNeg = v) (kk : G M k n (pc + 1) lv (v :: st) ws r ws') : G M k n pc lv (.int i :: .ref a :: st) ws r ws' := by
  intro p l e s m args below meth c D cid A n0 ad0 C ad ls H locs hq hl hP hD hS
  exact vb_tq C.1 C.2.1 ((g_B.now C hq).2.2.2.1 _ hz) hS hin (congrArg (g_tv ad) hv) hd (kk p l e s m args below meth c D cid A n0 ad0 C ad ls H locs hq hl hP hD hS)
theorem G.baloadC {M : g_M} {k n pc : Nat} {lv : List (Nat × Value)} {st : List Value} {ws : List va_E} {r : Option Value} {ws' : List va_E} {a N : Nat} {f : Nat → Value} {i : Int32} {v : Value} (hd : decode M.1 pc = .ok (.baload, 1)) (hz : g_T (.byte, a, N, f)) (hin : vp_in i N) (hv : f i.toNatClampNeg = v) (kk : G M k n (pc + 1) lv (v :: st) ws r ws') : G M k n pc lv (.int i :: .ref a :: st) ws r ws' := by
  intro p l e s m args below meth c D cid A n0 ad0 C ad ls H locs hq hl hP hD hS
  exact va_tb C.1 C.2.1 ((g_B.now C hq).2.2.2.1 _ hz) hS hin (congrArg (g_tv ad) hv) hd (kk p l e s m args below meth c D cid A n0 ad0 C ad ls H locs hq hl hP hD hS)
theorem G.alenC {M : g_M} {k n pc : Nat} {lv : List (Nat × Value)} {st : List Value} {ws : List va_E} {r : Option Value} {ws' : List va_E} {ty : FieldType} {a N : Nat} {f : Nat → Value} {v : Int32} (hd : decode M.1 pc = .ok (.arraylength, 1)) (hz : g_T (ty, a, N, f)) (hv : Int32.ofNat N = v) (kk : G M k n (pc + 1) lv (.int v :: st) ws r ws') : G M k n pc lv (.ref a :: st) ws r ws' := by
  intro p l e s m args below meth c D cid A n0 ad0 C ad ls H locs hq hl hP hD hS
  exact va_tlen C.1 C.2.1 ((g_B.now C hq).2.2.2.1 _ hz) hS hv hd (kk p l e s m args below meth c D cid A n0 ad0 C ad ls H locs hq hl hP hD hS)
theorem G.acmp_ne {M : g_M} {k n pc : Nat} {lv : List (Nat × Value)} {st : List Value} {ws : List va_E} {r : Option Value} {ws' : List va_E} {i j : Nat} {off : Int} {tgt : Nat} (hd : decode M.1 pc = .ok (.if_acmp .ne off, 3)) (hi : 1000 ≤ i ∧ i < 1003) (hj : 1000 ≤ j ∧ j < 1003) (ht : (pc : Int) + off = (tgt : Int)) (kt : ¬ i = j → G M k n tgt lv st ws r ws') (kf : i = j → G M k n (pc + 3) lv st ws r ws') : G M k n pc lv (.ref j :: .ref i :: st) ws r ws' := by
  intro p l e s m args below meth c D cid A n0 ad0 C ad ls H locs hq hl hP hD hS
  have hB := (g_B.now C hq).2.2.2.2.1 (i - 1000) (j - 1000) (by omega) (by omega)
  rw [show 1000 + (i - 1000) = i by omega, show 1000 + (j - 1000) = j by omega] at hB
  exact lv_acmp_ne (rx := some (ad i)) (ry := some (ad j)) C.1 C.2.1 hd ht (fun h => (kt (fun e9 => h (by rw [e9])) p l e s m args below meth c D cid A n0 ad0 C ad ls H locs hq hl hP hD hS)) (fun h => (kf (by have := hB (Option.some.inj h); omega) p l e s m args below meth c D cid A n0 ad0 C ad ls H locs hq hl hP hD hS))
theorem G.acmp_eq {M : g_M} {k n pc : Nat} {lv : List (Nat × Value)} {st : List Value} {ws : List va_E} {r : Option Value} {ws' : List va_E} {i j : Nat} {off : Int} {tgt : Nat} (hd : decode M.1 pc = .ok (.if_acmp .eq off, 3)) (hi : 1000 ≤ i ∧ i < 1003) (hj : 1000 ≤ j ∧ j < 1003) (ht : (pc : Int) + off = (tgt : Int)) (kt : i = j → G M k n tgt lv st ws r ws') (kf : ¬ i = j → G M k n (pc + 3) lv st ws r ws') : G M k n pc lv (.ref j :: .ref i :: st) ws r ws' := by
  intro p l e s m args below meth c D cid A n0 ad0 C ad ls H locs hq hl hP hD hS
  have hB := (g_B.now C hq).2.2.2.2.1 (i - 1000) (j - 1000) (by omega) (by omega)
  rw [show 1000 + (i - 1000) = i by omega, show 1000 + (j - 1000) = j by omega] at hB
  exact lv_acmp_eq (rx := some (ad i)) (ry := some (ad j)) C.1 C.2.1 hd ht (fun h => (kt (by have := hB (Option.some.inj h); omega) p l e s m args below meth c D cid A n0 ad0 C ad ls H locs hq hl hP hD hS)) (fun h => (kf (fun e9 => h (by rw [e9])) p l e s m args below meth c D cid A n0 ad0 C ad ls H locs hq hl hP hD hS))
theorem G.copyi {M : g_M} {k n pc : Nat} {lv : List (Nat × Value)} {st : List Value} {ws : List va_E} {r : Option Value} {ws' : List va_E} {idx a0 a1 n0' n1' : Nat} {f g : Nat → Int32} {sp dp m9 : Int32} {ws1 : List va_E} (hd : decode M.1 pc = .ok (.invokestatic idx, 3)) (h1 : Cond.methodLink M.2.2.1 idx arraycopyName ∈ TT) (h2 : Cond.native arraycopyName ∈ TT) (h3 : Cond.static arraycopyName ∈ TT) (h4 : Cond.initialized "java/lang/System" ∈ TT) (he0 : ws[a0]? = some (.inl (1, n0', .inl f))) (he1 : ws[a1]? = some (.inl (1, n1', .inl g)))
    (hs : ¬ sp < 0) (hdp : ¬ dp < 0) (hm : ¬ m9 < 0) (hb1 : sp.toNatClampNeg + m9.toNatClampNeg ≤ n0') (hb2 : dp.toNatClampNeg + m9.toNatClampNeg ≤ n1') (hR : (Nat.ble 1 M.2.2.2.2.1.frames && Nat.ble ((st.map fun v => v.category).sum + (nativeFrameWords "java/lang/System" "arraycopy" 5 + 11)) M.2.2.2.2.1.locals) = true) (hw : ws.set a1 (.inl (1, n1', .inl (va_cpy f g sp.toNatClampNeg dp.toNatClampNeg m9.toNatClampNeg))) = ws1)
    (kk : G M k n (pc + 3) lv st ws1 r ws') : G M k n pc lv (.int m9 :: .int dp :: .ref a1 :: .int sp :: .ref a0 :: st) ws r ws' := by
  intro p l e s m args below meth c D cid A n0 ad0 C ad ls H locs hq hl hP hD hS
  simp only [Bool.and_eq_true] at hR
  refine va_copyi C.1 C.2.1 (C.2.2.2.1.trans hl.1.symm) C.2.2.2.2.1 (C.2.2.2.2.2.1 _ h1) (C.2.2.2.2.2.1 _ h2) (C.2.2.2.2.2.1 _ h3) (C.2.2.2.2.2.1 _ h4) C.2.2.2.2.2.2.2.1 hP hD hS a0 a1 1 1 (g_get ad cid he0) (g_get ad cid he1) rfl rfl rfl hs hdp hm hb1 hb2 (fun _ _ => rfl) (Nat.le_of_ble_eq_true hR.1) (by rw [List.map_map]; simp only [Function.comp_def, g_catv]; exact Nat.le_of_ble_eq_true hR.2) hd (fun H locs hP hD hS => ?_)
  have hz := g_set ad cid ws a1 (.inl (1, n1', .inl (va_cpy f g sp.toNatClampNeg dp.toNatClampNeg m9.toNatClampNeg)))
  rw [hw] at hz
  have hP : va_P D vwCl (g_mk ad cid ws1) H := hz ▸ hP
  have hD : va_D A (g_mk ad cid ws1) := hz ▸ hD
  exact (kk p l e s m args below meth c D cid A n0 ad0 C ad ls H locs hq hl hP hD hS)
end
section
theorem q_le {a b : Int32} (h : a ≤ b) : a.toInt ≤ b.toInt := Int32.le_iff_toInt_le.mp h
theorem q_lt {a b : Int32} (h : a < b) : a.toInt < b.toInt := Int32.lt_iff_toInt_lt.mp h
theorem q_nle {a b : Int32} (h : ¬ a ≤ b) : b.toInt < a.toInt := Int.not_le.mp fun q => h (Int32.le_iff_toInt_le.mpr q)
theorem q_nlt {a b : Int32} (h : ¬ a < b) : b.toInt ≤ a.toInt := Int.not_lt.mp fun q => h (Int32.lt_iff_toInt_lt.mpr q)
theorem q_in {x : Int32} {n : Nat} (h0 : 0 ≤ x.toInt) (h1 : x.toInt < n) : vp_in x n := vp_in_iff.mpr ⟨h0, h1⟩
theorem q_rng (x : Int32) : -2147483648 ≤ x.toInt ∧ x.toInt < 2147483648 := ⟨Int32.le_toInt x, Int32.toInt_lt x⟩
theorem q_bm {z : Int} (h1 : -2147483648 ≤ z) (h2 : z < 2147483648) : z.bmod 4294967296 = z := by
  rw [Int.bmod_def]
  have h3 : z % ((4294967296 : Nat) : Int) = z ∨ z % ((4294967296 : Nat) : Int) = z + 4294967296 := by omega
  rcases h3 with h3 | h3 <;> rw [h3] <;> simp <;> omega
theorem q_add {x y : Int32} (h1 : -2147483648 ≤ x.toInt + y.toInt) (h2 : x.toInt + y.toInt < 2147483648) : (x + y).toInt = x.toInt + y.toInt := by
  rw [Int32.toInt_add]; exact q_bm h1 h2
theorem q_sub {x y : Int32} (h1 : -2147483648 ≤ x.toInt - y.toInt) (h2 : x.toInt - y.toInt < 2147483648) : (x - y).toInt = x.toInt - y.toInt := by
  rw [Int32.toInt_sub]; exact q_bm h1 h2
theorem q_mul {x y : Int32} (h1 : -2147483648 ≤ x.toInt * y.toInt) (h2 : x.toInt * y.toInt < 2147483648) : (x * y).toInt = x.toInt * y.toInt := by
  rw [Int32.toInt_mul]; exact q_bm h1 h2
theorem q_inc {x : Int32} (h : x.toInt < 2147483647) : (x + 1).toInt = x.toInt + 1 := by
  have := q_rng x
  have h1 : (1 : Int32).toInt = 1 := by decide
  rw [q_add] <;> rw [h1] <;> omega
theorem q_and (x : Int32) {m : Int32} (k : Nat) (hk : k ≤ 31) (hm : m.toBitVec.toNat = 2 ^ k - 1) : 0 ≤ (x &&& m).toInt ∧ (x &&& m).toInt < 2 ^ k := by
  obtain ⟨j, hj, e⟩ := pk_andE x k hm
  have hp : 2 ^ k ≤ 2 ^ 31 := Nat.pow_le_pow_right (by omega) hk
  rw [e, nI_toInt (by omega)]
  exact ⟨by omega, by exact_mod_cast hj⟩
theorem q_31 (x : Int32) : 0 ≤ (x &&& 31).toInt ∧ (x &&& 31).toInt < 32 := q_and x 5 (by omega) (by decide)
theorem q_7 (x : Int32) : 0 ≤ (x &&& 7).toInt ∧ (x &&& 7).toInt < 8 := q_and x 3 (by omega) (by decide)
theorem q_3 (x : Int32) : 0 ≤ (x &&& 3).toInt ∧ (x &&& 3).toInt < 4 := q_and x 2 (by omega) (by decide)
theorem q_z {v : Value} : v = v := rfl
end
section
def w_H (hcount : Int32) (haddr : Nat → Int32) (hcyc : Nat → Int32) (hret : Nat → Int32) : List va_E := [.inr (1, [.int hcount, .ref 1, .ref 2, .ref 3]), .inl (1, 16, .inl haddr), .inl (1, 16, .inl hcyc), .inl (1, 16, .inl hret)]
def w_L (lcount : Int32) (lkeys : Nat → Int64) (lplaces : Nat → Int32) : List va_E := [.inr (2, [.int lcount, .ref 1, .ref 2]), .inl (2, 16, .inr (.inl lkeys)), .inl (1, 16, .inl lplaces)]
theorem gd_J9_floorMod_7cf53 : yJ9_floorMod_7cf53.cls ≠ "java/lang/invoke/MethodHandle" ∧ yJ9_floorMod_7cf53.cls ≠ "java/lang/invoke/VarHandle" ∧ (parseMethodDescriptor yJ9_floorMod_7cf53.desc).map (fun d => d.parameters.length) = some 2 := ⟨by decide, by decide, by decide +kernel⟩
theorem gd_X1_op : yX1_op.cls ≠ "java/lang/invoke/MethodHandle" ∧ yX1_op.cls ≠ "java/lang/invoke/VarHandle" ∧ (parseMethodDescriptor yX1_op.desc).map (fun d => d.parameters.length) = some 1 := ⟨by decide, by decide, by decide +kernel⟩
theorem gd_X1_rd : yX1_rd.cls ≠ "java/lang/invoke/MethodHandle" ∧ yX1_rd.cls ≠ "java/lang/invoke/VarHandle" ∧ (parseMethodDescriptor yX1_rd.desc).map (fun d => d.parameters.length) = some 1 := ⟨by decide, by decide, by decide +kernel⟩
theorem gd_X1_f : yX1_f.cls ≠ "java/lang/invoke/MethodHandle" ∧ yX1_f.cls ≠ "java/lang/invoke/VarHandle" ∧ (parseMethodDescriptor yX1_f.desc).map (fun d => d.parameters.length) = some 1 := ⟨by decide, by decide, by decide +kernel⟩
theorem gd_X1_rs : yX1_rs.cls ≠ "java/lang/invoke/MethodHandle" ∧ yX1_rs.cls ≠ "java/lang/invoke/VarHandle" ∧ (parseMethodDescriptor yX1_rs.desc).map (fun d => d.parameters.length) = some 1 := ⟨by decide, by decide, by decide +kernel⟩
theorem gd_X1_rt : yX1_rt.cls ≠ "java/lang/invoke/MethodHandle" ∧ yX1_rt.cls ≠ "java/lang/invoke/VarHandle" ∧ (parseMethodDescriptor yX1_rt.desc).map (fun d => d.parameters.length) = some 1 := ⟨by decide, by decide, by decide +kernel⟩
theorem gd_X1_g : yX1_g.cls ≠ "java/lang/invoke/MethodHandle" ∧ yX1_g.cls ≠ "java/lang/invoke/VarHandle" ∧ (parseMethodDescriptor yX1_g.desc).map (fun d => d.parameters.length) = some 1 := ⟨by decide, by decide, by decide +kernel⟩
theorem gd_X1_numberI : yX1_numberI.cls ≠ "java/lang/invoke/MethodHandle" ∧ yX1_numberI.cls ≠ "java/lang/invoke/VarHandle" ∧ (parseMethodDescriptor yX1_numberI.desc).map (fun d => d.parameters.length) = some 1 := ⟨by decide, by decide, by decide +kernel⟩
theorem gd_X1_numberS : yX1_numberS.cls ≠ "java/lang/invoke/MethodHandle" ∧ yX1_numberS.cls ≠ "java/lang/invoke/VarHandle" ∧ (parseMethodDescriptor yX1_numberS.desc).map (fun d => d.parameters.length) = some 1 := ⟨by decide, by decide, by decide +kernel⟩
theorem gd_X1_numberB : yX1_numberB.cls ≠ "java/lang/invoke/MethodHandle" ∧ yX1_numberB.cls ≠ "java/lang/invoke/VarHandle" ∧ (parseMethodDescriptor yX1_numberB.desc).map (fun d => d.parameters.length) = some 1 := ⟨by decide, by decide, by decide +kernel⟩
theorem gd_X1_numberJ : yX1_numberJ.cls ≠ "java/lang/invoke/MethodHandle" ∧ yX1_numberJ.cls ≠ "java/lang/invoke/VarHandle" ∧ (parseMethodDescriptor yX1_numberJ.desc).map (fun d => d.parameters.length) = some 1 := ⟨by decide, by decide, by decide +kernel⟩
theorem gd_X1_numberU : yX1_numberU.cls ≠ "java/lang/invoke/MethodHandle" ∧ yX1_numberU.cls ≠ "java/lang/invoke/VarHandle" ∧ (parseMethodDescriptor yX1_numberU.desc).map (fun d => d.parameters.length) = some 1 := ⟨by decide, by decide, by decide +kernel⟩
theorem gd_X1_bitsOfS : yX1_bitsOfS.cls ≠ "java/lang/invoke/MethodHandle" ∧ yX1_bitsOfS.cls ≠ "java/lang/invoke/VarHandle" ∧ (parseMethodDescriptor yX1_bitsOfS.desc).map (fun d => d.parameters.length) = some 1 := ⟨by decide, by decide, by decide +kernel⟩
theorem gd_X1_bitsOfB : yX1_bitsOfB.cls ≠ "java/lang/invoke/MethodHandle" ∧ yX1_bitsOfB.cls ≠ "java/lang/invoke/VarHandle" ∧ (parseMethodDescriptor yX1_bitsOfB.desc).map (fun d => d.parameters.length) = some 1 := ⟨by decide, by decide, by decide +kernel⟩
theorem gd_X1_bitsOfJ : yX1_bitsOfJ.cls ≠ "java/lang/invoke/MethodHandle" ∧ yX1_bitsOfJ.cls ≠ "java/lang/invoke/VarHandle" ∧ (parseMethodDescriptor yX1_bitsOfJ.desc).map (fun d => d.parameters.length) = some 1 := ⟨by decide, by decide, by decide +kernel⟩
theorem gd_X2_placeOf : yX2_placeOf.cls ≠ "java/lang/invoke/MethodHandle" ∧ yX2_placeOf.cls ≠ "java/lang/invoke/VarHandle" ∧ (parseMethodDescriptor yX2_placeOf.desc).map (fun d => d.parameters.length) = some 1 := ⟨by decide, by decide, by decide +kernel⟩
theorem gd_X3_find : yX3_find.cls ≠ "java/lang/invoke/MethodHandle" ∧ yX3_find.cls ≠ "java/lang/invoke/VarHandle" ∧ (parseMethodDescriptor yX3_find.desc).map (fun d => d.parameters.length) = some 1 := ⟨by decide, by decide, by decide +kernel⟩
abbrev M_J9_floorMod_7cf53 : g_M := (cJ9_floorMod_7cf53, 3, RJ9, (some .int), { frames := 0, cells := 0, slots := 0, locals := 0 }, 0, 0)
theorem dm_J9_floorMod_7cf53_0 : decode M_J9_floorMod_7cf53.1 0 = .ok (.iload_n 0, 1) := by decide +kernel
theorem dm_J9_floorMod_7cf53_1 : decode M_J9_floorMod_7cf53.1 1 = .ok (.iload_n 1, 1) := by decide +kernel
theorem dm_J9_floorMod_7cf53_2 : decode M_J9_floorMod_7cf53.1 2 = .ok (.irem, 1) := by decide +kernel
theorem dm_J9_floorMod_7cf53_3 : decode M_J9_floorMod_7cf53.1 3 = .ok (.istore_n 2, 1) := by decide +kernel
theorem dm_J9_floorMod_7cf53_4 : decode M_J9_floorMod_7cf53.1 4 = .ok (.iload_n 0, 1) := by decide +kernel
theorem dm_J9_floorMod_7cf53_5 : decode M_J9_floorMod_7cf53.1 5 = .ok (.iload_n 1, 1) := by decide +kernel
theorem dm_J9_floorMod_7cf53_6 : decode M_J9_floorMod_7cf53.1 6 = .ok (.ixor, 1) := by decide +kernel
theorem dm_J9_floorMod_7cf53_7 : decode M_J9_floorMod_7cf53.1 7 = .ok (.ifCond .ge 11, 3) := by decide +kernel
theorem dm_J9_floorMod_7cf53_10 : decode M_J9_floorMod_7cf53.1 10 = .ok (.iload_n 2, 1) := by decide +kernel
theorem dm_J9_floorMod_7cf53_11 : decode M_J9_floorMod_7cf53.1 11 = .ok (.ifCond .eq 7, 3) := by decide +kernel
theorem dm_J9_floorMod_7cf53_14 : decode M_J9_floorMod_7cf53.1 14 = .ok (.iload_n 2, 1) := by decide +kernel
theorem dm_J9_floorMod_7cf53_15 : decode M_J9_floorMod_7cf53.1 15 = .ok (.iload_n 1, 1) := by decide +kernel
theorem dm_J9_floorMod_7cf53_16 : decode M_J9_floorMod_7cf53.1 16 = .ok (.iadd, 1) := by decide +kernel
theorem dm_J9_floorMod_7cf53_17 : decode M_J9_floorMod_7cf53.1 17 = .ok (.ireturn, 1) := by decide +kernel
theorem dm_J9_floorMod_7cf53_18 : decode M_J9_floorMod_7cf53.1 18 = .ok (.iload_n 2, 1) := by decide +kernel
theorem dm_J9_floorMod_7cf53_19 : decode M_J9_floorMod_7cf53.1 19 = .ok (.ireturn, 1) := by decide +kernel
def f_J9_floorMod_7cf53 (x : Int32) (y : Int32) : Int32 := (if 0 ≤ (x ^^^ y) then (x - x / y * y) else (if (x - x / y * y) = 0 then (x - x / y * y) else ((x - x / y * y) + y)))
set_option maxRecDepth 100000 in
theorem k_J9_floorMod_7cf53 {x : Int32} {y : Int32} (hne : ¬ y = 0) : K M_J9_floorMod_7cf53 yJ9_floorMod_7cf53 [.int x, .int y] [] (some (.int (f_J9_floorMod_7cf53 x y))) [] := by
  refine K.of (lv := [(0, .int x), (1, .int y)]) (by decide +kernel) rfl rfl rfl ?_
  obtain ⟨res, hres⟩ : ∃ z, z = (f_J9_floorMod_7cf53 x y) := ⟨_, rfl⟩
  rw [← hres]
  rw [f_J9_floorMod_7cf53] at hres
  refine G.iload_n (pc := 0) dm_J9_floorMod_7cf53_0 rfl ?_
  refine G.iload_n (pc := 1) dm_J9_floorMod_7cf53_1 rfl ?_
  refine G.irem (pc := 2) dm_J9_floorMod_7cf53_2 hne ?_
  refine G.istore_n (pc := 3) (lv1 := [(2, .int (x - x / y * y)), (0, .int x), (1, .int y)]) dm_J9_floorMod_7cf53_3 rfl rfl ?_
  refine G.iload_n (pc := 4) dm_J9_floorMod_7cf53_4 rfl ?_
  refine G.iload_n (pc := 5) dm_J9_floorMod_7cf53_5 rfl ?_
  refine G.ixor (pc := 6) dm_J9_floorMod_7cf53_6 ?_
  refine G.if_ge (pc := 7) (tgt := 18) dm_J9_floorMod_7cf53_7 (by decide) (fun c7 => ?_) (fun c7 => ?_)
  · rw [if_pos c7] at hres
    refine G.iload_n (pc := 18) dm_J9_floorMod_7cf53_18 rfl ?_
    subst hres
    exact G.ireturn (pc := 19) dm_J9_floorMod_7cf53_19 rfl rfl rfl
  · rw [if_neg c7] at hres
    refine G.iload_n (pc := 10) dm_J9_floorMod_7cf53_10 rfl ?_
    refine G.if_eq (pc := 11) (tgt := 18) dm_J9_floorMod_7cf53_11 (by decide) (fun c11 => ?_) (fun c11 => ?_)
    · rw [if_pos c11] at hres
      refine G.iload_n (pc := 18) dm_J9_floorMod_7cf53_18 rfl ?_
      subst hres
      exact G.ireturn (pc := 19) dm_J9_floorMod_7cf53_19 rfl rfl rfl
    · rw [if_neg c11] at hres
      refine G.iload_n (pc := 14) dm_J9_floorMod_7cf53_14 rfl ?_
      refine G.iload_n (pc := 15) dm_J9_floorMod_7cf53_15 rfl ?_
      refine G.iadd (pc := 16) dm_J9_floorMod_7cf53_16 ?_
      subst hres
      exact G.ireturn (pc := 17) dm_J9_floorMod_7cf53_17 rfl rfl rfl
abbrev M_X1_op : g_M := (cX1_op, 1, RX1, (some .int), { frames := 0, cells := 0, slots := 0, locals := 0 }, 0, 0)
theorem dm_X1_op_0 : decode M_X1_op.1 0 = .ok (.iload_n 0, 1) := by decide +kernel
theorem dm_X1_op_1 : decode M_X1_op.1 1 = .ok (.bipush 127, 2) := by decide +kernel
theorem dm_X1_op_3 : decode M_X1_op.1 3 = .ok (.iand, 1) := by decide +kernel
theorem dm_X1_op_4 : decode M_X1_op.1 4 = .ok (.ireturn, 1) := by decide +kernel
def f_X1_op (x : Int32) : Int32 := (x &&& 127)
set_option maxRecDepth 100000 in
theorem k_X1_op {x : Int32} : K M_X1_op yX1_op [.int x] [] (some (.int (f_X1_op x))) [] := by
  refine K.of (lv := [(0, .int x)]) (by decide +kernel) rfl rfl rfl ?_
  obtain ⟨res, hres⟩ : ∃ z, z = (f_X1_op x) := ⟨_, rfl⟩
  rw [← hres]
  rw [f_X1_op] at hres
  refine G.iload_n (pc := 0) dm_X1_op_0 rfl ?_
  refine G.bipush (pc := 1) (v := 127) dm_X1_op_1 qb_127 ?_
  refine G.iand (pc := 3) dm_X1_op_3 ?_
  subst hres
  exact G.ireturn (pc := 4) dm_X1_op_4 rfl rfl rfl
abbrev M_X1_rd : g_M := (cX1_rd, 1, RX1, (some .int), { frames := 0, cells := 0, slots := 0, locals := 0 }, 0, 0)
theorem dm_X1_rd_0 : decode M_X1_rd.1 0 = .ok (.iload_n 0, 1) := by decide +kernel
theorem dm_X1_rd_1 : decode M_X1_rd.1 1 = .ok (.bipush 7, 2) := by decide +kernel
theorem dm_X1_rd_3 : decode M_X1_rd.1 3 = .ok (.iushr, 1) := by decide +kernel
theorem dm_X1_rd_4 : decode M_X1_rd.1 4 = .ok (.bipush 31, 2) := by decide +kernel
theorem dm_X1_rd_6 : decode M_X1_rd.1 6 = .ok (.iand, 1) := by decide +kernel
theorem dm_X1_rd_7 : decode M_X1_rd.1 7 = .ok (.ireturn, 1) := by decide +kernel
def f_X1_rd (x : Int32) : Int32 := ((g_ushr x 7) &&& 31)
set_option maxRecDepth 100000 in
theorem k_X1_rd {x : Int32} : K M_X1_rd yX1_rd [.int x] [] (some (.int (f_X1_rd x))) [] := by
  refine K.of (lv := [(0, .int x)]) (by decide +kernel) rfl rfl rfl ?_
  obtain ⟨res, hres⟩ : ∃ z, z = (f_X1_rd x) := ⟨_, rfl⟩
  rw [← hres]
  rw [f_X1_rd] at hres
  refine G.iload_n (pc := 0) dm_X1_rd_0 rfl ?_
  refine G.bipush (pc := 1) (v := 7) dm_X1_rd_1 qb_7 ?_
  refine G.iushr (pc := 3) dm_X1_rd_3 ?_
  refine G.bipush (pc := 4) (v := 31) dm_X1_rd_4 qb_31 ?_
  refine G.iand (pc := 6) dm_X1_rd_6 ?_
  subst hres
  exact G.ireturn (pc := 7) dm_X1_rd_7 rfl rfl rfl
abbrev M_X1_f : g_M := (cX1_f, 1, RX1, (some .int), { frames := 0, cells := 0, slots := 0, locals := 0 }, 0, 0)
theorem dm_X1_f_0 : decode M_X1_f.1 0 = .ok (.iload_n 0, 1) := by decide +kernel
theorem dm_X1_f_1 : decode M_X1_f.1 1 = .ok (.bipush 12, 2) := by decide +kernel
theorem dm_X1_f_3 : decode M_X1_f.1 3 = .ok (.iushr, 1) := by decide +kernel
theorem dm_X1_f_4 : decode M_X1_f.1 4 = .ok (.bipush 7, 2) := by decide +kernel
theorem dm_X1_f_6 : decode M_X1_f.1 6 = .ok (.iand, 1) := by decide +kernel
theorem dm_X1_f_7 : decode M_X1_f.1 7 = .ok (.ireturn, 1) := by decide +kernel
def f_X1_f (x : Int32) : Int32 := ((g_ushr x 12) &&& 7)
set_option maxRecDepth 100000 in
theorem k_X1_f {x : Int32} : K M_X1_f yX1_f [.int x] [] (some (.int (f_X1_f x))) [] := by
  refine K.of (lv := [(0, .int x)]) (by decide +kernel) rfl rfl rfl ?_
  obtain ⟨res, hres⟩ : ∃ z, z = (f_X1_f x) := ⟨_, rfl⟩
  rw [← hres]
  rw [f_X1_f] at hres
  refine G.iload_n (pc := 0) dm_X1_f_0 rfl ?_
  refine G.bipush (pc := 1) (v := 12) dm_X1_f_1 qb_12 ?_
  refine G.iushr (pc := 3) dm_X1_f_3 ?_
  refine G.bipush (pc := 4) (v := 7) dm_X1_f_4 qb_7 ?_
  refine G.iand (pc := 6) dm_X1_f_6 ?_
  subst hres
  exact G.ireturn (pc := 7) dm_X1_f_7 rfl rfl rfl
abbrev M_X1_rs : g_M := (cX1_rs, 1, RX1, (some .int), { frames := 0, cells := 0, slots := 0, locals := 0 }, 0, 0)
theorem dm_X1_rs_0 : decode M_X1_rs.1 0 = .ok (.iload_n 0, 1) := by decide +kernel
theorem dm_X1_rs_1 : decode M_X1_rs.1 1 = .ok (.bipush 15, 2) := by decide +kernel
theorem dm_X1_rs_3 : decode M_X1_rs.1 3 = .ok (.iushr, 1) := by decide +kernel
theorem dm_X1_rs_4 : decode M_X1_rs.1 4 = .ok (.bipush 31, 2) := by decide +kernel
theorem dm_X1_rs_6 : decode M_X1_rs.1 6 = .ok (.iand, 1) := by decide +kernel
theorem dm_X1_rs_7 : decode M_X1_rs.1 7 = .ok (.ireturn, 1) := by decide +kernel
def f_X1_rs (x : Int32) : Int32 := ((g_ushr x 15) &&& 31)
set_option maxRecDepth 100000 in
theorem k_X1_rs {x : Int32} : K M_X1_rs yX1_rs [.int x] [] (some (.int (f_X1_rs x))) [] := by
  refine K.of (lv := [(0, .int x)]) (by decide +kernel) rfl rfl rfl ?_
  obtain ⟨res, hres⟩ : ∃ z, z = (f_X1_rs x) := ⟨_, rfl⟩
  rw [← hres]
  rw [f_X1_rs] at hres
  refine G.iload_n (pc := 0) dm_X1_rs_0 rfl ?_
  refine G.bipush (pc := 1) (v := 15) dm_X1_rs_1 qb_15 ?_
  refine G.iushr (pc := 3) dm_X1_rs_3 ?_
  refine G.bipush (pc := 4) (v := 31) dm_X1_rs_4 qb_31 ?_
  refine G.iand (pc := 6) dm_X1_rs_6 ?_
  subst hres
  exact G.ireturn (pc := 7) dm_X1_rs_7 rfl rfl rfl
abbrev M_X1_rt : g_M := (cX1_rt, 1, RX1, (some .int), { frames := 0, cells := 0, slots := 0, locals := 0 }, 0, 0)
theorem dm_X1_rt_0 : decode M_X1_rt.1 0 = .ok (.iload_n 0, 1) := by decide +kernel
theorem dm_X1_rt_1 : decode M_X1_rt.1 1 = .ok (.bipush 20, 2) := by decide +kernel
theorem dm_X1_rt_3 : decode M_X1_rt.1 3 = .ok (.iushr, 1) := by decide +kernel
theorem dm_X1_rt_4 : decode M_X1_rt.1 4 = .ok (.bipush 31, 2) := by decide +kernel
theorem dm_X1_rt_6 : decode M_X1_rt.1 6 = .ok (.iand, 1) := by decide +kernel
theorem dm_X1_rt_7 : decode M_X1_rt.1 7 = .ok (.ireturn, 1) := by decide +kernel
def f_X1_rt (x : Int32) : Int32 := ((g_ushr x 20) &&& 31)
set_option maxRecDepth 100000 in
theorem k_X1_rt {x : Int32} : K M_X1_rt yX1_rt [.int x] [] (some (.int (f_X1_rt x))) [] := by
  refine K.of (lv := [(0, .int x)]) (by decide +kernel) rfl rfl rfl ?_
  obtain ⟨res, hres⟩ : ∃ z, z = (f_X1_rt x) := ⟨_, rfl⟩
  rw [← hres]
  rw [f_X1_rt] at hres
  refine G.iload_n (pc := 0) dm_X1_rt_0 rfl ?_
  refine G.bipush (pc := 1) (v := 20) dm_X1_rt_1 qb_20 ?_
  refine G.iushr (pc := 3) dm_X1_rt_3 ?_
  refine G.bipush (pc := 4) (v := 31) dm_X1_rt_4 qb_31 ?_
  refine G.iand (pc := 6) dm_X1_rt_6 ?_
  subst hres
  exact G.ireturn (pc := 7) dm_X1_rt_7 rfl rfl rfl
abbrev M_X1_g : g_M := (cX1_g, 1, RX1, (some .int), { frames := 0, cells := 0, slots := 0, locals := 0 }, 0, 0)
theorem dm_X1_g_0 : decode M_X1_g.1 0 = .ok (.iload_n 0, 1) := by decide +kernel
theorem dm_X1_g_1 : decode M_X1_g.1 1 = .ok (.bipush 25, 2) := by decide +kernel
theorem dm_X1_g_3 : decode M_X1_g.1 3 = .ok (.iushr, 1) := by decide +kernel
theorem dm_X1_g_4 : decode M_X1_g.1 4 = .ok (.ireturn, 1) := by decide +kernel
def f_X1_g (x : Int32) : Int32 := (g_ushr x 25)
set_option maxRecDepth 100000 in
theorem k_X1_g {x : Int32} : K M_X1_g yX1_g [.int x] [] (some (.int (f_X1_g x))) [] := by
  refine K.of (lv := [(0, .int x)]) (by decide +kernel) rfl rfl rfl ?_
  obtain ⟨res, hres⟩ : ∃ z, z = (f_X1_g x) := ⟨_, rfl⟩
  rw [← hres]
  rw [f_X1_g] at hres
  refine G.iload_n (pc := 0) dm_X1_g_0 rfl ?_
  refine G.bipush (pc := 1) (v := 25) dm_X1_g_1 qb_25 ?_
  refine G.iushr (pc := 3) dm_X1_g_3 ?_
  subst hres
  exact G.ireturn (pc := 4) dm_X1_g_4 rfl rfl rfl
abbrev M_X1_numberI : g_M := (cX1_numberI, 1, RX1, (some .int), { frames := 0, cells := 0, slots := 0, locals := 0 }, 0, 0)
theorem dm_X1_numberI_0 : decode M_X1_numberI.1 0 = .ok (.iload_n 0, 1) := by decide +kernel
theorem dm_X1_numberI_1 : decode M_X1_numberI.1 1 = .ok (.bipush 20, 2) := by decide +kernel
theorem dm_X1_numberI_3 : decode M_X1_numberI.1 3 = .ok (.ishr, 1) := by decide +kernel
theorem dm_X1_numberI_4 : decode M_X1_numberI.1 4 = .ok (.ireturn, 1) := by decide +kernel
def f_X1_numberI (x : Int32) : Int32 := (x >>> (20 &&& 31))
set_option maxRecDepth 100000 in
theorem k_X1_numberI {x : Int32} : K M_X1_numberI yX1_numberI [.int x] [] (some (.int (f_X1_numberI x))) [] := by
  refine K.of (lv := [(0, .int x)]) (by decide +kernel) rfl rfl rfl ?_
  obtain ⟨res, hres⟩ : ∃ z, z = (f_X1_numberI x) := ⟨_, rfl⟩
  rw [← hres]
  rw [f_X1_numberI] at hres
  refine G.iload_n (pc := 0) dm_X1_numberI_0 rfl ?_
  refine G.bipush (pc := 1) (v := 20) dm_X1_numberI_1 qb_20 ?_
  refine G.ishr (pc := 3) dm_X1_numberI_3 ?_
  subst hres
  exact G.ireturn (pc := 4) dm_X1_numberI_4 rfl rfl rfl
abbrev M_X1_numberS : g_M := (cX1_numberS, 1, RX1, (some .int), { frames := 1, cells := 0, slots := 0, locals := 20 }, 0, 0)
theorem dm_X1_numberS_0 : decode M_X1_numberS.1 0 = .ok (.iload_n 0, 1) := by decide +kernel
theorem dm_X1_numberS_1 : decode M_X1_numberS.1 1 = .ok (.bipush 25, 2) := by decide +kernel
theorem dm_X1_numberS_3 : decode M_X1_numberS.1 3 = .ok (.ishr, 1) := by decide +kernel
theorem dm_X1_numberS_4 : decode M_X1_numberS.1 4 = .ok (.iconst 5, 1) := by decide +kernel
theorem dm_X1_numberS_5 : decode M_X1_numberS.1 5 = .ok (.ishl, 1) := by decide +kernel
theorem dm_X1_numberS_6 : decode M_X1_numberS.1 6 = .ok (.iload_n 0, 1) := by decide +kernel
theorem dm_X1_numberS_7 : decode M_X1_numberS.1 7 = .ok (.invokestatic 9, 3) := by decide +kernel
theorem dm_X1_numberS_10 : decode M_X1_numberS.1 10 = .ok (.ior, 1) := by decide +kernel
theorem dm_X1_numberS_11 : decode M_X1_numberS.1 11 = .ok (.ireturn, 1) := by decide +kernel
theorem gc_X1_numberS_9 : g_cs M_X1_numberS 9 M_X1_rd yX1_rd 1 := ⟨tw717, tw632, tw358, tw633, ⟨rfl, rfl, rfl, rfl⟩, gd_X1_rd, ⟨by decide, by decide⟩⟩
def f_X1_numberS_c7 (x : Int32) (z1 : Int32) : Int32 := (((x >>> (25 &&& 31)) <<< (5 &&& 31)) ||| z1)
def f_X1_numberS (x : Int32) : Int32 := (f_X1_numberS_c7 x (f_X1_rd x))
set_option maxRecDepth 100000 in
theorem k_X1_numberS {x : Int32} : K M_X1_numberS yX1_numberS [.int x] [] (some (.int (f_X1_numberS x))) [] := by
  refine K.of (lv := [(0, .int x)]) (by decide +kernel) rfl rfl rfl ?_
  obtain ⟨res, hres⟩ : ∃ z, z = (f_X1_numberS x) := ⟨_, rfl⟩
  rw [← hres]
  rw [f_X1_numberS] at hres
  refine G.iload_n (pc := 0) dm_X1_numberS_0 rfl ?_
  refine G.bipush (pc := 1) (v := 25) dm_X1_numberS_1 qb_25 ?_
  refine G.ishr (pc := 3) dm_X1_numberS_3 ?_
  refine G.iconst (pc := 4) (v := 5) dm_X1_numberS_4 qi_5 ?_
  refine G.ishl (pc := 5) dm_X1_numberS_5 ?_
  refine G.iload_n (pc := 6) dm_X1_numberS_6 rfl ?_
  refine G.callS (pc := 7) (rest := [.int ((x >>> (25 &&& 31)) <<< (5 &&& 31))]) (st1 := [.int (f_X1_rd x), .int ((x >>> (25 &&& 31)) <<< (5 &&& 31))]) (ws1 := []) [] dm_X1_numberS_7 gc_X1_numberS_9 (k_X1_rd (x := x)) rfl rfl rfl rfl rfl rfl rfl rfl ?_
  generalize hz1 : f_X1_rd x = z1 at hres ⊢
  rw [f_X1_numberS_c7] at hres
  refine G.ior (pc := 10) dm_X1_numberS_10 ?_
  subst hres
  exact G.ireturn (pc := 11) dm_X1_numberS_11 rfl rfl rfl
abbrev M_X1_numberB : g_M := (cX1_numberB, 1, RX1, (some .int), { frames := 0, cells := 0, slots := 0, locals := 0 }, 0, 0)
theorem dm_X1_numberB_0 : decode M_X1_numberB.1 0 = .ok (.iload_n 0, 1) := by decide +kernel
theorem dm_X1_numberB_1 : decode M_X1_numberB.1 1 = .ok (.bipush 31, 2) := by decide +kernel
theorem dm_X1_numberB_3 : decode M_X1_numberB.1 3 = .ok (.ishr, 1) := by decide +kernel
theorem dm_X1_numberB_4 : decode M_X1_numberB.1 4 = .ok (.bipush 12, 2) := by decide +kernel
theorem dm_X1_numberB_6 : decode M_X1_numberB.1 6 = .ok (.ishl, 1) := by decide +kernel
theorem dm_X1_numberB_7 : decode M_X1_numberB.1 7 = .ok (.iload_n 0, 1) := by decide +kernel
theorem dm_X1_numberB_8 : decode M_X1_numberB.1 8 = .ok (.iconst 4, 1) := by decide +kernel
theorem dm_X1_numberB_9 : decode M_X1_numberB.1 9 = .ok (.ishl, 1) := by decide +kernel
theorem dm_X1_numberB_10 : decode M_X1_numberB.1 10 = .ok (.sipush 2048, 3) := by decide +kernel
theorem dm_X1_numberB_13 : decode M_X1_numberB.1 13 = .ok (.iand, 1) := by decide +kernel
theorem dm_X1_numberB_14 : decode M_X1_numberB.1 14 = .ok (.ior, 1) := by decide +kernel
theorem dm_X1_numberB_15 : decode M_X1_numberB.1 15 = .ok (.iload_n 0, 1) := by decide +kernel
theorem dm_X1_numberB_16 : decode M_X1_numberB.1 16 = .ok (.bipush 20, 2) := by decide +kernel
theorem dm_X1_numberB_18 : decode M_X1_numberB.1 18 = .ok (.iushr, 1) := by decide +kernel
theorem dm_X1_numberB_19 : decode M_X1_numberB.1 19 = .ok (.sipush 2016, 3) := by decide +kernel
theorem dm_X1_numberB_22 : decode M_X1_numberB.1 22 = .ok (.iand, 1) := by decide +kernel
theorem dm_X1_numberB_23 : decode M_X1_numberB.1 23 = .ok (.ior, 1) := by decide +kernel
theorem dm_X1_numberB_24 : decode M_X1_numberB.1 24 = .ok (.iload_n 0, 1) := by decide +kernel
theorem dm_X1_numberB_25 : decode M_X1_numberB.1 25 = .ok (.bipush 7, 2) := by decide +kernel
theorem dm_X1_numberB_27 : decode M_X1_numberB.1 27 = .ok (.iushr, 1) := by decide +kernel
theorem dm_X1_numberB_28 : decode M_X1_numberB.1 28 = .ok (.bipush 30, 2) := by decide +kernel
theorem dm_X1_numberB_30 : decode M_X1_numberB.1 30 = .ok (.iand, 1) := by decide +kernel
theorem dm_X1_numberB_31 : decode M_X1_numberB.1 31 = .ok (.ior, 1) := by decide +kernel
theorem dm_X1_numberB_32 : decode M_X1_numberB.1 32 = .ok (.ireturn, 1) := by decide +kernel
def f_X1_numberB (x : Int32) : Int32 := (((((x >>> (31 &&& 31)) <<< (12 &&& 31)) ||| ((x <<< (4 &&& 31)) &&& 2048)) ||| ((g_ushr x 20) &&& 2016)) ||| ((g_ushr x 7) &&& 30))
set_option maxRecDepth 100000 in
theorem k_X1_numberB {x : Int32} : K M_X1_numberB yX1_numberB [.int x] [] (some (.int (f_X1_numberB x))) [] := by
  refine K.of (lv := [(0, .int x)]) (by decide +kernel) rfl rfl rfl ?_
  obtain ⟨res, hres⟩ : ∃ z, z = (f_X1_numberB x) := ⟨_, rfl⟩
  rw [← hres]
  rw [f_X1_numberB] at hres
  refine G.iload_n (pc := 0) dm_X1_numberB_0 rfl ?_
  refine G.bipush (pc := 1) (v := 31) dm_X1_numberB_1 qb_31 ?_
  refine G.ishr (pc := 3) dm_X1_numberB_3 ?_
  refine G.bipush (pc := 4) (v := 12) dm_X1_numberB_4 qb_12 ?_
  refine G.ishl (pc := 6) dm_X1_numberB_6 ?_
  refine G.iload_n (pc := 7) dm_X1_numberB_7 rfl ?_
  refine G.iconst (pc := 8) (v := 4) dm_X1_numberB_8 qi_4 ?_
  refine G.ishl (pc := 9) dm_X1_numberB_9 ?_
  refine G.sipush (pc := 10) (v := 2048) dm_X1_numberB_10 qs_2048 ?_
  refine G.iand (pc := 13) dm_X1_numberB_13 ?_
  refine G.ior (pc := 14) dm_X1_numberB_14 ?_
  refine G.iload_n (pc := 15) dm_X1_numberB_15 rfl ?_
  refine G.bipush (pc := 16) (v := 20) dm_X1_numberB_16 qb_20 ?_
  refine G.iushr (pc := 18) dm_X1_numberB_18 ?_
  refine G.sipush (pc := 19) (v := 2016) dm_X1_numberB_19 qs_2016 ?_
  refine G.iand (pc := 22) dm_X1_numberB_22 ?_
  refine G.ior (pc := 23) dm_X1_numberB_23 ?_
  refine G.iload_n (pc := 24) dm_X1_numberB_24 rfl ?_
  refine G.bipush (pc := 25) (v := 7) dm_X1_numberB_25 qb_7 ?_
  refine G.iushr (pc := 27) dm_X1_numberB_27 ?_
  refine G.bipush (pc := 28) (v := 30) dm_X1_numberB_28 qb_30 ?_
  refine G.iand (pc := 30) dm_X1_numberB_30 ?_
  refine G.ior (pc := 31) dm_X1_numberB_31 ?_
  subst hres
  exact G.ireturn (pc := 32) dm_X1_numberB_32 rfl rfl rfl
abbrev M_X1_numberJ : g_M := (cX1_numberJ, 1, RX1, (some .int), { frames := 0, cells := 0, slots := 0, locals := 0 }, 0, 0)
theorem dm_X1_numberJ_0 : decode M_X1_numberJ.1 0 = .ok (.iload_n 0, 1) := by decide +kernel
theorem dm_X1_numberJ_1 : decode M_X1_numberJ.1 1 = .ok (.bipush 31, 2) := by decide +kernel
theorem dm_X1_numberJ_3 : decode M_X1_numberJ.1 3 = .ok (.ishr, 1) := by decide +kernel
theorem dm_X1_numberJ_4 : decode M_X1_numberJ.1 4 = .ok (.bipush 20, 2) := by decide +kernel
theorem dm_X1_numberJ_6 : decode M_X1_numberJ.1 6 = .ok (.ishl, 1) := by decide +kernel
theorem dm_X1_numberJ_7 : decode M_X1_numberJ.1 7 = .ok (.iload_n 0, 1) := by decide +kernel
theorem dm_X1_numberJ_8 : decode M_X1_numberJ.1 8 = .ok (.ldc 15, 2) := by decide +kernel
theorem dm_X1_numberJ_10 : decode M_X1_numberJ.1 10 = .ok (.iand, 1) := by decide +kernel
theorem dm_X1_numberJ_11 : decode M_X1_numberJ.1 11 = .ok (.ior, 1) := by decide +kernel
theorem dm_X1_numberJ_12 : decode M_X1_numberJ.1 12 = .ok (.iload_n 0, 1) := by decide +kernel
theorem dm_X1_numberJ_13 : decode M_X1_numberJ.1 13 = .ok (.bipush 9, 2) := by decide +kernel
theorem dm_X1_numberJ_15 : decode M_X1_numberJ.1 15 = .ok (.iushr, 1) := by decide +kernel
theorem dm_X1_numberJ_16 : decode M_X1_numberJ.1 16 = .ok (.sipush 2048, 3) := by decide +kernel
theorem dm_X1_numberJ_19 : decode M_X1_numberJ.1 19 = .ok (.iand, 1) := by decide +kernel
theorem dm_X1_numberJ_20 : decode M_X1_numberJ.1 20 = .ok (.ior, 1) := by decide +kernel
theorem dm_X1_numberJ_21 : decode M_X1_numberJ.1 21 = .ok (.iload_n 0, 1) := by decide +kernel
theorem dm_X1_numberJ_22 : decode M_X1_numberJ.1 22 = .ok (.bipush 20, 2) := by decide +kernel
theorem dm_X1_numberJ_24 : decode M_X1_numberJ.1 24 = .ok (.iushr, 1) := by decide +kernel
theorem dm_X1_numberJ_25 : decode M_X1_numberJ.1 25 = .ok (.sipush 2046, 3) := by decide +kernel
theorem dm_X1_numberJ_28 : decode M_X1_numberJ.1 28 = .ok (.iand, 1) := by decide +kernel
theorem dm_X1_numberJ_29 : decode M_X1_numberJ.1 29 = .ok (.ior, 1) := by decide +kernel
theorem dm_X1_numberJ_30 : decode M_X1_numberJ.1 30 = .ok (.ireturn, 1) := by decide +kernel
def f_X1_numberJ (x : Int32) : Int32 := (((((x >>> (31 &&& 31)) <<< (20 &&& 31)) ||| (x &&& 1044480)) ||| ((g_ushr x 9) &&& 2048)) ||| ((g_ushr x 20) &&& 2046))
set_option maxRecDepth 100000 in
theorem k_X1_numberJ {x : Int32} : K M_X1_numberJ yX1_numberJ [.int x] [] (some (.int (f_X1_numberJ x))) [] := by
  refine K.of (lv := [(0, .int x)]) (by decide +kernel) rfl rfl rfl ?_
  obtain ⟨res, hres⟩ : ∃ z, z = (f_X1_numberJ x) := ⟨_, rfl⟩
  rw [← hres]
  rw [f_X1_numberJ] at hres
  refine G.iload_n (pc := 0) dm_X1_numberJ_0 rfl ?_
  refine G.bipush (pc := 1) (v := 31) dm_X1_numberJ_1 qb_31 ?_
  refine G.ishr (pc := 3) dm_X1_numberJ_3 ?_
  refine G.bipush (pc := 4) (v := 20) dm_X1_numberJ_4 qb_20 ?_
  refine G.ishl (pc := 6) dm_X1_numberJ_6 ?_
  refine G.iload_n (pc := 7) dm_X1_numberJ_7 rfl ?_
  refine G.ldc (pc := 8) dm_X1_numberJ_8 tw370 ?_
  refine G.iand (pc := 10) dm_X1_numberJ_10 ?_
  refine G.ior (pc := 11) dm_X1_numberJ_11 ?_
  refine G.iload_n (pc := 12) dm_X1_numberJ_12 rfl ?_
  refine G.bipush (pc := 13) (v := 9) dm_X1_numberJ_13 qb_9 ?_
  refine G.iushr (pc := 15) dm_X1_numberJ_15 ?_
  refine G.sipush (pc := 16) (v := 2048) dm_X1_numberJ_16 qs_2048 ?_
  refine G.iand (pc := 19) dm_X1_numberJ_19 ?_
  refine G.ior (pc := 20) dm_X1_numberJ_20 ?_
  refine G.iload_n (pc := 21) dm_X1_numberJ_21 rfl ?_
  refine G.bipush (pc := 22) (v := 20) dm_X1_numberJ_22 qb_20 ?_
  refine G.iushr (pc := 24) dm_X1_numberJ_24 ?_
  refine G.sipush (pc := 25) (v := 2046) dm_X1_numberJ_25 qs_2046 ?_
  refine G.iand (pc := 28) dm_X1_numberJ_28 ?_
  refine G.ior (pc := 29) dm_X1_numberJ_29 ?_
  subst hres
  exact G.ireturn (pc := 30) dm_X1_numberJ_30 rfl rfl rfl
abbrev M_X1_numberU : g_M := (cX1_numberU, 1, RX1, (some .int), { frames := 0, cells := 0, slots := 0, locals := 0 }, 0, 0)
theorem dm_X1_numberU_0 : decode M_X1_numberU.1 0 = .ok (.iload_n 0, 1) := by decide +kernel
theorem dm_X1_numberU_1 : decode M_X1_numberU.1 1 = .ok (.sipush (-4096), 3) := by decide +kernel
theorem dm_X1_numberU_4 : decode M_X1_numberU.1 4 = .ok (.iand, 1) := by decide +kernel
theorem dm_X1_numberU_5 : decode M_X1_numberU.1 5 = .ok (.ireturn, 1) := by decide +kernel
def f_X1_numberU (x : Int32) : Int32 := (x &&& (-4096))
set_option maxRecDepth 100000 in
theorem k_X1_numberU {x : Int32} : K M_X1_numberU yX1_numberU [.int x] [] (some (.int (f_X1_numberU x))) [] := by
  refine K.of (lv := [(0, .int x)]) (by decide +kernel) rfl rfl rfl ?_
  obtain ⟨res, hres⟩ : ∃ z, z = (f_X1_numberU x) := ⟨_, rfl⟩
  rw [← hres]
  rw [f_X1_numberU] at hres
  refine G.iload_n (pc := 0) dm_X1_numberU_0 rfl ?_
  refine G.sipush (pc := 1) (v := (-4096)) dm_X1_numberU_1 qs_m4096 ?_
  refine G.iand (pc := 4) dm_X1_numberU_4 ?_
  subst hres
  exact G.ireturn (pc := 5) dm_X1_numberU_5 rfl rfl rfl
abbrev M_X1_bitsOfS : g_M := (cX1_bitsOfS, 1, RX1, (some .int), { frames := 0, cells := 0, slots := 0, locals := 0 }, 0, 0)
theorem dm_X1_bitsOfS_0 : decode M_X1_bitsOfS.1 0 = .ok (.iload_n 0, 1) := by decide +kernel
theorem dm_X1_bitsOfS_1 : decode M_X1_bitsOfS.1 1 = .ok (.iconst 5, 1) := by decide +kernel
theorem dm_X1_bitsOfS_2 : decode M_X1_bitsOfS.1 2 = .ok (.ishr, 1) := by decide +kernel
theorem dm_X1_bitsOfS_3 : decode M_X1_bitsOfS.1 3 = .ok (.bipush 25, 2) := by decide +kernel
theorem dm_X1_bitsOfS_5 : decode M_X1_bitsOfS.1 5 = .ok (.ishl, 1) := by decide +kernel
theorem dm_X1_bitsOfS_6 : decode M_X1_bitsOfS.1 6 = .ok (.iload_n 0, 1) := by decide +kernel
theorem dm_X1_bitsOfS_7 : decode M_X1_bitsOfS.1 7 = .ok (.bipush 31, 2) := by decide +kernel
theorem dm_X1_bitsOfS_9 : decode M_X1_bitsOfS.1 9 = .ok (.iand, 1) := by decide +kernel
theorem dm_X1_bitsOfS_10 : decode M_X1_bitsOfS.1 10 = .ok (.bipush 7, 2) := by decide +kernel
theorem dm_X1_bitsOfS_12 : decode M_X1_bitsOfS.1 12 = .ok (.ishl, 1) := by decide +kernel
theorem dm_X1_bitsOfS_13 : decode M_X1_bitsOfS.1 13 = .ok (.ior, 1) := by decide +kernel
theorem dm_X1_bitsOfS_14 : decode M_X1_bitsOfS.1 14 = .ok (.ireturn, 1) := by decide +kernel
def f_X1_bitsOfS (x : Int32) : Int32 := (((x >>> (5 &&& 31)) <<< (25 &&& 31)) ||| ((x &&& 31) <<< (7 &&& 31)))
set_option maxRecDepth 100000 in
theorem k_X1_bitsOfS {x : Int32} : K M_X1_bitsOfS yX1_bitsOfS [.int x] [] (some (.int (f_X1_bitsOfS x))) [] := by
  refine K.of (lv := [(0, .int x)]) (by decide +kernel) rfl rfl rfl ?_
  obtain ⟨res, hres⟩ : ∃ z, z = (f_X1_bitsOfS x) := ⟨_, rfl⟩
  rw [← hres]
  rw [f_X1_bitsOfS] at hres
  refine G.iload_n (pc := 0) dm_X1_bitsOfS_0 rfl ?_
  refine G.iconst (pc := 1) (v := 5) dm_X1_bitsOfS_1 qi_5 ?_
  refine G.ishr (pc := 2) dm_X1_bitsOfS_2 ?_
  refine G.bipush (pc := 3) (v := 25) dm_X1_bitsOfS_3 qb_25 ?_
  refine G.ishl (pc := 5) dm_X1_bitsOfS_5 ?_
  refine G.iload_n (pc := 6) dm_X1_bitsOfS_6 rfl ?_
  refine G.bipush (pc := 7) (v := 31) dm_X1_bitsOfS_7 qb_31 ?_
  refine G.iand (pc := 9) dm_X1_bitsOfS_9 ?_
  refine G.bipush (pc := 10) (v := 7) dm_X1_bitsOfS_10 qb_7 ?_
  refine G.ishl (pc := 12) dm_X1_bitsOfS_12 ?_
  refine G.ior (pc := 13) dm_X1_bitsOfS_13 ?_
  subst hres
  exact G.ireturn (pc := 14) dm_X1_bitsOfS_14 rfl rfl rfl
abbrev M_X1_bitsOfB : g_M := (cX1_bitsOfB, 1, RX1, (some .int), { frames := 0, cells := 0, slots := 0, locals := 0 }, 0, 0)
theorem dm_X1_bitsOfB_0 : decode M_X1_bitsOfB.1 0 = .ok (.iload_n 0, 1) := by decide +kernel
theorem dm_X1_bitsOfB_1 : decode M_X1_bitsOfB.1 1 = .ok (.bipush 12, 2) := by decide +kernel
theorem dm_X1_bitsOfB_3 : decode M_X1_bitsOfB.1 3 = .ok (.ishr, 1) := by decide +kernel
theorem dm_X1_bitsOfB_4 : decode M_X1_bitsOfB.1 4 = .ok (.bipush 31, 2) := by decide +kernel
theorem dm_X1_bitsOfB_6 : decode M_X1_bitsOfB.1 6 = .ok (.ishl, 1) := by decide +kernel
theorem dm_X1_bitsOfB_7 : decode M_X1_bitsOfB.1 7 = .ok (.iload_n 0, 1) := by decide +kernel
theorem dm_X1_bitsOfB_8 : decode M_X1_bitsOfB.1 8 = .ok (.sipush 2016, 3) := by decide +kernel
theorem dm_X1_bitsOfB_11 : decode M_X1_bitsOfB.1 11 = .ok (.iand, 1) := by decide +kernel
theorem dm_X1_bitsOfB_12 : decode M_X1_bitsOfB.1 12 = .ok (.bipush 20, 2) := by decide +kernel
theorem dm_X1_bitsOfB_14 : decode M_X1_bitsOfB.1 14 = .ok (.ishl, 1) := by decide +kernel
theorem dm_X1_bitsOfB_15 : decode M_X1_bitsOfB.1 15 = .ok (.ior, 1) := by decide +kernel
theorem dm_X1_bitsOfB_16 : decode M_X1_bitsOfB.1 16 = .ok (.iload_n 0, 1) := by decide +kernel
theorem dm_X1_bitsOfB_17 : decode M_X1_bitsOfB.1 17 = .ok (.bipush 30, 2) := by decide +kernel
theorem dm_X1_bitsOfB_19 : decode M_X1_bitsOfB.1 19 = .ok (.iand, 1) := by decide +kernel
theorem dm_X1_bitsOfB_20 : decode M_X1_bitsOfB.1 20 = .ok (.bipush 7, 2) := by decide +kernel
theorem dm_X1_bitsOfB_22 : decode M_X1_bitsOfB.1 22 = .ok (.ishl, 1) := by decide +kernel
theorem dm_X1_bitsOfB_23 : decode M_X1_bitsOfB.1 23 = .ok (.ior, 1) := by decide +kernel
theorem dm_X1_bitsOfB_24 : decode M_X1_bitsOfB.1 24 = .ok (.iload_n 0, 1) := by decide +kernel
theorem dm_X1_bitsOfB_25 : decode M_X1_bitsOfB.1 25 = .ok (.sipush 2048, 3) := by decide +kernel
theorem dm_X1_bitsOfB_28 : decode M_X1_bitsOfB.1 28 = .ok (.iand, 1) := by decide +kernel
theorem dm_X1_bitsOfB_29 : decode M_X1_bitsOfB.1 29 = .ok (.iconst 4, 1) := by decide +kernel
theorem dm_X1_bitsOfB_30 : decode M_X1_bitsOfB.1 30 = .ok (.ishr, 1) := by decide +kernel
theorem dm_X1_bitsOfB_31 : decode M_X1_bitsOfB.1 31 = .ok (.ior, 1) := by decide +kernel
theorem dm_X1_bitsOfB_32 : decode M_X1_bitsOfB.1 32 = .ok (.ireturn, 1) := by decide +kernel
def f_X1_bitsOfB (x : Int32) : Int32 := (((((x >>> (12 &&& 31)) <<< (31 &&& 31)) ||| ((x &&& 2016) <<< (20 &&& 31))) ||| ((x &&& 30) <<< (7 &&& 31))) ||| ((x &&& 2048) >>> (4 &&& 31)))
set_option maxRecDepth 100000 in
theorem k_X1_bitsOfB {x : Int32} : K M_X1_bitsOfB yX1_bitsOfB [.int x] [] (some (.int (f_X1_bitsOfB x))) [] := by
  refine K.of (lv := [(0, .int x)]) (by decide +kernel) rfl rfl rfl ?_
  obtain ⟨res, hres⟩ : ∃ z, z = (f_X1_bitsOfB x) := ⟨_, rfl⟩
  rw [← hres]
  rw [f_X1_bitsOfB] at hres
  refine G.iload_n (pc := 0) dm_X1_bitsOfB_0 rfl ?_
  refine G.bipush (pc := 1) (v := 12) dm_X1_bitsOfB_1 qb_12 ?_
  refine G.ishr (pc := 3) dm_X1_bitsOfB_3 ?_
  refine G.bipush (pc := 4) (v := 31) dm_X1_bitsOfB_4 qb_31 ?_
  refine G.ishl (pc := 6) dm_X1_bitsOfB_6 ?_
  refine G.iload_n (pc := 7) dm_X1_bitsOfB_7 rfl ?_
  refine G.sipush (pc := 8) (v := 2016) dm_X1_bitsOfB_8 qs_2016 ?_
  refine G.iand (pc := 11) dm_X1_bitsOfB_11 ?_
  refine G.bipush (pc := 12) (v := 20) dm_X1_bitsOfB_12 qb_20 ?_
  refine G.ishl (pc := 14) dm_X1_bitsOfB_14 ?_
  refine G.ior (pc := 15) dm_X1_bitsOfB_15 ?_
  refine G.iload_n (pc := 16) dm_X1_bitsOfB_16 rfl ?_
  refine G.bipush (pc := 17) (v := 30) dm_X1_bitsOfB_17 qb_30 ?_
  refine G.iand (pc := 19) dm_X1_bitsOfB_19 ?_
  refine G.bipush (pc := 20) (v := 7) dm_X1_bitsOfB_20 qb_7 ?_
  refine G.ishl (pc := 22) dm_X1_bitsOfB_22 ?_
  refine G.ior (pc := 23) dm_X1_bitsOfB_23 ?_
  refine G.iload_n (pc := 24) dm_X1_bitsOfB_24 rfl ?_
  refine G.sipush (pc := 25) (v := 2048) dm_X1_bitsOfB_25 qs_2048 ?_
  refine G.iand (pc := 28) dm_X1_bitsOfB_28 ?_
  refine G.iconst (pc := 29) (v := 4) dm_X1_bitsOfB_29 qi_4 ?_
  refine G.ishr (pc := 30) dm_X1_bitsOfB_30 ?_
  refine G.ior (pc := 31) dm_X1_bitsOfB_31 ?_
  subst hres
  exact G.ireturn (pc := 32) dm_X1_bitsOfB_32 rfl rfl rfl
abbrev M_X1_bitsOfJ : g_M := (cX1_bitsOfJ, 1, RX1, (some .int), { frames := 0, cells := 0, slots := 0, locals := 0 }, 0, 0)
theorem dm_X1_bitsOfJ_0 : decode M_X1_bitsOfJ.1 0 = .ok (.iload_n 0, 1) := by decide +kernel
theorem dm_X1_bitsOfJ_1 : decode M_X1_bitsOfJ.1 1 = .ok (.bipush 20, 2) := by decide +kernel
theorem dm_X1_bitsOfJ_3 : decode M_X1_bitsOfJ.1 3 = .ok (.ishr, 1) := by decide +kernel
theorem dm_X1_bitsOfJ_4 : decode M_X1_bitsOfJ.1 4 = .ok (.bipush 31, 2) := by decide +kernel
theorem dm_X1_bitsOfJ_6 : decode M_X1_bitsOfJ.1 6 = .ok (.ishl, 1) := by decide +kernel
theorem dm_X1_bitsOfJ_7 : decode M_X1_bitsOfJ.1 7 = .ok (.iload_n 0, 1) := by decide +kernel
theorem dm_X1_bitsOfJ_8 : decode M_X1_bitsOfJ.1 8 = .ok (.sipush 2046, 3) := by decide +kernel
theorem dm_X1_bitsOfJ_11 : decode M_X1_bitsOfJ.1 11 = .ok (.iand, 1) := by decide +kernel
theorem dm_X1_bitsOfJ_12 : decode M_X1_bitsOfJ.1 12 = .ok (.bipush 20, 2) := by decide +kernel
theorem dm_X1_bitsOfJ_14 : decode M_X1_bitsOfJ.1 14 = .ok (.ishl, 1) := by decide +kernel
theorem dm_X1_bitsOfJ_15 : decode M_X1_bitsOfJ.1 15 = .ok (.ior, 1) := by decide +kernel
theorem dm_X1_bitsOfJ_16 : decode M_X1_bitsOfJ.1 16 = .ok (.iload_n 0, 1) := by decide +kernel
theorem dm_X1_bitsOfJ_17 : decode M_X1_bitsOfJ.1 17 = .ok (.sipush 2048, 3) := by decide +kernel
theorem dm_X1_bitsOfJ_20 : decode M_X1_bitsOfJ.1 20 = .ok (.iand, 1) := by decide +kernel
theorem dm_X1_bitsOfJ_21 : decode M_X1_bitsOfJ.1 21 = .ok (.bipush 9, 2) := by decide +kernel
theorem dm_X1_bitsOfJ_23 : decode M_X1_bitsOfJ.1 23 = .ok (.ishl, 1) := by decide +kernel
theorem dm_X1_bitsOfJ_24 : decode M_X1_bitsOfJ.1 24 = .ok (.ior, 1) := by decide +kernel
theorem dm_X1_bitsOfJ_25 : decode M_X1_bitsOfJ.1 25 = .ok (.iload_n 0, 1) := by decide +kernel
theorem dm_X1_bitsOfJ_26 : decode M_X1_bitsOfJ.1 26 = .ok (.ldc 15, 2) := by decide +kernel
theorem dm_X1_bitsOfJ_28 : decode M_X1_bitsOfJ.1 28 = .ok (.iand, 1) := by decide +kernel
theorem dm_X1_bitsOfJ_29 : decode M_X1_bitsOfJ.1 29 = .ok (.ior, 1) := by decide +kernel
theorem dm_X1_bitsOfJ_30 : decode M_X1_bitsOfJ.1 30 = .ok (.ireturn, 1) := by decide +kernel
def f_X1_bitsOfJ (x : Int32) : Int32 := (((((x >>> (20 &&& 31)) <<< (31 &&& 31)) ||| ((x &&& 2046) <<< (20 &&& 31))) ||| ((x &&& 2048) <<< (9 &&& 31))) ||| (x &&& 1044480))
set_option maxRecDepth 100000 in
theorem k_X1_bitsOfJ {x : Int32} : K M_X1_bitsOfJ yX1_bitsOfJ [.int x] [] (some (.int (f_X1_bitsOfJ x))) [] := by
  refine K.of (lv := [(0, .int x)]) (by decide +kernel) rfl rfl rfl ?_
  obtain ⟨res, hres⟩ : ∃ z, z = (f_X1_bitsOfJ x) := ⟨_, rfl⟩
  rw [← hres]
  rw [f_X1_bitsOfJ] at hres
  refine G.iload_n (pc := 0) dm_X1_bitsOfJ_0 rfl ?_
  refine G.bipush (pc := 1) (v := 20) dm_X1_bitsOfJ_1 qb_20 ?_
  refine G.ishr (pc := 3) dm_X1_bitsOfJ_3 ?_
  refine G.bipush (pc := 4) (v := 31) dm_X1_bitsOfJ_4 qb_31 ?_
  refine G.ishl (pc := 6) dm_X1_bitsOfJ_6 ?_
  refine G.iload_n (pc := 7) dm_X1_bitsOfJ_7 rfl ?_
  refine G.sipush (pc := 8) (v := 2046) dm_X1_bitsOfJ_8 qs_2046 ?_
  refine G.iand (pc := 11) dm_X1_bitsOfJ_11 ?_
  refine G.bipush (pc := 12) (v := 20) dm_X1_bitsOfJ_12 qb_20 ?_
  refine G.ishl (pc := 14) dm_X1_bitsOfJ_14 ?_
  refine G.ior (pc := 15) dm_X1_bitsOfJ_15 ?_
  refine G.iload_n (pc := 16) dm_X1_bitsOfJ_16 rfl ?_
  refine G.sipush (pc := 17) (v := 2048) dm_X1_bitsOfJ_17 qs_2048 ?_
  refine G.iand (pc := 20) dm_X1_bitsOfJ_20 ?_
  refine G.bipush (pc := 21) (v := 9) dm_X1_bitsOfJ_21 qb_9 ?_
  refine G.ishl (pc := 23) dm_X1_bitsOfJ_23 ?_
  refine G.ior (pc := 24) dm_X1_bitsOfJ_24 ?_
  refine G.iload_n (pc := 25) dm_X1_bitsOfJ_25 rfl ?_
  refine G.ldc (pc := 26) dm_X1_bitsOfJ_26 tw370 ?_
  refine G.iand (pc := 28) dm_X1_bitsOfJ_28 ?_
  refine G.ior (pc := 29) dm_X1_bitsOfJ_29 ?_
  subst hres
  exact G.ireturn (pc := 30) dm_X1_bitsOfJ_30 rfl rfl rfl
abbrev M_X2_placeOf : g_M := (cX2_placeOf, 1, RX2, (some .int), { frames := 1, cells := 0, slots := 0, locals := 22 }, 0, 0)
theorem dm_X2_placeOf_0 : decode M_X2_placeOf.1 0 = .ok (.iload_n 0, 1) := by decide +kernel
theorem dm_X2_placeOf_1 : decode M_X2_placeOf.1 1 = .ok (.bipush 16, 2) := by decide +kernel
theorem dm_X2_placeOf_3 : decode M_X2_placeOf.1 3 = .ok (.invokestatic 29, 3) := by decide +kernel
theorem dm_X2_placeOf_6 : decode M_X2_placeOf.1 6 = .ok (.ireturn, 1) := by decide +kernel
theorem gc_X2_placeOf_29 : g_cs M_X2_placeOf 29 M_J9_floorMod_7cf53 yJ9_floorMod_7cf53 2 := ⟨tw760, tw605, tw606, tw607, ⟨rfl, rfl, rfl, rfl⟩, gd_J9_floorMod_7cf53, ⟨by decide, by decide⟩⟩
def f_X2_placeOf_c3 (z1 : Int32) : Int32 := z1
def f_X2_placeOf (x : Int32) : Int32 := (f_X2_placeOf_c3 (f_J9_floorMod_7cf53 x 16))
set_option maxRecDepth 100000 in
theorem k_X2_placeOf {x : Int32} : K M_X2_placeOf yX2_placeOf [.int x] [] (some (.int (f_X2_placeOf x))) [] := by
  refine K.of (lv := [(0, .int x)]) (by decide +kernel) rfl rfl rfl ?_
  obtain ⟨res, hres⟩ : ∃ z, z = (f_X2_placeOf x) := ⟨_, rfl⟩
  rw [← hres]
  rw [f_X2_placeOf] at hres
  refine G.iload_n (pc := 0) dm_X2_placeOf_0 rfl ?_
  refine G.bipush (pc := 1) (v := 16) dm_X2_placeOf_1 qb_16 ?_
  refine G.callS (pc := 3) (rest := []) (st1 := [.int (f_J9_floorMod_7cf53 x 16)]) (ws1 := []) [] dm_X2_placeOf_3 gc_X2_placeOf_29 (k_J9_floorMod_7cf53 (x := x) (y := 16) (by decide)) rfl rfl rfl rfl rfl rfl rfl rfl ?_
  generalize hz1 : f_J9_floorMod_7cf53 x 16 = z1 at hres ⊢
  rw [f_X2_placeOf_c3] at hres
  subst hres
  exact G.ireturn (pc := 6) dm_X2_placeOf_6 rfl rfl rfl
abbrev M_X3_find : g_M := (cX3_find, 4, RX3, (some .int), { frames := 0, cells := 0, slots := 0, locals := 0 }, 0, 0)
theorem dm_X3_find_0 : decode M_X3_find.1 0 = .ok (.iconst 0, 1) := by decide +kernel
theorem dm_X3_find_1 : decode M_X3_find.1 1 = .ok (.istore_n 3, 1) := by decide +kernel
theorem dm_X3_find_2 : decode M_X3_find.1 2 = .ok (.iload_n 3, 1) := by decide +kernel
theorem dm_X3_find_3 : decode M_X3_find.1 3 = .ok (.aload_n 0, 1) := by decide +kernel
theorem dm_X3_find_4 : decode M_X3_find.1 4 = .ok (.getfield 19, 3) := by decide +kernel
theorem dm_X3_find_7 : decode M_X3_find.1 7 = .ok (.if_icmp .ge 27, 3) := by decide +kernel
theorem dm_X3_find_10 : decode M_X3_find.1 10 = .ok (.aload_n 0, 1) := by decide +kernel
theorem dm_X3_find_11 : decode M_X3_find.1 11 = .ok (.getfield 9, 3) := by decide +kernel
theorem dm_X3_find_14 : decode M_X3_find.1 14 = .ok (.iload_n 3, 1) := by decide +kernel
theorem dm_X3_find_15 : decode M_X3_find.1 15 = .ok (.laload, 1) := by decide +kernel
theorem dm_X3_find_16 : decode M_X3_find.1 16 = .ok (.lload_n 1, 1) := by decide +kernel
theorem dm_X3_find_17 : decode M_X3_find.1 17 = .ok (.lcmp, 1) := by decide +kernel
theorem dm_X3_find_18 : decode M_X3_find.1 18 = .ok (.ifCond .ne 10, 3) := by decide +kernel
theorem dm_X3_find_21 : decode M_X3_find.1 21 = .ok (.aload_n 0, 1) := by decide +kernel
theorem dm_X3_find_22 : decode M_X3_find.1 22 = .ok (.getfield 15, 3) := by decide +kernel
theorem dm_X3_find_25 : decode M_X3_find.1 25 = .ok (.iload_n 3, 1) := by decide +kernel
theorem dm_X3_find_26 : decode M_X3_find.1 26 = .ok (.iaload, 1) := by decide +kernel
theorem dm_X3_find_27 : decode M_X3_find.1 27 = .ok (.ireturn, 1) := by decide +kernel
theorem dm_X3_find_28 : decode M_X3_find.1 28 = .ok (.iinc 3 1, 3) := by decide +kernel
theorem dm_X3_find_31 : decode M_X3_find.1 31 = .ok (.goto (-29), 3) := by decide +kernel
theorem dm_X3_find_34 : decode M_X3_find.1 34 = .ok (.iconst (-1), 1) := by decide +kernel
theorem dm_X3_find_35 : decode M_X3_find.1 35 = .ok (.ireturn, 1) := by decide +kernel
def f_X3_find_2 (lcount : Int32) (lkeys : Nat → Int64) (lplaces : Nat → Int32) : Nat → Int64 → Int32 → Int32
  | 0, l1, l3 => 0
  | n + 1, l1, l3 => (if lcount ≤ l3 then (-1) else (if (lg_cmp (lkeys (Int32.toNatClampNeg l3)) l1) = 0 then (lplaces (Int32.toNatClampNeg l3)) else ((f_X3_find_2 lcount lkeys lplaces n) l1 (l3 + 1))))
set_option maxRecDepth 100000 in
theorem j_X3_find_2 : ∀ (n : Nat) {l1 : Int64} {l3 : Int32} {lcount : Int32} {lkeys : Nat → Int64} {lplaces : Nat → Int32} {res : Int32}, (hlc : lcount.toInt ≤ 16) → (h0 : 0 ≤ l3.toInt) → (16 - l3.toInt.toNat) < n → res = f_X3_find_2 lcount lkeys lplaces n l1 l3 → G M_X3_find 0 0 2 [(0, .ref 0), (1, .long l1), (3, .int l3)] [] (w_L lcount lkeys lplaces) (some (.int res)) (w_L lcount lkeys lplaces) := by
  intro n
  induction n with
  | zero =>
    intro l1 l3 lcount lkeys lplaces res hlc h0 hm hres
    exact absurd hm (Nat.not_lt_zero _)
  | succ n ih =>
    intro l1 l3 lcount lkeys lplaces res hlc h0 hm hres
    obtain ⟨mu, hmu⟩ : ∃ z, (16 - l3.toInt.toNat) = z := ⟨_, rfl⟩
    rw [hmu] at hm
    have hk2 : ∀ {l1 : Int64} {l3 : Int32} {lcount : Int32} {lkeys : Nat → Int64} {lplaces : Nat → Int32}, (lcount.toInt ≤ 16) → (0 ≤ l3.toInt) → (16 - l3.toInt.toNat) < mu → res = (f_X3_find_2 lcount lkeys lplaces n) l1 l3 → G M_X3_find 0 0 2 [(0, .ref 0), (1, .long l1), (3, .int l3)] [] (w_L lcount lkeys lplaces) (some (.int res)) (w_L lcount lkeys lplaces) := fun hlc h0 hlt he => ih hlc h0 (Nat.lt_of_lt_of_le hlt (Nat.le_of_lt_succ hm)) he
    rw [f_X3_find_2] at hres
    refine G.iload_n (pc := 2) dm_X3_find_2 rfl ?_
    refine G.aload_n (pc := 3) dm_X3_find_3 rfl ?_
    refine G.getfield (pc := 4) dm_X3_find_4 gf_X3_19 rfl rfl ?_
    refine G.icmp_ge (pc := 7) (tgt := 34) dm_X3_find_7 (by decide) (fun c7 => ?_) (fun c7 => ?_)
    · rw [if_pos c7] at hres
      refine G.iconst (pc := 34) (v := (-1)) dm_X3_find_34 qi_m1 ?_
      subst hres
      exact G.ireturn (pc := 35) dm_X3_find_35 rfl rfl rfl
    · rw [if_neg c7] at hres
      refine G.aload_n (pc := 10) dm_X3_find_10 rfl ?_
      refine G.getfield (pc := 11) dm_X3_find_11 gf_X3_9 rfl rfl ?_
      refine G.iload_n (pc := 14) dm_X3_find_14 rfl ?_
      refine G.laload (pc := 15) dm_X3_find_15 rfl (q_in h0 (by have := q_nle c7; omega)) ?_
      refine G.lload_n (pc := 16) dm_X3_find_16 rfl ?_
      refine G.lcmp (pc := 17) dm_X3_find_17 ?_
      refine G.if_ne (pc := 18) (tgt := 28) dm_X3_find_18 (by decide) (fun c18 => ?_) (fun c18 => ?_)
      · rw [if_neg c18] at hres
        refine G.iinc (pc := 28) (v := (l3 + 1)) (lv1 := [(3, .int (l3 + 1)), (0, .ref 0), (1, .long l1)]) dm_X3_find_28 rfl rfl rfl rfl ?_
        refine G.goto (pc := 31) (tgt := 2) dm_X3_find_31 (by decide) ?_
        refine G.lvp [1, 2, 0] rfl ?_
        exact hk2 hlc (by have := q_nle c7; rw [q_inc (by omega)]; omega) (by have := q_nle c7; rw [q_inc (by omega)]; omega) hres
      · rw [if_pos c18] at hres
        refine G.aload_n (pc := 21) dm_X3_find_21 rfl ?_
        refine G.getfield (pc := 22) dm_X3_find_22 gf_X3_15 rfl rfl ?_
        refine G.iload_n (pc := 25) dm_X3_find_25 rfl ?_
        refine G.iaload (pc := 26) dm_X3_find_26 rfl (q_in h0 (by have := q_nle c7; omega)) ?_
        subst hres
        exact G.ireturn (pc := 27) dm_X3_find_27 rfl rfl rfl
def f_X3_find (lcount : Int32) (lkeys : Nat → Int64) (lplaces : Nat → Int32) (key : Int64) : Int32 := (f_X3_find_2 lcount lkeys lplaces (17) key 0)
set_option maxRecDepth 100000 in
theorem k_X3_find {key : Int64} {lcount : Int32} {lkeys : Nat → Int64} {lplaces : Nat → Int32} (hlc : lcount.toInt ≤ 16) : K M_X3_find yX3_find [.ref 0, .long key] (w_L lcount lkeys lplaces) (some (.int (f_X3_find lcount lkeys lplaces key))) (w_L lcount lkeys lplaces) := by
  refine K.of (lv := [(0, .ref 0), (1, .long key)]) (by decide +kernel) rfl rfl rfl ?_
  obtain ⟨res, hres⟩ : ∃ z, z = (f_X3_find lcount lkeys lplaces key) := ⟨_, rfl⟩
  rw [← hres]
  rw [f_X3_find] at hres
  refine G.iconst (pc := 0) (v := 0) dm_X3_find_0 qi_0 ?_
  refine G.istore_n (pc := 1) (lv1 := [(3, .int 0), (0, .ref 0), (1, .long key)]) dm_X3_find_1 rfl rfl ?_
  refine G.lvp [1, 2, 0] rfl ?_
  exact j_X3_find_2 _ hlc (by decide) (by decide) hres
end
