section
-- ===== PART A: goes FIRST, ahead of the names: the tables' words, and 'selects' of the private methods out of them =====
/-- a private method of a class that the tables say can be made, by its rows of tables_1 -/
def lw_okq (q : MethodName × Nat) : Prop := (q.1.cls ≠ "java/lang/invoke/MethodHandle" ∧ q.1.cls ≠ "java/lang/invoke/VarHandle") ∧ Cond.instantiable q.1.cls q.2 ∈ tables_1 ∧ Cond.privateMethod q.1 ∈ tables_1 ∧ Cond.instanceMethod q.1 ∈ tables_1
theorem lw_p0 : lw_okq (⟨"TimedThreads$TimedThread", "attempt", "(ILTimedThreads$SharedMemory;)LTimedThreads$Outcome;"⟩, 12) := ⟨⟨by decide +kernel, by decide +kernel⟩, List.mem_of_getElem? (i := 57) (by decide +kernel), List.mem_of_getElem? (i := 306) (by decide +kernel), List.mem_of_getElem? (i := 307) (by decide +kernel)⟩
theorem lw_p1 : lw_okq (⟨"TimedThreads$TimedThread", "loadUpper", "(I)LTimedThreads$Outcome;"⟩, 12) := ⟨⟨by decide +kernel, by decide +kernel⟩, List.mem_of_getElem? (i := 57) (by decide +kernel), List.mem_of_getElem? (i := 321) (by decide +kernel), List.mem_of_getElem? (i := 322) (by decide +kernel)⟩
theorem lw_p2 : lw_okq (⟨"TimedThreads$TimedThread", "setRegister", "(II)V"⟩, 12) := ⟨⟨by decide +kernel, by decide +kernel⟩, List.mem_of_getElem? (i := 57) (by decide +kernel), List.mem_of_getElem? (i := 334) (by decide +kernel), List.mem_of_getElem? (i := 335) (by decide +kernel)⟩
theorem lw_p3 : lw_okq (⟨"TimedThreads$TimedThread", "jump", "(I)LTimedThreads$Outcome;"⟩, 12) := ⟨⟨by decide +kernel, by decide +kernel⟩, List.mem_of_getElem? (i := 57) (by decide +kernel), List.mem_of_getElem? (i := 340) (by decide +kernel), List.mem_of_getElem? (i := 341) (by decide +kernel)⟩
theorem lw_p4 : lw_okq (⟨"TimedThreads$TimedThread", "jumpToRegister", "(I)LTimedThreads$Outcome;"⟩, 12) := ⟨⟨by decide +kernel, by decide +kernel⟩, List.mem_of_getElem? (i := 57) (by decide +kernel), List.mem_of_getElem? (i := 348) (by decide +kernel), List.mem_of_getElem? (i := 349) (by decide +kernel)⟩
theorem lw_p5 : lw_okq (⟨"TimedThreads$TimedThread", "branch", "(I)LTimedThreads$Outcome;"⟩, 12) := ⟨⟨by decide +kernel, by decide +kernel⟩, List.mem_of_getElem? (i := 57) (by decide +kernel), List.mem_of_getElem? (i := 361) (by decide +kernel), List.mem_of_getElem? (i := 362) (by decide +kernel)⟩
theorem lw_p6 : lw_okq (⟨"TimedThreads$TimedThread", "load", "(IILTimedThreads$SharedMemory;)LTimedThreads$Outcome;"⟩, 12) := ⟨⟨by decide +kernel, by decide +kernel⟩, List.mem_of_getElem? (i := 57) (by decide +kernel), List.mem_of_getElem? (i := 378) (by decide +kernel), List.mem_of_getElem? (i := 379) (by decide +kernel)⟩
theorem lw_p7 : lw_okq (⟨"TimedThreads$TimedThread", "canReach", "(II)Z"⟩, 12) := ⟨⟨by decide +kernel, by decide +kernel⟩, List.mem_of_getElem? (i := 57) (by decide +kernel), List.mem_of_getElem? (i := 382) (by decide +kernel), List.mem_of_getElem? (i := 383) (by decide +kernel)⟩
theorem lw_p8 : lw_okq (⟨"TimedThreads$TimedThread", "rowOf", "(ILTimedThreads$SharedMemory;)[I"⟩, 12) := ⟨⟨by decide +kernel, by decide +kernel⟩, List.mem_of_getElem? (i := 57) (by decide +kernel), List.mem_of_getElem? (i := 386) (by decide +kernel), List.mem_of_getElem? (i := 387) (by decide +kernel)⟩
theorem lw_p9 : lw_okq (⟨"TimedThreads$TimedThread", "setRetirement", "(IILTimedThreads$SharedMemory;)V"⟩, 12) := ⟨⟨by decide +kernel, by decide +kernel⟩, List.mem_of_getElem? (i := 57) (by decide +kernel), List.mem_of_getElem? (i := 396) (by decide +kernel), List.mem_of_getElem? (i := 397) (by decide +kernel)⟩
theorem lw_p10 : lw_okq (⟨"TimedThreads$TimedThread", "save", "(IILTimedThreads$SharedMemory;)LTimedThreads$Outcome;"⟩, 12) := ⟨⟨by decide +kernel, by decide +kernel⟩, List.mem_of_getElem? (i := 57) (by decide +kernel), List.mem_of_getElem? (i := 405) (by decide +kernel), List.mem_of_getElem? (i := 406) (by decide +kernel)⟩
theorem lw_p11 : lw_okq (⟨"TimedThreads$TimedThread", "computeWithNumber", "(I)LTimedThreads$Outcome;"⟩, 12) := ⟨⟨by decide +kernel, by decide +kernel⟩, List.mem_of_getElem? (i := 57) (by decide +kernel), List.mem_of_getElem? (i := 413) (by decide +kernel), List.mem_of_getElem? (i := 414) (by decide +kernel)⟩
theorem lw_p12 : lw_okq (⟨"TimedThreads$TimedThread", "computeWithRegister", "(I)LTimedThreads$Outcome;"⟩, 12) := ⟨⟨by decide +kernel, by decide +kernel⟩, List.mem_of_getElem? (i := 57) (by decide +kernel), List.mem_of_getElem? (i := 423) (by decide +kernel), List.mem_of_getElem? (i := 424) (by decide +kernel)⟩
theorem lw_p13 : lw_okq (⟨"TimedThreads$TimedThread", "timed", "(II)LTimedThreads$Outcome;"⟩, 12) := ⟨⟨by decide +kernel, by decide +kernel⟩, List.mem_of_getElem? (i := 57) (by decide +kernel), List.mem_of_getElem? (i := 427) (by decide +kernel), List.mem_of_getElem? (i := 428) (by decide +kernel)⟩
theorem lw_p14 : lw_okq (⟨"TimedThreads$TimedThread", "setTimer", "(III)LTimedThreads$Outcome;"⟩, 12) := ⟨⟨by decide +kernel, by decide +kernel⟩, List.mem_of_getElem? (i := 57) (by decide +kernel), List.mem_of_getElem? (i := 431) (by decide +kernel), List.mem_of_getElem? (i := 432) (by decide +kernel)⟩
theorem lw_p15 : lw_okq (⟨"TimedThreads$TimedThread", "halt", "(I)LTimedThreads$Outcome;"⟩, 12) := ⟨⟨by decide +kernel, by decide +kernel⟩, List.mem_of_getElem? (i := 57) (by decide +kernel), List.mem_of_getElem? (i := 444) (by decide +kernel), List.mem_of_getElem? (i := 445) (by decide +kernel)⟩
def lw_privs_1 : List (MethodName × Nat) := [(⟨"TimedThreads$TimedThread", "attempt", "(ILTimedThreads$SharedMemory;)LTimedThreads$Outcome;"⟩, 12), (⟨"TimedThreads$TimedThread", "loadUpper", "(I)LTimedThreads$Outcome;"⟩, 12), (⟨"TimedThreads$TimedThread", "setRegister", "(II)V"⟩, 12), (⟨"TimedThreads$TimedThread", "jump", "(I)LTimedThreads$Outcome;"⟩, 12), (⟨"TimedThreads$TimedThread", "jumpToRegister", "(I)LTimedThreads$Outcome;"⟩, 12), (⟨"TimedThreads$TimedThread", "branch", "(I)LTimedThreads$Outcome;"⟩, 12), (⟨"TimedThreads$TimedThread", "load", "(IILTimedThreads$SharedMemory;)LTimedThreads$Outcome;"⟩, 12), (⟨"TimedThreads$TimedThread", "canReach", "(II)Z"⟩, 12), (⟨"TimedThreads$TimedThread", "rowOf", "(ILTimedThreads$SharedMemory;)[I"⟩, 12), (⟨"TimedThreads$TimedThread", "setRetirement", "(IILTimedThreads$SharedMemory;)V"⟩, 12), (⟨"TimedThreads$TimedThread", "save", "(IILTimedThreads$SharedMemory;)LTimedThreads$Outcome;"⟩, 12), (⟨"TimedThreads$TimedThread", "computeWithNumber", "(I)LTimedThreads$Outcome;"⟩, 12), (⟨"TimedThreads$TimedThread", "computeWithRegister", "(I)LTimedThreads$Outcome;"⟩, 12), (⟨"TimedThreads$TimedThread", "timed", "(II)LTimedThreads$Outcome;"⟩, 12), (⟨"TimedThreads$TimedThread", "setTimer", "(III)LTimedThreads$Outcome;"⟩, 12), (⟨"TimedThreads$TimedThread", "halt", "(I)LTimedThreads$Outcome;"⟩, 12)]
theorem lw_r1 : ∀ q ∈ lw_privs_1, lw_okq q := List.forall_mem_cons.mpr ⟨lw_p0, List.forall_mem_cons.mpr ⟨lw_p1, List.forall_mem_cons.mpr ⟨lw_p2, List.forall_mem_cons.mpr ⟨lw_p3, List.forall_mem_cons.mpr ⟨lw_p4, List.forall_mem_cons.mpr ⟨lw_p5, List.forall_mem_cons.mpr ⟨lw_p6, List.forall_mem_cons.mpr ⟨lw_p7, List.forall_mem_cons.mpr ⟨lw_p8, List.forall_mem_cons.mpr ⟨lw_p9, List.forall_mem_cons.mpr ⟨lw_p10, List.forall_mem_cons.mpr ⟨lw_p11, List.forall_mem_cons.mpr ⟨lw_p12, List.forall_mem_cons.mpr ⟨lw_p13, List.forall_mem_cons.mpr ⟨lw_p14, List.forall_mem_cons.mpr ⟨lw_p15, fun _ h => absurd h List.not_mem_nil⟩⟩⟩⟩⟩⟩⟩⟩⟩⟩⟩⟩⟩⟩⟩⟩
theorem lw_p16 : lw_okq (⟨"java/lang/Throwable", "fillInStackTrace", "(I)Ljava/lang/Throwable;"⟩, 6) := ⟨⟨by decide +kernel, by decide +kernel⟩, List.mem_of_getElem? (i := 538) (by decide +kernel), List.mem_of_getElem? (i := 536) (by decide +kernel), List.mem_of_getElem? (i := 537) (by decide +kernel)⟩
theorem lw_p17 : lw_okq (⟨"TimedThreads$Tokens", "takeLetters", "()V"⟩, 6) := ⟨⟨by decide +kernel, by decide +kernel⟩, List.mem_of_getElem? (i := 166) (by decide +kernel), List.mem_of_getElem? (i := 616) (by decide +kernel), List.mem_of_getElem? (i := 617) (by decide +kernel)⟩
theorem lw_p18 : lw_okq (⟨"TimedThreads$Tokens", "takeRegister", "()V"⟩, 6) := ⟨⟨by decide +kernel, by decide +kernel⟩, List.mem_of_getElem? (i := 166) (by decide +kernel), List.mem_of_getElem? (i := 626) (by decide +kernel), List.mem_of_getElem? (i := 627) (by decide +kernel)⟩
theorem lw_p19 : lw_okq (⟨"TimedThreads$Tokens", "takeDigits", "()J"⟩, 6) := ⟨⟨by decide +kernel, by decide +kernel⟩, List.mem_of_getElem? (i := 166) (by decide +kernel), List.mem_of_getElem? (i := 630) (by decide +kernel), List.mem_of_getElem? (i := 631) (by decide +kernel)⟩
theorem lw_p20 : lw_okq (⟨"TimedThreads$Tokens", "add", "(CJ)V"⟩, 6) := ⟨⟨by decide +kernel, by decide +kernel⟩, List.mem_of_getElem? (i := 166) (by decide +kernel), List.mem_of_getElem? (i := 637) (by decide +kernel), List.mem_of_getElem? (i := 638) (by decide +kernel)⟩
theorem lw_p21 : lw_okq (⟨"TimedThreads$Tokens", "takeNumber", "(Z)V"⟩, 6) := ⟨⟨by decide +kernel, by decide +kernel⟩, List.mem_of_getElem? (i := 166) (by decide +kernel), List.mem_of_getElem? (i := 641) (by decide +kernel), List.mem_of_getElem? (i := 642) (by decide +kernel)⟩
theorem lw_p22 : lw_okq (⟨"TimedThreads$Tokens", "takeMark", "(C)V"⟩, 6) := ⟨⟨by decide +kernel, by decide +kernel⟩, List.mem_of_getElem? (i := 166) (by decide +kernel), List.mem_of_getElem? (i := 645) (by decide +kernel), List.mem_of_getElem? (i := 646) (by decide +kernel)⟩
theorem lw_p23 : lw_okq (⟨"TimedThreads$Assembler", "readLine", "()V"⟩, 15) := ⟨⟨by decide +kernel, by decide +kernel⟩, List.mem_of_getElem? (i := 142) (by decide +kernel), List.mem_of_getElem? (i := 653) (by decide +kernel), List.mem_of_getElem? (i := 654) (by decide +kernel)⟩
theorem lw_p24 : lw_okq (⟨"TimedThreads$Assembler", "readInstruction", "(I)V"⟩, 15) := ⟨⟨by decide +kernel, by decide +kernel⟩, List.mem_of_getElem? (i := 142) (by decide +kernel), List.mem_of_getElem? (i := 670) (by decide +kernel), List.mem_of_getElem? (i := 671) (by decide +kernel)⟩
theorem lw_p25 : lw_okq (⟨"TimedThreads$Assembler", "readPiece", "(C)V"⟩, 15) := ⟨⟨by decide +kernel, by decide +kernel⟩, List.mem_of_getElem? (i := 142) (by decide +kernel), List.mem_of_getElem? (i := 722) (by decide +kernel), List.mem_of_getElem? (i := 723) (by decide +kernel)⟩
theorem lw_p26 : lw_okq (⟨"TimedThreads$Assembler", "putPiece", "(CJ)V"⟩, 15) := ⟨⟨by decide +kernel, by decide +kernel⟩, List.mem_of_getElem? (i := 142) (by decide +kernel), List.mem_of_getElem? (i := 729) (by decide +kernel), List.mem_of_getElem? (i := 730) (by decide +kernel)⟩
theorem lw_p27 : lw_okq (⟨"TimedThreads$Assembler", "fitted", "(JJJ)I"⟩, 15) := ⟨⟨by decide +kernel, by decide +kernel⟩, List.mem_of_getElem? (i := 142) (by decide +kernel), List.mem_of_getElem? (i := 735) (by decide +kernel), List.mem_of_getElem? (i := 736) (by decide +kernel)⟩
theorem lw_p28 : lw_okq (⟨"TimedThreads$Assembler", "noteOdd", "(J)V"⟩, 15) := ⟨⟨by decide +kernel, by decide +kernel⟩, List.mem_of_getElem? (i := 142) (by decide +kernel), List.mem_of_getElem? (i := 747) (by decide +kernel), List.mem_of_getElem? (i := 748) (by decide +kernel)⟩
theorem lw_p29 : lw_okq (⟨"TimedThreads$Assembler", "faultOfLine", "(I)I"⟩, 15) := ⟨⟨by decide +kernel, by decide +kernel⟩, List.mem_of_getElem? (i := 142) (by decide +kernel), List.mem_of_getElem? (i := 761) (by decide +kernel), List.mem_of_getElem? (i := 762) (by decide +kernel)⟩
theorem lw_p30 : lw_okq (⟨"TimedThreads$Assembler", "setFault", "(II)V"⟩, 15) := ⟨⟨by decide +kernel, by decide +kernel⟩, List.mem_of_getElem? (i := 142) (by decide +kernel), List.mem_of_getElem? (i := 769) (by decide +kernel), List.mem_of_getElem? (i := 770) (by decide +kernel)⟩
theorem lw_p31 : lw_okq (⟨"TimedThreads$Assembler", "keepLine", "(I)V"⟩, 15) := ⟨⟨by decide +kernel, by decide +kernel⟩, List.mem_of_getElem? (i := 142) (by decide +kernel), List.mem_of_getElem? (i := 773) (by decide +kernel), List.mem_of_getElem? (i := 774) (by decide +kernel)⟩
def lw_privs_2 : List (MethodName × Nat) := [(⟨"java/lang/Throwable", "fillInStackTrace", "(I)Ljava/lang/Throwable;"⟩, 6), (⟨"TimedThreads$Tokens", "takeLetters", "()V"⟩, 6), (⟨"TimedThreads$Tokens", "takeRegister", "()V"⟩, 6), (⟨"TimedThreads$Tokens", "takeDigits", "()J"⟩, 6), (⟨"TimedThreads$Tokens", "add", "(CJ)V"⟩, 6), (⟨"TimedThreads$Tokens", "takeNumber", "(Z)V"⟩, 6), (⟨"TimedThreads$Tokens", "takeMark", "(C)V"⟩, 6), (⟨"TimedThreads$Assembler", "readLine", "()V"⟩, 15), (⟨"TimedThreads$Assembler", "readInstruction", "(I)V"⟩, 15), (⟨"TimedThreads$Assembler", "readPiece", "(C)V"⟩, 15), (⟨"TimedThreads$Assembler", "putPiece", "(CJ)V"⟩, 15), (⟨"TimedThreads$Assembler", "fitted", "(JJJ)I"⟩, 15), (⟨"TimedThreads$Assembler", "noteOdd", "(J)V"⟩, 15), (⟨"TimedThreads$Assembler", "faultOfLine", "(I)I"⟩, 15), (⟨"TimedThreads$Assembler", "setFault", "(II)V"⟩, 15), (⟨"TimedThreads$Assembler", "keepLine", "(I)V"⟩, 15)]
theorem lw_r2 : ∀ q ∈ lw_privs_2, lw_okq q := List.forall_mem_cons.mpr ⟨lw_p16, List.forall_mem_cons.mpr ⟨lw_p17, List.forall_mem_cons.mpr ⟨lw_p18, List.forall_mem_cons.mpr ⟨lw_p19, List.forall_mem_cons.mpr ⟨lw_p20, List.forall_mem_cons.mpr ⟨lw_p21, List.forall_mem_cons.mpr ⟨lw_p22, List.forall_mem_cons.mpr ⟨lw_p23, List.forall_mem_cons.mpr ⟨lw_p24, List.forall_mem_cons.mpr ⟨lw_p25, List.forall_mem_cons.mpr ⟨lw_p26, List.forall_mem_cons.mpr ⟨lw_p27, List.forall_mem_cons.mpr ⟨lw_p28, List.forall_mem_cons.mpr ⟨lw_p29, List.forall_mem_cons.mpr ⟨lw_p30, List.forall_mem_cons.mpr ⟨lw_p31, fun _ h => absurd h List.not_mem_nil⟩⟩⟩⟩⟩⟩⟩⟩⟩⟩⟩⟩⟩⟩⟩⟩
theorem lw_p32 : lw_okq (⟨"TimedThreads$Assembler", "resolveTargets", "()V"⟩, 15) := ⟨⟨by decide +kernel, by decide +kernel⟩, List.mem_of_getElem? (i := 142) (by decide +kernel), List.mem_of_getElem? (i := 781) (by decide +kernel), List.mem_of_getElem? (i := 782) (by decide +kernel)⟩
theorem lw_p33 : lw_okq (⟨"TimedThreadsModel", "refuse", "(I)I"⟩, 31) := ⟨⟨by decide +kernel, by decide +kernel⟩, List.mem_of_getElem? (i := 789) (by decide +kernel), List.mem_of_getElem? (i := 912) (by decide +kernel), List.mem_of_getElem? (i := 913) (by decide +kernel)⟩
theorem lw_p34 : lw_okq (⟨"TimedThreadsModel", "takeLine", "(I)V"⟩, 31) := ⟨⟨by decide +kernel, by decide +kernel⟩, List.mem_of_getElem? (i := 789) (by decide +kernel), List.mem_of_getElem? (i := 916) (by decide +kernel), List.mem_of_getElem? (i := 917) (by decide +kernel)⟩
theorem lw_p35 : lw_okq (⟨"TimedThreadsModel", "skip", "()V"⟩, 31) := ⟨⟨by decide +kernel, by decide +kernel⟩, List.mem_of_getElem? (i := 789) (by decide +kernel), List.mem_of_getElem? (i := 920) (by decide +kernel), List.mem_of_getElem? (i := 921) (by decide +kernel)⟩
theorem lw_p36 : lw_okq (⟨"TimedThreadsModel", "character", "(I)I"⟩, 31) := ⟨⟨by decide +kernel, by decide +kernel⟩, List.mem_of_getElem? (i := 789) (by decide +kernel), List.mem_of_getElem? (i := 924) (by decide +kernel), List.mem_of_getElem? (i := 925) (by decide +kernel)⟩
theorem lw_p37 : lw_okq (⟨"TimedThreadsModel", "letters", "()J"⟩, 31) := ⟨⟨by decide +kernel, by decide +kernel⟩, List.mem_of_getElem? (i := 789) (by decide +kernel), List.mem_of_getElem? (i := 928) (by decide +kernel), List.mem_of_getElem? (i := 929) (by decide +kernel)⟩
theorem lw_p38 : lw_okq (⟨"TimedThreadsModel", "labelOf", "(J)I"⟩, 31) := ⟨⟨by decide +kernel, by decide +kernel⟩, List.mem_of_getElem? (i := 789) (by decide +kernel), List.mem_of_getElem? (i := 935) (by decide +kernel), List.mem_of_getElem? (i := 936) (by decide +kernel)⟩
theorem lw_p39 : lw_okq (⟨"TimedThreadsModel", "operands", "(I)I"⟩, 31) := ⟨⟨by decide +kernel, by decide +kernel⟩, List.mem_of_getElem? (i := 789) (by decide +kernel), List.mem_of_getElem? (i := 982) (by decide +kernel), List.mem_of_getElem? (i := 983) (by decide +kernel)⟩
theorem lw_p40 : lw_okq (⟨"TimedThreadsModel", "pair", "(II)I"⟩, 31) := ⟨⟨by decide +kernel, by decide +kernel⟩, List.mem_of_getElem? (i := 789) (by decide +kernel), List.mem_of_getElem? (i := 986) (by decide +kernel), List.mem_of_getElem? (i := 987) (by decide +kernel)⟩
theorem lw_p41 : lw_okq (⟨"TimedThreadsModel", "takeRegister", "()I"⟩, 31) := ⟨⟨by decide +kernel, by decide +kernel⟩, List.mem_of_getElem? (i := 789) (by decide +kernel), List.mem_of_getElem? (i := 990) (by decide +kernel), List.mem_of_getElem? (i := 991) (by decide +kernel)⟩
theorem lw_p42 : lw_okq (⟨"TimedThreadsModel", "need", "(I)V"⟩, 31) := ⟨⟨by decide +kernel, by decide +kernel⟩, List.mem_of_getElem? (i := 789) (by decide +kernel), List.mem_of_getElem? (i := 997) (by decide +kernel), List.mem_of_getElem? (i := 998) (by decide +kernel)⟩
theorem lw_p43 : lw_okq (⟨"TimedThreadsModel", "number", "(JJ)J"⟩, 31) := ⟨⟨by decide +kernel, by decide +kernel⟩, List.mem_of_getElem? (i := 789) (by decide +kernel), List.mem_of_getElem? (i := 1002) (by decide +kernel), List.mem_of_getElem? (i := 1003) (by decide +kernel)⟩
theorem lw_p44 : lw_okq (⟨"TimedThreadsModel", "distance", "(Z)I"⟩, 31) := ⟨⟨by decide +kernel, by decide +kernel⟩, List.mem_of_getElem? (i := 789) (by decide +kernel), List.mem_of_getElem? (i := 1015) (by decide +kernel), List.mem_of_getElem? (i := 1016) (by decide +kernel)⟩
theorem lw_p45 : lw_okq (⟨"TimedThreadsModel", "isEnd", "()Z"⟩, 31) := ⟨⟨by decide +kernel, by decide +kernel⟩, List.mem_of_getElem? (i := 789) (by decide +kernel), List.mem_of_getElem? (i := 1032) (by decide +kernel), List.mem_of_getElem? (i := 1033) (by decide +kernel)⟩
theorem lw_p46 : lw_okq (⟨"TimedThreadsModel", "link", "(I)V"⟩, 31) := ⟨⟨by decide +kernel, by decide +kernel⟩, List.mem_of_getElem? (i := 789) (by decide +kernel), List.mem_of_getElem? (i := 1036) (by decide +kernel), List.mem_of_getElem? (i := 1037) (by decide +kernel)⟩
theorem lw_p47 : lw_okq (⟨"TimedThreadsModel", "turn", "(I)I"⟩, 31) := ⟨⟨by decide +kernel, by decide +kernel⟩, List.mem_of_getElem? (i := 789) (by decide +kernel), List.mem_of_getElem? (i := 1068) (by decide +kernel), List.mem_of_getElem? (i := 1069) (by decide +kernel)⟩
def lw_privs_3 : List (MethodName × Nat) := [(⟨"TimedThreads$Assembler", "resolveTargets", "()V"⟩, 15), (⟨"TimedThreadsModel", "refuse", "(I)I"⟩, 31), (⟨"TimedThreadsModel", "takeLine", "(I)V"⟩, 31), (⟨"TimedThreadsModel", "skip", "()V"⟩, 31), (⟨"TimedThreadsModel", "character", "(I)I"⟩, 31), (⟨"TimedThreadsModel", "letters", "()J"⟩, 31), (⟨"TimedThreadsModel", "labelOf", "(J)I"⟩, 31), (⟨"TimedThreadsModel", "operands", "(I)I"⟩, 31), (⟨"TimedThreadsModel", "pair", "(II)I"⟩, 31), (⟨"TimedThreadsModel", "takeRegister", "()I"⟩, 31), (⟨"TimedThreadsModel", "need", "(I)V"⟩, 31), (⟨"TimedThreadsModel", "number", "(JJ)J"⟩, 31), (⟨"TimedThreadsModel", "distance", "(Z)I"⟩, 31), (⟨"TimedThreadsModel", "isEnd", "()Z"⟩, 31), (⟨"TimedThreadsModel", "link", "(I)V"⟩, 31), (⟨"TimedThreadsModel", "turn", "(I)I"⟩, 31)]
theorem lw_r3 : ∀ q ∈ lw_privs_3, lw_okq q := List.forall_mem_cons.mpr ⟨lw_p32, List.forall_mem_cons.mpr ⟨lw_p33, List.forall_mem_cons.mpr ⟨lw_p34, List.forall_mem_cons.mpr ⟨lw_p35, List.forall_mem_cons.mpr ⟨lw_p36, List.forall_mem_cons.mpr ⟨lw_p37, List.forall_mem_cons.mpr ⟨lw_p38, List.forall_mem_cons.mpr ⟨lw_p39, List.forall_mem_cons.mpr ⟨lw_p40, List.forall_mem_cons.mpr ⟨lw_p41, List.forall_mem_cons.mpr ⟨lw_p42, List.forall_mem_cons.mpr ⟨lw_p43, List.forall_mem_cons.mpr ⟨lw_p44, List.forall_mem_cons.mpr ⟨lw_p45, List.forall_mem_cons.mpr ⟨lw_p46, List.forall_mem_cons.mpr ⟨lw_p47, fun _ h => absurd h List.not_mem_nil⟩⟩⟩⟩⟩⟩⟩⟩⟩⟩⟩⟩⟩⟩⟩⟩
theorem lw_p48 : lw_okq (⟨"TimedThreadsModel", "stop", "(I)I"⟩, 31) := ⟨⟨by decide +kernel, by decide +kernel⟩, List.mem_of_getElem? (i := 789) (by decide +kernel), List.mem_of_getElem? (i := 1075) (by decide +kernel), List.mem_of_getElem? (i := 1076) (by decide +kernel)⟩
theorem lw_p49 : lw_okq (⟨"TimedThreadsModel", "set", "(III)V"⟩, 31) := ⟨⟨by decide +kernel, by decide +kernel⟩, List.mem_of_getElem? (i := 789) (by decide +kernel), List.mem_of_getElem? (i := 1079) (by decide +kernel), List.mem_of_getElem? (i := 1080) (by decide +kernel)⟩
theorem lw_p50 : lw_okq (⟨"TimedThreadsModel", "done", "(III)I"⟩, 31) := ⟨⟨by decide +kernel, by decide +kernel⟩, List.mem_of_getElem? (i := 789) (by decide +kernel), List.mem_of_getElem? (i := 1083) (by decide +kernel), List.mem_of_getElem? (i := 1084) (by decide +kernel)⟩
theorem lw_p51 : lw_okq (⟨"TimedThreadsModel", "jump", "(IIZ)I"⟩, 31) := ⟨⟨by decide +kernel, by decide +kernel⟩, List.mem_of_getElem? (i := 789) (by decide +kernel), List.mem_of_getElem? (i := 1087) (by decide +kernel), List.mem_of_getElem? (i := 1088) (by decide +kernel)⟩
theorem lw_p52 : lw_okq (⟨"TimedThreadsModel", "branch", "(II)I"⟩, 31) := ⟨⟨by decide +kernel, by decide +kernel⟩, List.mem_of_getElem? (i := 789) (by decide +kernel), List.mem_of_getElem? (i := 1091) (by decide +kernel), List.mem_of_getElem? (i := 1092) (by decide +kernel)⟩
theorem lw_p53 : lw_okq (⟨"TimedThreadsModel", "moveWord", "(IIZ)I"⟩, 31) := ⟨⟨by decide +kernel, by decide +kernel⟩, List.mem_of_getElem? (i := 789) (by decide +kernel), List.mem_of_getElem? (i := 1102) (by decide +kernel), List.mem_of_getElem? (i := 1103) (by decide +kernel)⟩
theorem lw_p54 : lw_okq (⟨"TimedThreadsModel", "isThere", "(III)Z"⟩, 31) := ⟨⟨by decide +kernel, by decide +kernel⟩, List.mem_of_getElem? (i := 789) (by decide +kernel), List.mem_of_getElem? (i := 1106) (by decide +kernel), List.mem_of_getElem? (i := 1107) (by decide +kernel)⟩
theorem lw_p55 : lw_okq (⟨"TimedThreadsModel", "wordAt", "(II)I"⟩, 31) := ⟨⟨by decide +kernel, by decide +kernel⟩, List.mem_of_getElem? (i := 789) (by decide +kernel), List.mem_of_getElem? (i := 1110) (by decide +kernel), List.mem_of_getElem? (i := 1111) (by decide +kernel)⟩
theorem lw_p56 : lw_okq (⟨"TimedThreadsModel", "put", "(III)V"⟩, 31) := ⟨⟨by decide +kernel, by decide +kernel⟩, List.mem_of_getElem? (i := 789) (by decide +kernel), List.mem_of_getElem? (i := 1114) (by decide +kernel), List.mem_of_getElem? (i := 1115) (by decide +kernel)⟩
theorem lw_p57 : lw_okq (⟨"TimedThreadsModel", "first", "(I)I"⟩, 31) := ⟨⟨by decide +kernel, by decide +kernel⟩, List.mem_of_getElem? (i := 789) (by decide +kernel), List.mem_of_getElem? (i := 1118) (by decide +kernel), List.mem_of_getElem? (i := 1119) (by decide +kernel)⟩
theorem lw_p58 : lw_okq (⟨"TimedThreadsModel", "calculate", "(IIZ)I"⟩, 31) := ⟨⟨by decide +kernel, by decide +kernel⟩, List.mem_of_getElem? (i := 789) (by decide +kernel), List.mem_of_getElem? (i := 1122) (by decide +kernel), List.mem_of_getElem? (i := 1123) (by decide +kernel)⟩
theorem lw_p59 : lw_okq (⟨"TimedThreadsModel", "clock", "(II)I"⟩, 31) := ⟨⟨by decide +kernel, by decide +kernel⟩, List.mem_of_getElem? (i := 789) (by decide +kernel), List.mem_of_getElem? (i := 1129) (by decide +kernel), List.mem_of_getElem? (i := 1130) (by decide +kernel)⟩
def lw_privs_4 : List (MethodName × Nat) := [(⟨"TimedThreadsModel", "stop", "(I)I"⟩, 31), (⟨"TimedThreadsModel", "set", "(III)V"⟩, 31), (⟨"TimedThreadsModel", "done", "(III)I"⟩, 31), (⟨"TimedThreadsModel", "jump", "(IIZ)I"⟩, 31), (⟨"TimedThreadsModel", "branch", "(II)I"⟩, 31), (⟨"TimedThreadsModel", "moveWord", "(IIZ)I"⟩, 31), (⟨"TimedThreadsModel", "isThere", "(III)Z"⟩, 31), (⟨"TimedThreadsModel", "wordAt", "(II)I"⟩, 31), (⟨"TimedThreadsModel", "put", "(III)V"⟩, 31), (⟨"TimedThreadsModel", "first", "(I)I"⟩, 31), (⟨"TimedThreadsModel", "calculate", "(IIZ)I"⟩, 31), (⟨"TimedThreadsModel", "clock", "(II)I"⟩, 31)]
theorem lw_r4 : ∀ q ∈ lw_privs_4, lw_okq q := List.forall_mem_cons.mpr ⟨lw_p48, List.forall_mem_cons.mpr ⟨lw_p49, List.forall_mem_cons.mpr ⟨lw_p50, List.forall_mem_cons.mpr ⟨lw_p51, List.forall_mem_cons.mpr ⟨lw_p52, List.forall_mem_cons.mpr ⟨lw_p53, List.forall_mem_cons.mpr ⟨lw_p54, List.forall_mem_cons.mpr ⟨lw_p55, List.forall_mem_cons.mpr ⟨lw_p56, List.forall_mem_cons.mpr ⟨lw_p57, List.forall_mem_cons.mpr ⟨lw_p58, List.forall_mem_cons.mpr ⟨lw_p59, fun _ h => absurd h List.not_mem_nil⟩⟩⟩⟩⟩⟩⟩⟩⟩⟩⟩⟩
def lw_privs : List (MethodName × Nat) := lw_privs_1 ++ (lw_privs_2 ++ (lw_privs_3 ++ (lw_privs_4)))
def lw_tbl : List Cond := k2_sels lw_privs ++ tables_1
theorem lw_privs_ok : ∀ q ∈ lw_privs, lw_okq q := by
  show ∀ q ∈ lw_privs_1 ++ (lw_privs_2 ++ (lw_privs_3 ++ (lw_privs_4))), lw_okq q
  exact List.forall_mem_append.mpr ⟨lw_r1, List.forall_mem_append.mpr ⟨lw_r2, List.forall_mem_append.mpr ⟨lw_r3, lw_r4⟩⟩⟩
/-! ===== BEGIN words of one list among another's, by their places ===== -/
theorem goodIn_r {big : List Cond} (ws : List Cond) (ps : List Nat) (hp : ws = ps.filterMap (fun i => big[i]?)) (h : ws.all goodWord = true) : GoodIn big ws := by
  intro w hw
  have h1 := List.all_eq_true.mp h w hw
  rw [hp] at hw
  obtain ⟨i, -, hi⟩ := List.mem_filterMap.mp hw
  have hm : w ∈ big := by first | exact List.mem_of_getElem? hi | exact List.getElem?_mem hi
  exact ⟨hm, good_of_word h1⟩
theorem goodIn_app {big a b : List Cond} (ha : GoodIn big a) (hb : GoodIn big b) : GoodIn big (a ++ b) := fun w h => (List.mem_append.mp h).elim (ha w) (hb w)
theorem goodIn_ca {big a b : List Cond} {c : Cond} (ha : GoodIn big (c :: a)) (hb : GoodIn big b) : GoodIn big (c :: (a ++ b)) := fun w h => (List.mem_cons.mp h).elim (fun e => ha w (List.mem_cons.mpr (Or.inl e))) (fun h => (List.mem_append.mp h).elim (fun h => ha w (List.mem_cons.mpr (Or.inr h))) (hb w))
theorem goodIn_sub {big ws : List Cond} (hm : ∀ w ∈ ws, w ∈ big) (h : ws.all goodWord = true) : GoodIn big ws := fun w hw => ⟨hm w hw, good_of_word (List.all_eq_true.mp h w hw)⟩
/-! ===== END ===== -/
/-! THE CLAIM OUT OF ONE WALK OF THE LAW'S BODY. Your part is whole_start (and what it stands on); all else here is the same for every law, but numbers. -/
def R_law : String := "TimedThreadsLaw"
def lw_P (b : Addr) (xs : List Int32) (args : Array Value) (s : State) : Prop := args = #[.ref b] ∧ s.IntsAt b xs ∧ xs.length ≤ 2049 ∧ (Jvm.Cond.and given_1 narrow_1).before args s = true
def lw_Q (_ : Array Value) (s : State) (o : Outcome) (t : State) : Prop := o = .returned (some (.int 1)) ∧ Framed s o t [] 601024 7293000
def lw_Z (below : List Frame) (a : Array Value) (s : State) : State → Prop := fun t => ∃ o, t.status = .running ∧ Ended t below o ∧ lw_Q a s o t
/-- the law's own end, with 1 on the stack, nothing written that was there before, its room as the claim has it -/
theorem lw_ret {p : Program} {l : Launch} {e : Env} {s : State} {m : MethodId} {below : List Frame} {meth : Method} {c : Code} {b : Nat} (hx : p.tables.exec = Jvm.exec) (hb : c.code = code) (hr : meth.sig.returnType = ret) (hlocks : meth.locks = false) {pc : Nat} {H : Heap} {ls : Array Slot} (hdg : decode code pc = .ok (.ireturn, 1)) : W p l e room_1 s m #[Value.ref b] below meth c H [] 601024 7293000 (lw_Z below #[Value.ref b] s) (F0 m pc ls [.int 1]) := by
  intro T hT X
  obtain ⟨fs, hret, hrun, hended, hW, hframe⟩ := X.leave (v := some (.int 1)) (hlocks := hlocks) (fun h => by rw [hr] at h; cases h)
  have hmeth' : T.vm.method? m = some meth := X.method'
  refine ⟨T.setFrames fs, ?_, .returned (some (.int 1)), hrun, hended, rfl, ⟨_, rfl⟩, hW, hframe⟩
  jvm_step X.here [X.here.top, hx, hb, hdg, hmeth', hr, ret, narrow_b1]
  (try refine ⟨rfl, ?_⟩); (try refine ⟨rfl, ?_⟩)
  first | (intro acts; rw [hret _ acts rfl rfl rfl]) | rw [hret _ _ rfl rfl rfl]
  exact Steps.refl _
/-- what holds at the law's entry: the machine, the code, the tables' words (any of lw_tbl by 'hts w (by decide +kernel)'), the script of L ints xs at the cell b, what the Statement gives of the start (any of its parts by flat_of_before) -/
def lw_At (p : Program) (s : State) (m : MethodId) (meth : Method) (c : Code) (b L : Nat) (xs : Nat → Int32) : Prop :=
  p.tables.exec = Jvm.exec ∧ c.code = code ∧ meth.sig.returnType = ret ∧ c.maxLocals = 7 ∧ s.vm.findClass R_law = some m.cls ∧ (∀ w ∈ lw_tbl, w.before #[Value.ref b] s = true) ∧ va_X b L xs s s.heap ∧ b < s.heap.size ∧ meth.locks = false ∧ (Jvm.Cond.and given_1 narrow_1).before #[Value.ref b] s = true
end
section
def RX0 : String := "TimedThreads$Assembler"
def TX0 : u_T := fun k => match k with
  | 0 => ("TimedThreads$Assembler", "words", "[I", true)
  | 1 => ("TimedThreads$Assembler", "count", "I", false)
  | 2 => ("TimedThreads$Assembler", "faultKind", "I", false)
  | 3 => ("TimedThreads$Assembler", "faultLine", "I", false)
  | 4 => ("TimedThreads$Assembler", "targets", "[J", true)
  | 5 => ("TimedThreads$Assembler", "lines", "[I", true)
  | 6 => ("TimedThreads$Assembler", "labels", "LTimedThreads$Labels;", true)
  | 7 => ("TimedThreads$Assembler", "tokens", "LTimedThreads$Tokens;", true)
  | 8 => ("TimedThreads$Assembler", "at", "I", false)
  | 9 => ("TimedThreads$Assembler", "label", "J", false)
  | 10 => ("TimedThreads$Assembler", "hasWord", "Z", false)
  | 11 => ("TimedThreads$Assembler", "word", "I", false)
  | 12 => ("TimedThreads$Assembler", "target", "J", false)
  | 13 => ("TimedThreads$Assembler", "malformed", "Z", false)
  | _ => ("TimedThreads$Assembler", "misfit", "Z", false)
def tyX0 : Nat → FieldType := fun k => match k with
  | 0 => .array .int
  | 1 => .int
  | 2 => .int
  | 3 => .int
  | 4 => .array .long
  | 5 => .array .int
  | 6 => .object "TimedThreads$Labels"
  | 7 => .object "TimedThreads$Tokens"
  | 8 => .int
  | 9 => .long
  | 10 => .boolean
  | 11 => .int
  | 12 => .long
  | 13 => .boolean
  | _ => .boolean
abbrev wsX00 : List Cond := u_ws RX0 TX0 15
theorem nmX0 : ∀ a, a < 15 → ∀ b, b < 15 → a ≠ b → (TX0 a).2.1 ≠ (TX0 b).2.1 := by decide +kernel
theorem tyX0_ok : ∀ k, k < 15 → parseFieldDescriptor (TX0 k).2.2.1 = some (tyX0 k) := by decide +kernel
abbrev cX0_init : ByteArray := prog_2_method_1_code
def yX0_init : MethodName := ⟨RX0, "<init>", "()V"⟩
abbrev cX0_read : ByteArray := prog_2_method_2_code
def yX0_read : MethodName := ⟨RX0, "read", "(LTimedThreads$Text;I)V"⟩
abbrev cX0_readLine : ByteArray := prog_2_method_3_code
def yX0_readLine : MethodName := ⟨RX0, "readLine", "()V"⟩
abbrev cX0_faultOfLine : ByteArray := prog_2_method_4_code
def yX0_faultOfLine : MethodName := ⟨RX0, "faultOfLine", "(I)I"⟩
abbrev cX0_keepLine : ByteArray := prog_2_method_5_code
def yX0_keepLine : MethodName := ⟨RX0, "keepLine", "(I)V"⟩
abbrev cX0_setFault : ByteArray := prog_2_method_6_code
def yX0_setFault : MethodName := ⟨RX0, "setFault", "(II)V"⟩
abbrev cX0_mnemonicOf : ByteArray := prog_2_method_7_code
def yX0_mnemonicOf : MethodName := ⟨RX0, "mnemonicOf", "(J)I"⟩
abbrev cX0_readInstruction : ByteArray := prog_2_method_8_code
def yX0_readInstruction : MethodName := ⟨RX0, "readInstruction", "(I)V"⟩
abbrev cX0_readPiece : ByteArray := prog_2_method_9_code
def yX0_readPiece : MethodName := ⟨RX0, "readPiece", "(C)V"⟩
abbrev cX0_kindOf : ByteArray := prog_2_method_10_code
def yX0_kindOf : MethodName := ⟨RX0, "kindOf", "(C)C"⟩
abbrev cX0_putPiece : ByteArray := prog_2_method_11_code
def yX0_putPiece : MethodName := ⟨RX0, "putPiece", "(CJ)V"⟩
abbrev cX0_fitted : ByteArray := prog_2_method_12_code
def yX0_fitted : MethodName := ⟨RX0, "fitted", "(JJJ)I"⟩
abbrev cX0_noteOdd : ByteArray := prog_2_method_13_code
def yX0_noteOdd : MethodName := ⟨RX0, "noteOdd", "(J)V"⟩
abbrev cX0_resolveTargets : ByteArray := prog_2_method_14_code
def yX0_resolveTargets : MethodName := ⟨RX0, "resolveTargets", "()V"⟩
def RX1 : String := "TimedThreads$Fields"
def TX1 : u_T := fun k => match k with
  | _ => ("", "", "", false)
def tyX1 : Nat → FieldType := fun k => match k with
  | _ => .int
abbrev wsX10 : List Cond := u_ws RX1 TX1 0
theorem nmX1 : ∀ a, a < 0 → ∀ b, b < 0 → a ≠ b → (TX1 a).2.1 ≠ (TX1 b).2.1 := by decide +kernel
theorem tyX1_ok : ∀ k, k < 0 → parseFieldDescriptor (TX1 k).2.2.1 = some (tyX1 k) := by decide +kernel
abbrev cX1_op : ByteArray := prog_3_method_2_code
def yX1_op : MethodName := ⟨RX1, "op", "(I)I"⟩
abbrev cX1_rd : ByteArray := prog_3_method_3_code
def yX1_rd : MethodName := ⟨RX1, "rd", "(I)I"⟩
abbrev cX1_f : ByteArray := prog_3_method_4_code
def yX1_f : MethodName := ⟨RX1, "f", "(I)I"⟩
abbrev cX1_rs : ByteArray := prog_3_method_5_code
def yX1_rs : MethodName := ⟨RX1, "rs", "(I)I"⟩
abbrev cX1_rt : ByteArray := prog_3_method_6_code
def yX1_rt : MethodName := ⟨RX1, "rt", "(I)I"⟩
abbrev cX1_g : ByteArray := prog_3_method_7_code
def yX1_g : MethodName := ⟨RX1, "g", "(I)I"⟩
abbrev cX1_numberI : ByteArray := prog_3_method_8_code
def yX1_numberI : MethodName := ⟨RX1, "numberI", "(I)I"⟩
abbrev cX1_numberS : ByteArray := prog_3_method_9_code
def yX1_numberS : MethodName := ⟨RX1, "numberS", "(I)I"⟩
abbrev cX1_numberB : ByteArray := prog_3_method_10_code
def yX1_numberB : MethodName := ⟨RX1, "numberB", "(I)I"⟩
abbrev cX1_numberJ : ByteArray := prog_3_method_11_code
def yX1_numberJ : MethodName := ⟨RX1, "numberJ", "(I)I"⟩
abbrev cX1_numberU : ByteArray := prog_3_method_12_code
def yX1_numberU : MethodName := ⟨RX1, "numberU", "(I)I"⟩
abbrev cX1_bitsOfS : ByteArray := prog_3_method_13_code
def yX1_bitsOfS : MethodName := ⟨RX1, "bitsOfS", "(I)I"⟩
abbrev cX1_bitsOfB : ByteArray := prog_3_method_14_code
def yX1_bitsOfB : MethodName := ⟨RX1, "bitsOfB", "(I)I"⟩
abbrev cX1_bitsOfJ : ByteArray := prog_3_method_15_code
def yX1_bitsOfJ : MethodName := ⟨RX1, "bitsOfJ", "(I)I"⟩
def RX2 : String := "TimedThreads$History"
def TX2 : u_T := fun k => match k with
  | 0 => ("TimedThreads$History", "count", "I", false)
  | 1 => ("TimedThreads$History", "addresses", "[I", true)
  | 2 => ("TimedThreads$History", "cycles", "[I", true)
  | _ => ("TimedThreads$History", "retirements", "[I", true)
def tyX2 : Nat → FieldType := fun k => match k with
  | 0 => .int
  | 1 => .array .int
  | 2 => .array .int
  | _ => .array .int
abbrev wsX20 : List Cond := u_ws RX2 TX2 4
theorem nmX2 : ∀ a, a < 4 → ∀ b, b < 4 → a ≠ b → (TX2 a).2.1 ≠ (TX2 b).2.1 := by decide +kernel
theorem tyX2_ok : ∀ k, k < 4 → parseFieldDescriptor (TX2 k).2.2.1 = some (tyX2 k) := by decide +kernel
abbrev cX2_init : ByteArray := prog_4_method_1_code
def yX2_init : MethodName := ⟨RX2, "<init>", "()V"⟩
abbrev cX2_add : ByteArray := prog_4_method_2_code
def yX2_add : MethodName := ⟨RX2, "add", "(III)V"⟩
abbrev cX2_entry : ByteArray := prog_4_method_3_code
def yX2_entry : MethodName := ⟨RX2, "entry", "(II)I"⟩
abbrev cX2_placeOf : ByteArray := prog_4_method_4_code
def yX2_placeOf : MethodName := ⟨RX2, "placeOf", "(I)I"⟩
def RX3 : String := "TimedThreads$Labels"
def TX3 : u_T := fun k => match k with
  | 0 => ("TimedThreads$Labels", "count", "I", false)
  | 1 => ("TimedThreads$Labels", "keys", "[J", true)
  | _ => ("TimedThreads$Labels", "places", "[I", true)
def tyX3 : Nat → FieldType := fun k => match k with
  | 0 => .int
  | 1 => .array .long
  | _ => .array .int
abbrev wsX30 : List Cond := u_ws RX3 TX3 3
theorem nmX3 : ∀ a, a < 3 → ∀ b, b < 3 → a ≠ b → (TX3 a).2.1 ≠ (TX3 b).2.1 := by decide +kernel
theorem tyX3_ok : ∀ k, k < 3 → parseFieldDescriptor (TX3 k).2.2.1 = some (tyX3 k) := by decide +kernel
abbrev cX3_init : ByteArray := prog_5_method_1_code
def yX3_init : MethodName := ⟨RX3, "<init>", "()V"⟩
abbrev cX3_add : ByteArray := prog_5_method_2_code
def yX3_add : MethodName := ⟨RX3, "add", "(JI)V"⟩
abbrev cX3_find : ByteArray := prog_5_method_3_code
def yX3_find : MethodName := ⟨RX3, "find", "(J)I"⟩
def RX4 : String := "TimedThreads$Mnemonic"
def TX4 : u_T := fun k => match k with
  | _ => ("", "", "", false)
def tyX4 : Nat → FieldType := fun k => match k with
  | _ => .int
abbrev wsX40 : List Cond := u_ws RX4 TX4 0
theorem nmX4 : ∀ a, a < 0 → ∀ b, b < 0 → a ≠ b → (TX4 a).2.1 ≠ (TX4 b).2.1 := by decide +kernel
theorem tyX4_ok : ∀ k, k < 0 → parseFieldDescriptor (TX4 k).2.2.1 = some (tyX4 k) := by decide +kernel
def RX5 : String := "TimedThreads$Outcome"
def TX5 : u_T := fun k => match k with
  | _ => ("", "", "", false)
def tyX5 : Nat → FieldType := fun k => match k with
  | _ => .int
abbrev wsX50 : List Cond := u_ws RX5 TX5 0
theorem nmX5 : ∀ a, a < 0 → ∀ b, b < 0 → a ≠ b → (TX5 a).2.1 ≠ (TX5 b).2.1 := by decide +kernel
theorem tyX5_ok : ∀ k, k < 0 → parseFieldDescriptor (TX5 k).2.2.1 = some (tyX5 k) := by decide +kernel
def RX6 : String := "TimedThreads$SharedMemory"
def TX6 : u_T := fun k => match k with
  | 0 => ("TimedThreads$SharedMemory", "words", "[I", true)
  | _ => ("TimedThreads$SharedMemory", "wheel", "I", true)
def tyX6 : Nat → FieldType := fun k => match k with
  | 0 => .array .int
  | _ => .int
abbrev wsX60 : List Cond := u_ws RX6 TX6 2
theorem nmX6 : ∀ a, a < 2 → ∀ b, b < 2 → a ≠ b → (TX6 a).2.1 ≠ (TX6 b).2.1 := by decide +kernel
theorem tyX6_ok : ∀ k, k < 2 → parseFieldDescriptor (TX6 k).2.2.1 = some (tyX6 k) := by decide +kernel
abbrev cX6_init : ByteArray := prog_8_method_1_code
def yX6_init : MethodName := ⟨RX6, "<init>", "(I)V"⟩
abbrev cX6_retirement : ByteArray := prog_8_method_2_code
def yX6_retirement : MethodName := ⟨RX6, "retirement", "(II)I"⟩
def RX7 : String := "TimedThreads$Text"
def TX7 : u_T := fun k => match k with
  | 0 => ("TimedThreads$Text", "characters", "[C", true)
  | _ => ("TimedThreads$Text", "length", "I", false)
def tyX7 : Nat → FieldType := fun k => match k with
  | 0 => .array .char
  | _ => .int
abbrev wsX70 : List Cond := u_ws RX7 TX7 2
theorem nmX7 : ∀ a, a < 2 → ∀ b, b < 2 → a ≠ b → (TX7 a).2.1 ≠ (TX7 b).2.1 := by decide +kernel
theorem tyX7_ok : ∀ k, k < 2 → parseFieldDescriptor (TX7 k).2.2.1 = some (tyX7 k) := by decide +kernel
abbrev cX7_init : ByteArray := prog_9_method_1_code
def yX7_init : MethodName := ⟨RX7, "<init>", "()V"⟩
abbrev cX7_canBeTyped : ByteArray := prog_9_method_2_code
def yX7_canBeTyped : MethodName := ⟨RX7, "canBeTyped", "(JI)Z"⟩
abbrev cX7_add : ByteArray := prog_9_method_3_code
def yX7_add : MethodName := ⟨RX7, "add", "(JI)V"⟩
abbrev cX7_byteOf : ByteArray := prog_9_method_4_code
def yX7_byteOf : MethodName := ⟨RX7, "byteOf", "(JI)C"⟩
def RX8 : String := "TimedThreads$TimedThread"
def TX8 : u_T := fun k => match k with
  | 0 => ("TimedThreads$TimedThread", "registers", "[I", true)
  | 1 => ("TimedThreads$TimedThread", "store", "[I", true)
  | 2 => ("TimedThreads$TimedThread", "history", "LTimedThreads$History;", true)
  | 3 => ("TimedThreads$TimedThread", "low", "I", false)
  | 4 => ("TimedThreads$TimedThread", "high", "I", false)
  | 5 => ("TimedThreads$TimedThread", "number", "I", true)
  | 6 => ("TimedThreads$TimedThread", "timers", "[I", true)
  | 7 => ("TimedThreads$TimedThread", "status", "I", false)
  | 8 => ("TimedThreads$TimedThread", "address", "I", false)
  | 9 => ("TimedThreads$TimedThread", "ready", "I", false)
  | 10 => ("TimedThreads$TimedThread", "nextAddress", "I", false)
  | _ => ("TimedThreads$TimedThread", "retirement", "I", false)
def tyX8 : Nat → FieldType := fun k => match k with
  | 0 => .array .int
  | 1 => .array .int
  | 2 => .object "TimedThreads$History"
  | 3 => .int
  | 4 => .int
  | 5 => .int
  | 6 => .array .int
  | 7 => .int
  | 8 => .int
  | 9 => .int
  | 10 => .int
  | _ => .int
abbrev wsX80 : List Cond := u_ws RX8 TX8 12
theorem nmX8 : ∀ a, a < 12 → ∀ b, b < 12 → a ≠ b → (TX8 a).2.1 ≠ (TX8 b).2.1 := by decide +kernel
theorem tyX8_ok : ∀ k, k < 12 → parseFieldDescriptor (TX8 k).2.2.1 = some (tyX8 k) := by decide +kernel
abbrev cX8_init : ByteArray := prog_10_method_1_code
def yX8_init : MethodName := ⟨RX8, "<init>", "(I)V"⟩
abbrev cX8_begin : ByteArray := prog_10_method_2_code
def yX8_begin : MethodName := ⟨RX8, "begin", "(II)V"⟩
abbrev cX8_condition : ByteArray := prog_10_method_3_code
def yX8_condition : MethodName := ⟨RX8, "condition", "(I)I"⟩
abbrev cX8_takeTurn : ByteArray := prog_10_method_4_code
def yX8_takeTurn : MethodName := ⟨RX8, "takeTurn", "(ILTimedThreads$SharedMemory;)Z"⟩
abbrev cX8_attempt : ByteArray := prog_10_method_5_code
def yX8_attempt : MethodName := ⟨RX8, "attempt", "(ILTimedThreads$SharedMemory;)LTimedThreads$Outcome;"⟩
abbrev cX8_loadUpper : ByteArray := prog_10_method_6_code
def yX8_loadUpper : MethodName := ⟨RX8, "loadUpper", "(I)LTimedThreads$Outcome;"⟩
abbrev cX8_jump : ByteArray := prog_10_method_7_code
def yX8_jump : MethodName := ⟨RX8, "jump", "(I)LTimedThreads$Outcome;"⟩
abbrev cX8_jumpToRegister : ByteArray := prog_10_method_8_code
def yX8_jumpToRegister : MethodName := ⟨RX8, "jumpToRegister", "(I)LTimedThreads$Outcome;"⟩
abbrev cX8_branch : ByteArray := prog_10_method_9_code
def yX8_branch : MethodName := ⟨RX8, "branch", "(I)LTimedThreads$Outcome;"⟩
abbrev cX8_isSo : ByteArray := prog_10_method_10_code
def yX8_isSo : MethodName := ⟨RX8, "isSo", "(III)Z"⟩
abbrev cX8_isBelowUnsigned : ByteArray := prog_10_method_11_code
def yX8_isBelowUnsigned : MethodName := ⟨RX8, "isBelowUnsigned", "(II)Z"⟩
abbrev cX8_load : ByteArray := prog_10_method_12_code
def yX8_load : MethodName := ⟨RX8, "load", "(IILTimedThreads$SharedMemory;)LTimedThreads$Outcome;"⟩
abbrev cX8_save : ByteArray := prog_10_method_13_code
def yX8_save : MethodName := ⟨RX8, "save", "(IILTimedThreads$SharedMemory;)LTimedThreads$Outcome;"⟩
abbrev cX8_canReach : ByteArray := prog_10_method_14_code
def yX8_canReach : MethodName := ⟨RX8, "canReach", "(II)Z"⟩
abbrev cX8_rowOf : ByteArray := prog_10_method_15_code
def yX8_rowOf : MethodName := ⟨RX8, "rowOf", "(ILTimedThreads$SharedMemory;)[I"⟩
abbrev cX8_placeOf : ByteArray := prog_10_method_16_code
def yX8_placeOf : MethodName := ⟨RX8, "placeOf", "(I)I"⟩
abbrev cX8_bitOf : ByteArray := prog_10_method_17_code
def yX8_bitOf : MethodName := ⟨RX8, "bitOf", "(I)I"⟩
abbrev cX8_setRetirement : ByteArray := prog_10_method_18_code
def yX8_setRetirement : MethodName := ⟨RX8, "setRetirement", "(IILTimedThreads$SharedMemory;)V"⟩
abbrev cX8_computeWithNumber : ByteArray := prog_10_method_19_code
def yX8_computeWithNumber : MethodName := ⟨RX8, "computeWithNumber", "(I)LTimedThreads$Outcome;"⟩
abbrev cX8_computeWithRegister : ByteArray := prog_10_method_20_code
def yX8_computeWithRegister : MethodName := ⟨RX8, "computeWithRegister", "(I)LTimedThreads$Outcome;"⟩
abbrev cX8_compute : ByteArray := prog_10_method_21_code
def yX8_compute : MethodName := ⟨RX8, "compute", "(IZII)I"⟩
abbrev cX8_timed : ByteArray := prog_10_method_22_code
def yX8_timed : MethodName := ⟨RX8, "timed", "(II)LTimedThreads$Outcome;"⟩
abbrev cX8_setTimer : ByteArray := prog_10_method_23_code
def yX8_setTimer : MethodName := ⟨RX8, "setTimer", "(III)LTimedThreads$Outcome;"⟩
abbrev cX8_halt : ByteArray := prog_10_method_24_code
def yX8_halt : MethodName := ⟨RX8, "halt", "(I)LTimedThreads$Outcome;"⟩
abbrev cX8_setRegister : ByteArray := prog_10_method_25_code
def yX8_setRegister : MethodName := ⟨RX8, "setRegister", "(II)V"⟩
abbrev cX8_isInStore : ByteArray := prog_10_method_26_code
def yX8_isInStore : MethodName := ⟨RX8, "isInStore", "(I)Z"⟩
abbrev cX8_isAligned : ByteArray := prog_10_method_27_code
def yX8_isAligned : MethodName := ⟨RX8, "isAligned", "(I)Z"⟩
def RX9 : String := "TimedThreads$Tokens"
def TX9 : u_T := fun k => match k with
  | 0 => ("TimedThreads$Tokens", "kinds", "[C", true)
  | 1 => ("TimedThreads$Tokens", "values", "[J", true)
  | 2 => ("TimedThreads$Tokens", "count", "I", false)
  | 3 => ("TimedThreads$Tokens", "characters", "[C", false)
  | 4 => ("TimedThreads$Tokens", "length", "I", false)
  | _ => ("TimedThreads$Tokens", "at", "I", false)
def tyX9 : Nat → FieldType := fun k => match k with
  | 0 => .array .char
  | 1 => .array .long
  | 2 => .int
  | 3 => .array .char
  | 4 => .int
  | _ => .int
abbrev wsX90 : List Cond := u_ws RX9 TX9 6
theorem nmX9 : ∀ a, a < 6 → ∀ b, b < 6 → a ≠ b → (TX9 a).2.1 ≠ (TX9 b).2.1 := by decide +kernel
theorem tyX9_ok : ∀ k, k < 6 → parseFieldDescriptor (TX9 k).2.2.1 = some (tyX9 k) := by decide +kernel
abbrev cX9_init : ByteArray := prog_11_method_1_code
def yX9_init : MethodName := ⟨RX9, "<init>", "()V"⟩
abbrev cX9_withLetter : ByteArray := prog_11_method_2_code
def yX9_withLetter : MethodName := ⟨RX9, "withLetter", "(JC)J"⟩
abbrev cX9_split : ByteArray := prog_11_method_3_code
def yX9_split : MethodName := ⟨RX9, "split", "(LTimedThreads$Text;)V"⟩
abbrev cX9_kindAt : ByteArray := prog_11_method_4_code
def yX9_kindAt : MethodName := ⟨RX9, "kindAt", "(I)C"⟩
abbrev cX9_valueAt : ByteArray := prog_11_method_5_code
def yX9_valueAt : MethodName := ⟨RX9, "valueAt", "(I)J"⟩
abbrev cX9_size : ByteArray := prog_11_method_6_code
def yX9_size : MethodName := ⟨RX9, "size", "()I"⟩
abbrev cX9_takeMark : ByteArray := prog_11_method_7_code
def yX9_takeMark : MethodName := ⟨RX9, "takeMark", "(C)V"⟩
abbrev cX9_takeLetters : ByteArray := prog_11_method_8_code
def yX9_takeLetters : MethodName := ⟨RX9, "takeLetters", "()V"⟩
abbrev cX9_takeRegister : ByteArray := prog_11_method_9_code
def yX9_takeRegister : MethodName := ⟨RX9, "takeRegister", "()V"⟩
abbrev cX9_takeNumber : ByteArray := prog_11_method_10_code
def yX9_takeNumber : MethodName := ⟨RX9, "takeNumber", "(Z)V"⟩
abbrev cX9_takeDigits : ByteArray := prog_11_method_11_code
def yX9_takeDigits : MethodName := ⟨RX9, "takeDigits", "()J"⟩
abbrev cX9_add : ByteArray := prog_11_method_12_code
def yX9_add : MethodName := ⟨RX9, "add", "(CJ)V"⟩
abbrev cX9_isLetter : ByteArray := prog_11_method_13_code
def yX9_isLetter : MethodName := ⟨RX9, "isLetter", "(C)Z"⟩
abbrev cX9_isDigit : ByteArray := prog_11_method_14_code
def yX9_isDigit : MethodName := ⟨RX9, "isDigit", "(C)Z"⟩
def RX10 : String := "TimedThreads"
def TX10 : u_T := fun k => match k with
  | 0 => ("TimedThreads", "memory", "LTimedThreads$SharedMemory;", true)
  | 1 => ("TimedThreads", "threads", "[LTimedThreads$TimedThread;", true)
  | 2 => ("TimedThreads", "text", "LTimedThreads$Text;", true)
  | 3 => ("TimedThreads", "assembler", "LTimedThreads$Assembler;", true)
  | _ => ("TimedThreads", "cycle", "I", false)
def tyX10 : Nat → FieldType := fun k => match k with
  | 0 => .object "TimedThreads$SharedMemory"
  | 1 => .array (.object "TimedThreads$TimedThread")
  | 2 => .object "TimedThreads$Text"
  | 3 => .object "TimedThreads$Assembler"
  | _ => .int
abbrev wsX100 : List Cond := u_ws RX10 TX10 5
theorem nmX10 : ∀ a, a < 5 → ∀ b, b < 5 → a ≠ b → (TX10 a).2.1 ≠ (TX10 b).2.1 := by decide +kernel
theorem tyX10_ok : ∀ k, k < 5 → parseFieldDescriptor (TX10 k).2.2.1 = some (tyX10 k) := by decide +kernel
abbrev cX10_init : ByteArray := prog_1_method_1_code
def yX10_init : MethodName := ⟨RX10, "<init>", "(I)V"⟩
abbrev cX10_type : ByteArray := prog_1_method_2_code
def yX10_type : MethodName := ⟨RX10, "type", "(JI)I"⟩
abbrev cX10_clear : ByteArray := prog_1_method_3_code
def yX10_clear : MethodName := ⟨RX10, "clear", "()I"⟩
abbrev cX10_assemble : ByteArray := prog_1_method_4_code
def yX10_assemble : MethodName := ⟨RX10, "assemble", "(II)I"⟩
abbrev cX10_fault : ByteArray := prog_1_method_5_code
def yX10_fault : MethodName := ⟨RX10, "fault", "(I)I"⟩
abbrev cX10_peek : ByteArray := prog_1_method_6_code
def yX10_peek : MethodName := ⟨RX10, "peek", "(II)I"⟩
abbrev cX10_poke : ByteArray := prog_1_method_7_code
def yX10_poke : MethodName := ⟨RX10, "poke", "(III)Z"⟩
abbrev cX10_shared : ByteArray := prog_1_method_8_code
def yX10_shared : MethodName := ⟨RX10, "shared", "(I)I"⟩
abbrev cX10_part : ByteArray := prog_1_method_9_code
def yX10_part : MethodName := ⟨RX10, "part", "(III)Z"⟩
abbrev cX10_start : ByteArray := prog_1_method_10_code
def yX10_start : MethodName := ⟨RX10, "start", "(II)Z"⟩
abbrev cX10_run : ByteArray := prog_1_method_11_code
def yX10_run : MethodName := ⟨RX10, "run", "(I)I"⟩
abbrev cX10_now : ByteArray := prog_1_method_12_code
def yX10_now : MethodName := ⟨RX10, "now", "()I"⟩
abbrev cX10_register : ByteArray := prog_1_method_13_code
def yX10_register : MethodName := ⟨RX10, "register", "(II)I"⟩
abbrev cX10_state : ByteArray := prog_1_method_14_code
def yX10_state : MethodName := ⟨RX10, "state", "(II)I"⟩
abbrev cX10_trace : ByteArray := prog_1_method_15_code
def yX10_trace : MethodName := ⟨RX10, "trace", "(III)I"⟩
abbrev cX10_isThread : ByteArray := prog_1_method_16_code
def yX10_isThread : MethodName := ⟨RX10, "isThread", "(I)Z"⟩
abbrev cX10_isStoreWord : ByteArray := prog_1_method_17_code
def yX10_isStoreWord : MethodName := ⟨RX10, "isStoreWord", "(II)Z"⟩
abbrev cX10_isRegister : ByteArray := prog_1_method_18_code
def yX10_isRegister : MethodName := ⟨RX10, "isRegister", "(I)Z"⟩
def RX11 : String := "TimedThreadsModel"
def TX11 : u_T := fun k => match k with
  | 0 => ("TimedThreadsModel", "refusal", "I", false)
  | 1 => ("TimedThreadsModel", "wheel", "I", false)
  | 2 => ("TimedThreadsModel", "now", "I", false)
  | 3 => ("TimedThreadsModel", "text", "[C", false)
  | 4 => ("TimedThreadsModel", "length", "I", false)
  | 5 => ("TimedThreadsModel", "at", "I", false)
  | 6 => ("TimedThreadsModel", "fault", "I", false)
  | 7 => ("TimedThreadsModel", "faultLine", "I", false)
  | 8 => ("TimedThreadsModel", "line", "I", false)
  | 9 => ("TimedThreadsModel", "words", "I", false)
  | 10 => ("TimedThreadsModel", "labels", "I", false)
  | 11 => ("TimedThreadsModel", "targets", "I", false)
  | 12 => ("TimedThreadsModel", "wrong", "Z", false)
  | 13 => ("TimedThreadsModel", "unfit", "Z", false)
  | 14 => ("TimedThreadsModel", "code", "[I", false)
  | 15 => ("TimedThreadsModel", "label", "[J", false)
  | 16 => ("TimedThreadsModel", "labelWord", "[I", false)
  | 17 => ("TimedThreadsModel", "target", "[J", false)
  | 18 => ("TimedThreadsModel", "targetWord", "[I", false)
  | 19 => ("TimedThreadsModel", "targetLine", "[I", false)
  | 20 => ("TimedThreadsModel", "store", "[I", false)
  | 21 => ("TimedThreadsModel", "common", "[I", false)
  | 22 => ("TimedThreadsModel", "low", "[I", false)
  | 23 => ("TimedThreadsModel", "high", "[I", false)
  | 24 => ("TimedThreadsModel", "register", "[I", false)
  | 25 => ("TimedThreadsModel", "address", "[I", false)
  | 26 => ("TimedThreadsModel", "status", "[I", false)
  | 27 => ("TimedThreadsModel", "did", "[I", false)
  | 28 => ("TimedThreadsModel", "ready", "[I", false)
  | 29 => ("TimedThreadsModel", "timer", "[I", false)
  | _ => ("TimedThreadsModel", "trace", "[I", false)
def tyX11 : Nat → FieldType := fun k => match k with
  | 0 => .int
  | 1 => .int
  | 2 => .int
  | 3 => .array .char
  | 4 => .int
  | 5 => .int
  | 6 => .int
  | 7 => .int
  | 8 => .int
  | 9 => .int
  | 10 => .int
  | 11 => .int
  | 12 => .boolean
  | 13 => .boolean
  | 14 => .array .int
  | 15 => .array .long
  | 16 => .array .int
  | 17 => .array .long
  | 18 => .array .int
  | 19 => .array .int
  | 20 => .array .int
  | 21 => .array .int
  | 22 => .array .int
  | 23 => .array .int
  | 24 => .array .int
  | 25 => .array .int
  | 26 => .array .int
  | 27 => .array .int
  | 28 => .array .int
  | 29 => .array .int
  | _ => .array .int
abbrev wsX110 : List Cond := u_ws RX11 TX11 31
theorem nmX11 : ∀ a, a < 31 → ∀ b, b < 31 → a ≠ b → (TX11 a).2.1 ≠ (TX11 b).2.1 := by decide +kernel
theorem tyX11_ok : ∀ k, k < 31 → parseFieldDescriptor (TX11 k).2.2.1 = some (tyX11 k) := by decide +kernel
abbrev cX11_init : ByteArray := prog_13_method_1_code
def yX11_init : MethodName := ⟨RX11, "<init>", "(I)V"⟩
abbrev cX11_thrown : ByteArray := prog_13_method_2_code
def yX11_thrown : MethodName := ⟨RX11, "thrown", "()I"⟩
abbrev cX11_refuse : ByteArray := prog_13_method_3_code
def yX11_refuse : MethodName := ⟨RX11, "refuse", "(I)I"⟩
abbrev cX11_isCharacter : ByteArray := prog_13_method_4_code
def yX11_isCharacter : MethodName := ⟨RX11, "isCharacter", "(J)Z"⟩
abbrev cX11_type : ByteArray := prog_13_method_5_code
def yX11_type : MethodName := ⟨RX11, "type", "(JI)I"⟩
abbrev cX11_clear : ByteArray := prog_13_method_6_code
def yX11_clear : MethodName := ⟨RX11, "clear", "()I"⟩
abbrev cX11_character : ByteArray := prog_13_method_7_code
def yX11_character : MethodName := ⟨RX11, "character", "(I)I"⟩
abbrev cX11_isLetter : ByteArray := prog_13_method_8_code
def yX11_isLetter : MethodName := ⟨RX11, "isLetter", "(I)Z"⟩
abbrev cX11_isDigit : ByteArray := prog_13_method_9_code
def yX11_isDigit : MethodName := ⟨RX11, "isDigit", "(I)Z"⟩
abbrev cX11_skip : ByteArray := prog_13_method_10_code
def yX11_skip : MethodName := ⟨RX11, "skip", "()V"⟩
abbrev cX11_isEnd : ByteArray := prog_13_method_11_code
def yX11_isEnd : MethodName := ⟨RX11, "isEnd", "()Z"⟩
abbrev cX11_letters : ByteArray := prog_13_method_12_code
def yX11_letters : MethodName := ⟨RX11, "letters", "()J"⟩
abbrev cX11_need : ByteArray := prog_13_method_13_code
def yX11_need : MethodName := ⟨RX11, "need", "(I)V"⟩
abbrev cX11_takeRegister : ByteArray := prog_13_method_14_code
def yX11_takeRegister : MethodName := ⟨RX11, "takeRegister", "()I"⟩
abbrev cX11_number : ByteArray := prog_13_method_15_code
def yX11_number : MethodName := ⟨RX11, "number", "(JJ)J"⟩
abbrev cX11_lookup : ByteArray := prog_13_method_16_code
def yX11_lookup : MethodName := ⟨RX11, "lookup", "(J)I"⟩
abbrev cX11_immediate : ByteArray := prog_13_method_17_code
def yX11_immediate : MethodName := ⟨RX11, "immediate", "(I)I"⟩
abbrev cX11_storing : ByteArray := prog_13_method_18_code
def yX11_storing : MethodName := ⟨RX11, "storing", "(I)I"⟩
abbrev cX11_branching : ByteArray := prog_13_method_19_code
def yX11_branching : MethodName := ⟨RX11, "branching", "(I)I"⟩
abbrev cX11_jumping : ByteArray := prog_13_method_20_code
def yX11_jumping : MethodName := ⟨RX11, "jumping", "(I)I"⟩
abbrev cX11_distance : ByteArray := prog_13_method_21_code
def yX11_distance : MethodName := ⟨RX11, "distance", "(Z)I"⟩
abbrev cX11_pair : ByteArray := prog_13_method_22_code
def yX11_pair : MethodName := ⟨RX11, "pair", "(II)I"⟩
abbrev cX11_operands : ByteArray := prog_13_method_23_code
def yX11_operands : MethodName := ⟨RX11, "operands", "(I)I"⟩
abbrev cX11_labelOf : ByteArray := prog_13_method_24_code
def yX11_labelOf : MethodName := ⟨RX11, "labelOf", "(J)I"⟩
abbrev cX11_takeLine : ByteArray := prog_13_method_25_code
def yX11_takeLine : MethodName := ⟨RX11, "takeLine", "(I)V"⟩
abbrev cX11_link : ByteArray := prog_13_method_26_code
def yX11_link : MethodName := ⟨RX11, "link", "(I)V"⟩
abbrev cX11_assemble : ByteArray := prog_13_method_27_code
def yX11_assemble : MethodName := ⟨RX11, "assemble", "(II)I"⟩
abbrev cX11_fault : ByteArray := prog_13_method_28_code
def yX11_fault : MethodName := ⟨RX11, "fault", "(I)I"⟩
abbrev cX11_peek : ByteArray := prog_13_method_29_code
def yX11_peek : MethodName := ⟨RX11, "peek", "(II)I"⟩
abbrev cX11_poke : ByteArray := prog_13_method_30_code
def yX11_poke : MethodName := ⟨RX11, "poke", "(III)Z"⟩
abbrev cX11_shared : ByteArray := prog_13_method_31_code
def yX11_shared : MethodName := ⟨RX11, "shared", "(I)I"⟩
abbrev cX11_part : ByteArray := prog_13_method_32_code
def yX11_part : MethodName := ⟨RX11, "part", "(III)Z"⟩
abbrev cX11_isOwn : ByteArray := prog_13_method_33_code
def yX11_isOwn : MethodName := ⟨RX11, "isOwn", "(I)Z"⟩
abbrev cX11_isThere : ByteArray := prog_13_method_34_code
def yX11_isThere : MethodName := ⟨RX11, "isThere", "(III)Z"⟩
abbrev cX11_wordAt : ByteArray := prog_13_method_35_code
def yX11_wordAt : MethodName := ⟨RX11, "wordAt", "(II)I"⟩
abbrev cX11_put : ByteArray := prog_13_method_36_code
def yX11_put : MethodName := ⟨RX11, "put", "(III)V"⟩
abbrev cX11_start : ByteArray := prog_13_method_37_code
def yX11_start : MethodName := ⟨RX11, "start", "(II)Z"⟩
abbrev cX11_set : ByteArray := prog_13_method_38_code
def yX11_set : MethodName := ⟨RX11, "set", "(III)V"⟩
abbrev cX11_done : ByteArray := prog_13_method_39_code
def yX11_done : MethodName := ⟨RX11, "done", "(III)I"⟩
abbrev cX11_stop : ByteArray := prog_13_method_40_code
def yX11_stop : MethodName := ⟨RX11, "stop", "(I)I"⟩
abbrev cX11_isLess : ByteArray := prog_13_method_41_code
def yX11_isLess : MethodName := ⟨RX11, "isLess", "(II)Z"⟩
abbrev cX11_worked : ByteArray := prog_13_method_42_code
def yX11_worked : MethodName := ⟨RX11, "worked", "(IZII)I"⟩
abbrev cX11_goes : ByteArray := prog_13_method_43_code
def yX11_goes : MethodName := ⟨RX11, "goes", "(III)Z"⟩
abbrev cX11_first : ByteArray := prog_13_method_44_code
def yX11_first : MethodName := ⟨RX11, "first", "(I)I"⟩
abbrev cX11_moveWord : ByteArray := prog_13_method_45_code
def yX11_moveWord : MethodName := ⟨RX11, "moveWord", "(IIZ)I"⟩
abbrev cX11_calculate : ByteArray := prog_13_method_46_code
def yX11_calculate : MethodName := ⟨RX11, "calculate", "(IIZ)I"⟩
abbrev cX11_jump : ByteArray := prog_13_method_47_code
def yX11_jump : MethodName := ⟨RX11, "jump", "(IIZ)I"⟩
abbrev cX11_branch : ByteArray := prog_13_method_48_code
def yX11_branch : MethodName := ⟨RX11, "branch", "(II)I"⟩
abbrev cX11_clock : ByteArray := prog_13_method_49_code
def yX11_clock : MethodName := ⟨RX11, "clock", "(II)I"⟩
abbrev cX11_turn : ByteArray := prog_13_method_50_code
def yX11_turn : MethodName := ⟨RX11, "turn", "(I)I"⟩
abbrev cX11_run : ByteArray := prog_13_method_51_code
def yX11_run : MethodName := ⟨RX11, "run", "(I)I"⟩
abbrev cX11_now : ByteArray := prog_13_method_52_code
def yX11_now : MethodName := ⟨RX11, "now", "()I"⟩
abbrev cX11_register : ByteArray := prog_13_method_53_code
def yX11_register : MethodName := ⟨RX11, "register", "(II)I"⟩
abbrev cX11_state : ByteArray := prog_13_method_54_code
def yX11_state : MethodName := ⟨RX11, "state", "(II)I"⟩
abbrev cX11_trace : ByteArray := prog_13_method_55_code
def yX11_trace : MethodName := ⟨RX11, "trace", "(III)I"⟩
def RJx29ce0 : String := "java/lang/Enum"
def TJx29ce0 : u_T := fun k => match k with
  | _ => ("", "", "", false)
def tyJx29ce0 : Nat → FieldType := fun k => match k with
  | _ => .int
abbrev wsJx29ce00 : List Cond := u_ws RJx29ce0 TJx29ce0 0
theorem nmJx29ce0 : ∀ a, a < 0 → ∀ b, b < 0 → a ≠ b → (TJx29ce0 a).2.1 ≠ (TJx29ce0 b).2.1 := by decide +kernel
theorem tyJx29ce0_ok : ∀ k, k < 0 → parseFieldDescriptor (TJx29ce0 k).2.2.1 = some (tyJx29ce0 k) := by decide +kernel
def RJ9 : String := "java/lang/Math"
def TJ9 : u_T := fun k => match k with
  | _ => ("", "", "", false)
def tyJ9 : Nat → FieldType := fun k => match k with
  | _ => .int
abbrev wsJ90 : List Cond := u_ws RJ9 TJ9 0
theorem nmJ9 : ∀ a, a < 0 → ∀ b, b < 0 → a ≠ b → (TJ9 a).2.1 ≠ (TJ9 b).2.1 := by decide +kernel
theorem tyJ9_ok : ∀ k, k < 0 → parseFieldDescriptor (TJ9 k).2.2.1 = some (tyJ9 k) := by decide +kernel
abbrev cJ9_floorMod_7cf53 : ByteArray := prog_18_method_50_code
def yJ9_floorMod_7cf53 : MethodName := ⟨RJ9, "floorMod", "(II)I"⟩
abbrev cJ9_max_7cf53 : ByteArray := prog_18_method_65_code
def yJ9_max_7cf53 : MethodName := ⟨RJ9, "max", "(II)I"⟩
abbrev cJ9_max_f86c9 : ByteArray := prog_18_method_66_code
def yJ9_max_f86c9 : MethodName := ⟨RJ9, "max", "(JJ)J"⟩
abbrev cJ9_min_7cf53 : ByteArray := prog_18_method_69_code
def yJ9_min_7cf53 : MethodName := ⟨RJ9, "min", "(II)I"⟩
abbrev cJ9_min_f86c9 : ByteArray := prog_18_method_70_code
def yJ9_min_f86c9 : MethodName := ⟨RJ9, "min", "(JJ)J"⟩
def RJ0 : String := "java/lang/String"
def TJ0 : u_T := fun k => match k with
  | _ => ("", "", "", false)
def tyJ0 : Nat → FieldType := fun k => match k with
  | _ => .int
abbrev wsJ00 : List Cond := u_ws RJ0 TJ0 0
theorem nmJ0 : ∀ a, a < 0 → ∀ b, b < 0 → a ≠ b → (TJ0 a).2.1 ≠ (TJ0 b).2.1 := by decide +kernel
theorem tyJ0_ok : ∀ k, k < 0 → parseFieldDescriptor (TJ0 k).2.2.1 = some (tyJ0 k) := by decide +kernel
abbrev cJ0_length_8abf5 : ByteArray := prog_20_method_54_code
def yJ0_length_8abf5 : MethodName := ⟨RJ0, "length", "()I"⟩
abbrev cJ0_charAt_5068e : ByteArray := prog_20_method_56_code
def yJ0_charAt_5068e : MethodName := ⟨RJ0, "charAt", "(I)C"⟩
abbrev cJ0_coder_7d493 : ByteArray := prog_20_method_152_code
def yJ0_coder_7d493 : MethodName := ⟨RJ0, "coder", "()B"⟩
abbrev cJ0_isLatin1_aae02 : ByteArray := prog_20_method_154_code
def yJ0_isLatin1_aae02 : MethodName := ⟨RJ0, "isLatin1", "()Z"⟩
abbrev cJ0_checkIndex_df160 : ByteArray := prog_20_method_155_code
def yJ0_checkIndex_df160 : MethodName := ⟨RJ0, "checkIndex", "(II)V"⟩
def RJ1 : String := "java/lang/StringLatin1"
def TJ1 : u_T := fun k => match k with
  | _ => ("", "", "", false)
def tyJ1 : Nat → FieldType := fun k => match k with
  | _ => .int
abbrev wsJ10 : List Cond := u_ws RJ1 TJ1 0
theorem nmJ1 : ∀ a, a < 0 → ∀ b, b < 0 → a ≠ b → (TJ1 a).2.1 ≠ (TJ1 b).2.1 := by decide +kernel
theorem tyJ1_ok : ∀ k, k < 0 → parseFieldDescriptor (TJ1 k).2.2.1 = some (tyJ1 k) := by decide +kernel
abbrev cJ1_charAt_3b067 : ByteArray := prog_21_method_2_code
def yJ1_charAt_3b067 : MethodName := ⟨RJ1, "charAt", "([BI)C"⟩
def RJ2 : String := "java/lang/StringUTF16"
def TJ2 : u_T := fun k => match k with
  | _ => ("", "", "", false)
def tyJ2 : Nat → FieldType := fun k => match k with
  | _ => .int
abbrev wsJ20 : List Cond := u_ws RJ2 TJ2 0
theorem nmJ2 : ∀ a, a < 0 → ∀ b, b < 0 → a ≠ b → (TJ2 a).2.1 ≠ (TJ2 b).2.1 := by decide +kernel
theorem tyJ2_ok : ∀ k, k < 0 → parseFieldDescriptor (TJ2 k).2.2.1 = some (tyJ2 k) := by decide +kernel
abbrev cJ2_getChar_3b067 : ByteArray := prog_22_method_5_code
def yJ2_getChar_3b067 : MethodName := ⟨RJ2, "getChar", "([BI)C"⟩
abbrev cJ2_length_9d52b : ByteArray := prog_22_method_6_code
def yJ2_length_9d52b : MethodName := ⟨RJ2, "length", "([B)I"⟩
abbrev cJ2_charAt_3b067 : ByteArray := prog_22_method_83_code
def yJ2_charAt_3b067 : MethodName := ⟨RJ2, "charAt", "([BI)C"⟩
abbrev cJ2_checkIndex_2214a : ByteArray := prog_22_method_91_code
def yJ2_checkIndex_2214a : MethodName := ⟨RJ2, "checkIndex", "(I[B)V"⟩
def RJ10 : String := "java/lang/System"
def TJ10 : u_T := fun k => match k with
  | _ => ("", "", "", false)
def tyJ10 : Nat → FieldType := fun k => match k with
  | _ => .int
abbrev wsJ100 : List Cond := u_ws RJ10 TJ10 0
theorem nmJ10 : ∀ a, a < 0 → ∀ b, b < 0 → a ≠ b → (TJ10 a).2.1 ≠ (TJ10 b).2.1 := by decide +kernel
theorem tyJ10_ok : ∀ k, k < 0 → parseFieldDescriptor (TJ10 k).2.2.1 = some (tyJ10 k) := by decide +kernel
def RJ3 : String := "jdk/internal/util/Preconditions"
def TJ3 : u_T := fun k => match k with
  | _ => ("", "", "", false)
def tyJ3 : Nat → FieldType := fun k => match k with
  | _ => .int
abbrev wsJ30 : List Cond := u_ws RJ3 TJ3 0
theorem nmJ3 : ∀ a, a < 0 → ∀ b, b < 0 → a ≠ b → (TJ3 a).2.1 ≠ (TJ3 b).2.1 := by decide +kernel
theorem tyJ3_ok : ∀ k, k < 0 → parseFieldDescriptor (TJ3 k).2.2.1 = some (tyJ3 k) := by decide +kernel
abbrev cJ3_checkIndex_8e157 : ByteArray := prog_26_method_11_code
def yJ3_checkIndex_8e157 : MethodName := ⟨RJ3, "checkIndex", "(IILjava/util/function/BiFunction;)I"⟩
def RL : String := "TimedThreadsLaw"
abbrev cL_cell : ByteArray := method_2_code
def yL_cell : MethodName := ⟨RL, "cell", "([II)I"⟩
abbrev cL_type : ByteArray := method_3_code
def yL_type : MethodName := ⟨RL, "type", "(LTimedThreads;JI[J)I"⟩
abbrev cL_assemble : ByteArray := method_4_code
def yL_assemble : MethodName := ⟨RL, "assemble", "(LTimedThreads;II[J)I"⟩
abbrev cL_law : ByteArray := code
def yL_law : MethodName := ⟨RL, "law", "([I)Z"⟩
def wsJ0_checkIndex_df160 : List Cond := .code yJ0_checkIndex_df160 cJ0_checkIndex_df160 2 none :: ([.fieldLink RJ0 1053 "jdk/internal/util/Preconditions" "SIOOBE_FORMATTER" "Ljava/util/function/BiFunction;", .methodLink RJ0 1059 yJ3_checkIndex_8e157, .static yJ3_checkIndex_8e157, .initialized RJ3, .code yJ3_checkIndex_8e157 cJ3_checkIndex_8e157 3 (some .int)])
def wsX10_assemble_r10 : List Cond := [Cond.fieldLink RX3 15 "TimedThreads$Labels" "places" "[I", Cond.methodLink RX0 65 yX0_setFault, Cond.instanceMethod yX0_setFault, Cond.selects RX0 yX0_setFault yX0_setFault, Cond.code yX0_setFault cX0_setFault 3 none, Cond.methodLink RX0 69 yX0_keepLine, Cond.instanceMethod yX0_keepLine, Cond.selects RX0 yX0_keepLine yX0_keepLine, Cond.code yX0_keepLine cX0_keepLine 2 none, Cond.fieldLink RX0 9 "TimedThreads$Assembler" "words" "[I", Cond.fieldLink RX0 15 "TimedThreads$Assembler" "targets" "[J", Cond.fieldLink RX0 19 "TimedThreads$Assembler" "lines" "[I", Cond.methodLink RX0 114 yX3_add, Cond.instanceMethod yX3_add, Cond.selects RX3 yX3_add yX3_add, Cond.code yX3_add cX3_add 4 none, Cond.methodLink RX0 73 yX0_resolveTargets, Cond.instanceMethod yX0_resolveTargets, Cond.selects RX0 yX0_resolveTargets yX0_resolveTargets, Cond.code yX0_resolveTargets cX0_resolveTargets 5 none, Cond.methodLink RX0 195 yX1_op, Cond.static yX1_op, Cond.code yX1_op cX1_op 1 (some .int)]
abbrev vwCl : List vw_C := [(RX0, TX0, 15), (RX2, TX2, 4), (RX3, TX3, 3), (RX6, TX6, 2), (RX7, TX7, 2), (RX8, TX8, 12), (RX9, TX9, 6), (RX10, TX10, 5), (RX11, TX11, 31)]
end
section
def TT0 : List Cond := [Cond.classLink RL 8 RX10, Cond.instantiable RX10 5, Cond.initialized RX10, Cond.classLink RL 32 RX11, Cond.instantiable RX11 31, Cond.initialized RX11, Cond.arrayClass .long, Cond.constantLong RL 35 (4294967295), Cond.methodLink RL 23 yL_cell, Cond.static yL_cell, Cond.initialized RL, Cond.code yL_cell cL_cell 2 (some .int), Cond.methodLink RL 29 yX10_init, Cond.instanceMethod yX10_init, Cond.code yX10_init cX10_init 3 none, Cond.methodLink RX10 1 objectInit, Cond.instanceMethod objectInit, Cond.code objectInit ⟨#[0xb1]⟩ 1 none, Cond.classLink RX10 7 RX6, Cond.instantiable RX6 2, Cond.initialized RX6, Cond.methodLink RX10 11 Lib.Math.min.name, Cond.static Lib.Math.min.name, Cond.initialized "java/lang/Math"]
def TT1 : List Cond := [Cond.code Lib.Math.min.name Lib.Math.min.code 2 (some .int), Cond.methodLink RX10 17 Lib.Math.max.name, Cond.static Lib.Math.max.name, Cond.code Lib.Math.max.name Lib.Math.max.code 2 (some .int), Cond.fieldLink RX10 23 "TimedThreads" "memory" "LTimedThreads$SharedMemory;", Cond.classLink RX10 27 RX8, Cond.fieldLink RX10 29 "TimedThreads" "threads" "[LTimedThreads$TimedThread;", Cond.instantiable RX8 12, Cond.initialized RX8, Cond.classLink RX10 34 RX7, Cond.instantiable RX7 2, Cond.initialized RX7, Cond.fieldLink RX10 37 "TimedThreads" "text" "LTimedThreads$Text;", Cond.classLink RX10 41 RX0, Cond.instantiable RX0 15, Cond.initialized RX0, Cond.fieldLink RX10 44 "TimedThreads" "assembler" "LTimedThreads$Assembler;", Cond.methodLink RX10 20 yX6_init, Cond.instanceMethod yX6_init, Cond.code yX6_init cX6_init 2 none, Cond.methodLink RX6 3 objectInit, Cond.arrayClass .int, Cond.fieldLink RX6 9 "TimedThreads$SharedMemory" "words" "[I", Cond.fieldLink RX6 15 "TimedThreads$SharedMemory" "wheel" "I"]
def TT2 : List Cond := [Cond.methodLink RX10 33 yX8_init, Cond.instanceMethod yX8_init, Cond.code yX8_init cX8_init 2 none, Cond.methodLink RX8 3 objectInit, Cond.fieldLink RX8 9 "TimedThreads$TimedThread" "registers" "[I", Cond.fieldLink RX8 15 "TimedThreads$TimedThread" "store" "[I", Cond.classLink RX8 18 RX2, Cond.instantiable RX2 4, Cond.initialized RX2, Cond.fieldLink RX8 21 "TimedThreads$TimedThread" "history" "LTimedThreads$History;", Cond.fieldLink RX8 25 "TimedThreads$TimedThread" "timers" "[I", Cond.fieldLink RX8 28 "TimedThreads$TimedThread" "status" "I", Cond.fieldLink RX8 32 "TimedThreads$TimedThread" "number" "I", Cond.instanceMethod yX2_init, Cond.code yX2_init cX2_init 1 none, Cond.methodLink RX2 3 objectInit, Cond.fieldLink RX2 9 "TimedThreads$History" "addresses" "[I", Cond.fieldLink RX2 15 "TimedThreads$History" "cycles" "[I", Cond.fieldLink RX2 18 "TimedThreads$History" "retirements" "[I", Cond.instanceMethod yX7_init, Cond.code yX7_init cX7_init 1 none, Cond.methodLink RX7 3 objectInit, Cond.arrayClass .char, Cond.fieldLink RX7 9 "TimedThreads$Text" "characters" "[C"]
def TT3 : List Cond := [Cond.instanceMethod yX0_init, Cond.code yX0_init cX0_init 1 none, Cond.methodLink RX0 3 objectInit, Cond.fieldLink RX0 9 "TimedThreads$Assembler" "words" "[I", Cond.fieldLink RX0 15 "TimedThreads$Assembler" "targets" "[J", Cond.fieldLink RX0 19 "TimedThreads$Assembler" "lines" "[I", Cond.classLink RX0 22 RX3, Cond.instantiable RX3 3, Cond.initialized RX3, Cond.fieldLink RX0 25 "TimedThreads$Assembler" "labels" "LTimedThreads$Labels;", Cond.classLink RX0 29 RX9, Cond.instantiable RX9 6, Cond.initialized RX9, Cond.fieldLink RX0 32 "TimedThreads$Assembler" "tokens" "LTimedThreads$Tokens;", Cond.instanceMethod yX3_init, Cond.code yX3_init cX3_init 1 none, Cond.methodLink RX3 3 objectInit, Cond.fieldLink RX3 9 "TimedThreads$Labels" "keys" "[J", Cond.fieldLink RX3 15 "TimedThreads$Labels" "places" "[I", Cond.instanceMethod yX9_init, Cond.code yX9_init cX9_init 1 none, Cond.methodLink RX9 3 objectInit, Cond.fieldLink RX9 9 "TimedThreads$Tokens" "kinds" "[C", Cond.fieldLink RX9 15 "TimedThreads$Tokens" "values" "[J"]
def TT4 : List Cond := [Cond.methodLink RL 34 yX11_init, Cond.instanceMethod yX11_init, Cond.code yX11_init cX11_init 2 none, Cond.methodLink RX11 1 objectInit, Cond.fieldLink RX11 7 "TimedThreadsModel" "text" "[C", Cond.fieldLink RX11 13 "TimedThreadsModel" "code" "[I", Cond.fieldLink RX11 17 "TimedThreadsModel" "label" "[J", Cond.fieldLink RX11 21 "TimedThreadsModel" "labelWord" "[I", Cond.fieldLink RX11 24 "TimedThreadsModel" "target" "[J", Cond.fieldLink RX11 27 "TimedThreadsModel" "targetWord" "[I", Cond.fieldLink RX11 30 "TimedThreadsModel" "targetLine" "[I", Cond.fieldLink RX11 33 "TimedThreadsModel" "store" "[I", Cond.fieldLink RX11 36 "TimedThreadsModel" "common" "[I", Cond.fieldLink RX11 39 "TimedThreadsModel" "low" "[I", Cond.fieldLink RX11 42 "TimedThreadsModel" "high" "[I", Cond.fieldLink RX11 45 "TimedThreadsModel" "register" "[I", Cond.fieldLink RX11 48 "TimedThreadsModel" "address" "[I", Cond.fieldLink RX11 51 "TimedThreadsModel" "status" "[I", Cond.fieldLink RX11 54 "TimedThreadsModel" "did" "[I", Cond.fieldLink RX11 57 "TimedThreadsModel" "ready" "[I", Cond.fieldLink RX11 60 "TimedThreadsModel" "timer" "[I", Cond.fieldLink RX11 63 "TimedThreadsModel" "trace" "[I", Cond.fieldLink RX11 66 "TimedThreadsModel" "wheel" "I", Cond.methodLink RL 37 yL_type]
def TT5 : List Cond := [Cond.static yL_type, Cond.codeWith yL_type cL_type 6 (some .int) [(0, 11, 14, 13), (0, 11, 18, 15)], Cond.classLink RL 13 "java/lang/IllegalArgumentException", Cond.classLink RL 15 "java/lang/IllegalStateException", Cond.methodLink RL 7 yX10_type, Cond.instanceMethod yX10_type, Cond.selects RX10 yX10_type yX10_type, Cond.code yX10_type cX10_type 4 (some .int), Cond.classLink RX10 52 "java/lang/IllegalArgumentException", Cond.initialized "java/lang/IllegalArgumentException", Cond.classLink RX10 59 "java/lang/IllegalStateException", Cond.initialized "java/lang/IllegalStateException", Cond.fieldLink RX10 55 "TimedThreads$Text" "length" "I", Cond.methodLink RX10 48 yX7_canBeTyped, Cond.static yX7_canBeTyped, Cond.code yX7_canBeTyped cX7_canBeTyped 5 (some .boolean), Cond.methodLink RX7 15 yX7_byteOf, Cond.static yX7_byteOf, Cond.code yX7_byteOf cX7_byteOf 3 (some .char), Cond.constantLong RX7 23 (255), Cond.methodLink RX10 62 yX7_add, Cond.instanceMethod yX7_add, Cond.selects RX7 yX7_add yX7_add, Cond.code yX7_add cX7_add 5 none]
def TT6 : List Cond := [Cond.fieldLink RX7 19 "TimedThreads$Text" "length" "I", Cond.methodLink RL 40 yX11_type, Cond.instanceMethod yX11_type, Cond.selects RX11 yX11_type yX11_type, Cond.code yX11_type cX11_type 6 (some .int), Cond.constantLong RX11 79 (255), Cond.fieldLink RX11 85 "TimedThreadsModel" "length" "I", Cond.fieldLink RX11 70 "TimedThreadsModel" "refusal" "I", Cond.methodLink RX11 81 yX11_isCharacter, Cond.static yX11_isCharacter, Cond.code yX11_isCharacter cX11_isCharacter 2 (some .boolean), Cond.constantLong RX11 73 (10), Cond.constantLong RX11 75 (32), Cond.constantLong RX11 77 (126), Cond.methodLink RL 41 yX11_thrown, Cond.instanceMethod yX11_thrown, Cond.selects RX11 yX11_thrown yX11_thrown, Cond.code yX11_thrown cX11_thrown 1 (some .int), Cond.methodLink RL 45 yX10_clear, Cond.instanceMethod yX10_clear, Cond.selects RX10 yX10_clear yX10_clear, Cond.code yX10_clear cX10_clear 2 (some .int), Cond.methodLink RL 48 yX11_clear, Cond.instanceMethod yX11_clear]
def TT7 : List Cond := [Cond.selects RX11 yX11_clear yX11_clear, Cond.code yX11_clear cX11_clear 2 (some .int), Cond.methodLink RL 49 yL_assemble, Cond.static yL_assemble, Cond.codeWith yL_assemble cL_assemble 5 (some .int) [(0, 10, 13, 21), (0, 10, 17, 13)], Cond.classLink RL 21 "java/util/NoSuchElementException", Cond.methodLink RL 17 yX10_assemble, Cond.instanceMethod yX10_assemble, Cond.selects RX10 yX10_assemble yX10_assemble, Cond.code yX10_assemble cX10_assemble 3 (some .int), Cond.classLink RX10 70 "java/util/NoSuchElementException", Cond.initialized "java/util/NoSuchElementException", Cond.fieldLink RX10 77 "TimedThreads$Assembler" "faultKind" "I", Cond.fieldLink RX10 80 "TimedThreads$Assembler" "words" "[I", Cond.fieldLink RX10 84 "TimedThreads$TimedThread" "store" "[I", Cond.fieldLink RX10 87 "TimedThreads$Assembler" "count" "I", Cond.methodLink RX10 90 arraycopyName, Cond.native arraycopyName, Cond.static arraycopyName, Cond.initialized "java/lang/System", Cond.methodLink RX10 66 yX10_isStoreWord, Cond.static yX10_isStoreWord, Cond.code yX10_isStoreWord cX10_isStoreWord 2 (some .boolean), Cond.methodLink RX10 100 yX10_isThread]
def TT8 : List Cond := [Cond.static yX10_isThread, Cond.code yX10_isThread cX10_isThread 1 (some .boolean), Cond.methodLink RX10 73 yX0_read, Cond.instanceMethod yX0_read, Cond.selects RX0 yX0_read yX0_read, Cond.code yX0_read cX0_read 5 none, Cond.fieldLink RX0 40 "TimedThreads$Assembler" "at" "I", Cond.fieldLink RX0 44 "TimedThreads$Assembler" "count" "I", Cond.fieldLink RX0 47 "TimedThreads$Labels" "count" "I", Cond.fieldLink RX0 48 "TimedThreads$Assembler" "faultKind" "I", Cond.fieldLink RX0 51 "TimedThreads$Assembler" "faultLine" "I", Cond.methodLink RX0 36 yX9_split, Cond.instanceMethod yX9_split, Cond.selects RX9 yX9_split yX9_split, Cond.code yX9_split cX9_split 4 none, Cond.fieldLink RX9 19 "TimedThreads$Text" "characters" "[C", Cond.fieldLink RX9 24 "TimedThreads$Tokens" "characters" "[C", Cond.fieldLink RX9 25 "TimedThreads$Text" "length" "I", Cond.fieldLink RX9 29 "TimedThreads$Tokens" "length" "I", Cond.fieldLink RX9 30 "TimedThreads$Tokens" "count" "I", Cond.fieldLink RX9 33 "TimedThreads$Tokens" "at" "I", Cond.methodLink RX9 36 yX9_isLetter, Cond.static yX9_isLetter, Cond.code yX9_isLetter cX9_isLetter 1 (some .boolean)]
def TT9 : List Cond := [Cond.methodLink RX9 40 yX9_takeLetters, Cond.instanceMethod yX9_takeLetters, Cond.selects RX9 yX9_takeLetters yX9_takeLetters, Cond.code yX9_takeLetters cX9_takeLetters 5 none, Cond.methodLink RX9 58 yX9_withLetter, Cond.static yX9_withLetter, Cond.code yX9_withLetter cX9_withLetter 3 (some .long), Cond.methodLink RX9 43 yX9_isDigit, Cond.static yX9_isDigit, Cond.code yX9_isDigit cX9_isDigit 1 (some .boolean), Cond.methodLink RX9 62 yX9_takeRegister, Cond.instanceMethod yX9_takeRegister, Cond.selects RX9 yX9_takeRegister yX9_takeRegister, Cond.code yX9_takeRegister cX9_takeRegister 4 none, Cond.constantLong RX9 69 (16), Cond.methodLink RX9 65 yX9_takeDigits, Cond.instanceMethod yX9_takeDigits, Cond.selects RX9 yX9_takeDigits yX9_takeDigits, Cond.code yX9_takeDigits cX9_takeDigits 4 (some .long), Cond.constantLong RX9 71 (10), Cond.constantLong RX9 73 (1099511627776), Cond.methodLink RX9 54 yX9_add, Cond.instanceMethod yX9_add, Cond.selects RX9 yX9_add yX9_add]
def TT10 : List Cond := [Cond.code yX9_add cX9_add 4 none, Cond.methodLink RX9 46 yX9_takeNumber, Cond.instanceMethod yX9_takeNumber, Cond.selects RX9 yX9_takeNumber yX9_takeNumber, Cond.code yX9_takeNumber cX9_takeNumber 5 none, Cond.methodLink RX9 50 yX9_takeMark, Cond.instanceMethod yX9_takeMark, Cond.selects RX9 yX9_takeMark yX9_takeMark, Cond.code yX9_takeMark cX9_takeMark 2 none, Cond.methodLink RX0 54 yX9_size, Cond.instanceMethod yX9_size, Cond.selects RX9 yX9_size yX9_size, Cond.code yX9_size cX9_size 1 (some .int), Cond.methodLink RX0 58 yX0_readLine, Cond.instanceMethod yX0_readLine, Cond.selects RX0 yX0_readLine yX0_readLine, Cond.code yX0_readLine cX0_readLine 1 none, Cond.fieldLink RX0 76 "TimedThreads$Assembler" "label" "J", Cond.fieldLink RX0 80 "TimedThreads$Assembler" "hasWord" "Z", Cond.fieldLink RX0 84 "TimedThreads$Assembler" "word" "I", Cond.fieldLink RX0 87 "TimedThreads$Assembler" "target" "J", Cond.fieldLink RX0 90 "TimedThreads$Assembler" "malformed" "Z", Cond.fieldLink RX0 93 "TimedThreads$Assembler" "misfit" "Z", Cond.methodLink RX0 96 yX9_kindAt]
def TT11 : List Cond := [Cond.instanceMethod yX9_kindAt, Cond.selects RX9 yX9_kindAt yX9_kindAt, Cond.code yX9_kindAt cX9_kindAt 2 (some .char), Cond.methodLink RX0 100 yX9_valueAt, Cond.instanceMethod yX9_valueAt, Cond.selects RX9 yX9_valueAt yX9_valueAt, Cond.code yX9_valueAt cX9_valueAt 2 (some .long), Cond.methodLink RX0 104 yX0_mnemonicOf, Cond.static yX0_mnemonicOf, Cond.code yX0_mnemonicOf cX0_mnemonicOf 3 (some .int), Cond.fieldLink RX0 122 "TimedThreads$Mnemonic" "key" "J", Cond.methodLink RX0 108 yX0_readInstruction, Cond.instanceMethod yX0_readInstruction, Cond.selects RX0 yX0_readInstruction yX0_readInstruction, Cond.code yX0_readInstruction cX0_readInstruction 4 none, Cond.fieldLink RX0 127 "TimedThreads$Mnemonic" "bits" "I", Cond.fieldLink RX0 130 "TimedThreads$Mnemonic" "pieces" "Ljava/lang/String;", Cond.methodLink RX0 134 yJ0_length_8abf5, Cond.instanceMethod yJ0_length_8abf5, Cond.selects RJ0 yJ0_length_8abf5 yJ0_length_8abf5, Cond.initialized RJ0, Cond.code yJ0_length_8abf5 cJ0_length_8abf5 1 (some .int), Cond.fieldLink RJ0 9 "java/lang/String" "value" "[B", Cond.methodLink RJ0 335 yJ0_coder_7d493]
def TT12 : List Cond := [Cond.instanceMethod yJ0_coder_7d493, Cond.selects RJ0 yJ0_coder_7d493 yJ0_coder_7d493, Cond.code yJ0_coder_7d493 cJ0_coder_7d493 1 (some .byte), Cond.fieldLink RJ0 38 "java/lang/String" "COMPACT_STRINGS" "Z", Cond.fieldLink RJ0 15 "java/lang/String" "coder" "B", Cond.methodLink RX0 139 yJ0_charAt_5068e, Cond.instanceMethod yJ0_charAt_5068e, Cond.selects RJ0 yJ0_charAt_5068e yJ0_charAt_5068e, Cond.code yJ0_charAt_5068e cJ0_charAt_5068e 2 (some .char), Cond.methodLink RJ0 492 yJ0_isLatin1_aae02, Cond.instanceMethod yJ0_isLatin1_aae02, Cond.selects RJ0 yJ0_isLatin1_aae02 yJ0_isLatin1_aae02, Cond.code yJ0_isLatin1_aae02 cJ0_isLatin1_aae02 1 (some .boolean), Cond.methodLink RJ0 495 yJ1_charAt_3b067, Cond.static yJ1_charAt_3b067, Cond.initialized RJ1, Cond.code yJ1_charAt_3b067 cJ1_charAt_3b067 2 (some .char), Cond.methodLink RJ1 9 yJ0_checkIndex_df160, Cond.static yJ0_checkIndex_df160, Cond.code yJ0_checkIndex_df160 cJ0_checkIndex_df160 2 none, Cond.fieldLink RJ0 1053 "jdk/internal/util/Preconditions" "SIOOBE_FORMATTER" "Ljava/util/function/BiFunction;", Cond.methodLink RJ0 1059 yJ3_checkIndex_8e157, Cond.static yJ3_checkIndex_8e157, Cond.initialized RJ3]
def TT13 : List Cond := [Cond.code yJ3_checkIndex_8e157 cJ3_checkIndex_8e157 3 (some .int), Cond.methodLink RJ0 498 yJ2_charAt_3b067, Cond.static yJ2_charAt_3b067, Cond.initialized RJ2, Cond.code yJ2_charAt_3b067 cJ2_charAt_3b067 2 (some .char), Cond.methodLink RJ2 67 yJ2_checkIndex_2214a, Cond.static yJ2_checkIndex_2214a, Cond.code yJ2_checkIndex_2214a cJ2_checkIndex_2214a 2 none, Cond.methodLink RJ2 48 yJ2_length_9d52b, Cond.static yJ2_length_9d52b, Cond.code yJ2_length_9d52b cJ2_length_9d52b 1 (some .int), Cond.methodLink RJ2 414 yJ0_checkIndex_df160, Cond.methodLink RJ2 71 yJ2_getChar_3b067, Cond.static yJ2_getChar_3b067, Cond.code yJ2_getChar_3b067 cJ2_getChar_3b067 2 (some .char), Cond.fieldLink RJ2 44 "java/lang/StringUTF16" "$assertionsDisabled" "Z", Cond.fieldLink RJ2 59 "java/lang/StringUTF16" "HI_BYTE_SHIFT" "I", Cond.fieldLink RJ2 63 "java/lang/StringUTF16" "LO_BYTE_SHIFT" "I", Cond.methodLink RX0 142 yX0_readPiece, Cond.instanceMethod yX0_readPiece, Cond.selects RX0 yX0_readPiece yX0_readPiece, Cond.code yX0_readPiece cX0_readPiece 5 none, Cond.methodLink RX0 146 yX0_kindOf, Cond.static yX0_kindOf]
def TT14 : List Cond := [Cond.code yX0_kindOf cX0_kindOf 1 (some .char), Cond.methodLink RX0 150 yX0_putPiece, Cond.instanceMethod yX0_putPiece, Cond.selects RX0 yX0_putPiece yX0_putPiece, Cond.code yX0_putPiece cX0_putPiece 4 none, Cond.constantLong RX0 154 (-2048), Cond.constantLong RX0 156 (2047), Cond.constantLong RX0 167 (31), Cond.constantLong RX0 169 (1048575), Cond.constantLong RX0 171 (3), Cond.constantLong RX0 173 (-2147483648), Cond.constantLong RX0 175 (4294967295), Cond.constantLong RX0 181 (-4096), Cond.constantLong RX0 183 (4094), Cond.constantLong RX0 188 (-1048576), Cond.constantLong RX0 190 (1048574), Cond.methodLink RX0 158 yX0_fitted, Cond.instanceMethod yX0_fitted, Cond.selects RX0 yX0_fitted yX0_fitted, Cond.code yX0_fitted cX0_fitted 7 (some .int), Cond.methodLink RX0 162 yX1_bitsOfS, Cond.static yX1_bitsOfS, Cond.initialized RX1, Cond.code yX1_bitsOfS cX1_bitsOfS 1 (some .int)]
def TT15 : List Cond := [Cond.methodLink RX0 177 yX0_noteOdd, Cond.instanceMethod yX0_noteOdd, Cond.selects RX0 yX0_noteOdd yX0_noteOdd, Cond.code yX0_noteOdd cX0_noteOdd 3 none, Cond.methodLink RX0 185 yX1_bitsOfB, Cond.static yX1_bitsOfB, Cond.code yX1_bitsOfB cX1_bitsOfB 1 (some .int), Cond.methodLink RX0 192 yX1_bitsOfJ, Cond.static yX1_bitsOfJ, Cond.code yX1_bitsOfJ cX1_bitsOfJ 1 (some .int), Cond.constant RX1 15 (1044480), Cond.methodLink RX0 61 yX0_faultOfLine, Cond.instanceMethod yX0_faultOfLine, Cond.selects RX0 yX0_faultOfLine yX0_faultOfLine, Cond.code yX0_faultOfLine cX0_faultOfLine 2 (some .int), Cond.methodLink RX0 111 yX3_find, Cond.instanceMethod yX3_find, Cond.selects RX3 yX3_find yX3_find, Cond.code yX3_find cX3_find 4 (some .int), Cond.fieldLink RX3 19 "TimedThreads$Labels" "count" "I", Cond.methodLink RX0 65 yX0_setFault, Cond.instanceMethod yX0_setFault, Cond.selects RX0 yX0_setFault yX0_setFault, Cond.code yX0_setFault cX0_setFault 3 none]
def TT16 : List Cond := [Cond.methodLink RX0 69 yX0_keepLine, Cond.instanceMethod yX0_keepLine, Cond.selects RX0 yX0_keepLine yX0_keepLine, Cond.code yX0_keepLine cX0_keepLine 2 none, Cond.methodLink RX0 114 yX3_add, Cond.instanceMethod yX3_add, Cond.selects RX3 yX3_add yX3_add, Cond.code yX3_add cX3_add 4 none, Cond.methodLink RX0 73 yX0_resolveTargets, Cond.instanceMethod yX0_resolveTargets, Cond.selects RX0 yX0_resolveTargets yX0_resolveTargets, Cond.code yX0_resolveTargets cX0_resolveTargets 5 none, Cond.methodLink RX0 195 yX1_op, Cond.static yX1_op, Cond.code yX1_op cX1_op 1 (some .int), Cond.methodLink RL 52 yX11_assemble, Cond.instanceMethod yX11_assemble, Cond.selects RX11 yX11_assemble yX11_assemble, Cond.code yX11_assemble cX11_assemble 5 (some .int), Cond.fieldLink RX11 88 "TimedThreadsModel" "at" "I", Cond.fieldLink RX11 205 "TimedThreadsModel" "line" "I", Cond.fieldLink RX11 202 "TimedThreadsModel" "words" "I", Cond.fieldLink RX11 256 "TimedThreadsModel" "labels" "I", Cond.fieldLink RX11 199 "TimedThreadsModel" "targets" "I"]
def TT17 : List Cond := [Cond.fieldLink RX11 273 "TimedThreadsModel" "fault" "I", Cond.fieldLink RX11 276 "TimedThreadsModel" "faultLine" "I", Cond.methodLink RX11 279 yX11_refuse, Cond.instanceMethod yX11_refuse, Cond.selects RX11 yX11_refuse yX11_refuse, Cond.code yX11_refuse cX11_refuse 2 (some .int), Cond.methodLink RX11 282 yX11_takeLine, Cond.instanceMethod yX11_takeLine, Cond.selects RX11 yX11_takeLine yX11_takeLine, Cond.code yX11_takeLine cX11_takeLine 10 none, Cond.fieldLink RX11 102 "TimedThreadsModel" "wrong" "Z", Cond.fieldLink RX11 111 "TimedThreadsModel" "unfit" "Z", Cond.methodLink RX11 95 yX11_skip, Cond.instanceMethod yX11_skip, Cond.selects RX11 yX11_skip yX11_skip, Cond.code yX11_skip cX11_skip 1 none, Cond.methodLink RX11 91 yX11_character, Cond.instanceMethod yX11_character, Cond.selects RX11 yX11_character yX11_character, Cond.code yX11_character cX11_character 2 (some .int), Cond.methodLink RX11 195 yX11_letters, Cond.instanceMethod yX11_letters, Cond.selects RX11 yX11_letters yX11_letters, Cond.code yX11_letters cX11_letters 4 (some .long)]
def TT18 : List Cond := [Cond.methodLink RX11 98 yX11_isLetter, Cond.static yX11_isLetter, Cond.code yX11_isLetter cX11_isLetter 1 (some .boolean), Cond.methodLink RX11 259 yX11_labelOf, Cond.instanceMethod yX11_labelOf, Cond.selects RX11 yX11_labelOf yX11_labelOf, Cond.code yX11_labelOf cX11_labelOf 5 (some .int), Cond.methodLink RX11 263 yX11_lookup, Cond.static yX11_lookup, Cond.code yX11_lookup cX11_lookup 2 (some .int), Cond.constantLong RX11 114 (6911340), Cond.constantLong RX11 116 (7102826), Cond.constantLong RX11 118 (1919705450), Cond.constantLong RX11 120 (7431522), Cond.constantLong RX11 122 (6647394), Cond.constantLong RX11 124 (7629922), Cond.constantLong RX11 126 (6645602), Cond.constantLong RX11 128 (1970564194), Cond.constantLong RX11 130 (1969579874), Cond.constantLong RX11 132 (30572), Cond.constantLong RX11 134 (25196), Cond.constantLong RX11 136 (7692908), Cond.constantLong RX11 138 (30579), Cond.constantLong RX11 140 (25203)]
def TT19 : List Cond := [Cond.constantLong RX11 142 (1768186977), Cond.constantLong RX11 144 (1769237619), Cond.constantLong RX11 146 (504280411251), Cond.constantLong RX11 148 (1769107320), Cond.constantLong RX11 150 (6910575), Cond.constantLong RX11 152 (1768189537), Cond.constantLong RX11 154 (1768713331), Cond.constantLong RX11 156 (1768714867), Cond.constantLong RX11 158 (1767993971), Cond.constant RX11 160 (534840), Cond.constantLong RX11 161 (6579297), Cond.constantLong RX11 163 (7105651), Cond.constantLong RX11 165 (7629939), Cond.constantLong RX11 167 (1970564211), Cond.constantLong RX11 169 (7499640), Cond.constantLong RX11 171 (7107187), Cond.constantLong RX11 173 (29295), Cond.constantLong RX11 175 (6581857), Cond.constantLong RX11 177 (6452595), Cond.constant RX11 179 (525105), Cond.constantLong RX11 180 (6386291), Cond.constant RX11 182 (535345), Cond.constantLong RX11 183 (1684104548), Cond.constantLong RX11 185 (435610155363)]
def TT20 : List Cond := [Cond.constantLong RX11 187 (1953259880), Cond.constantLong RX11 189 (1685221239), Cond.methodLink RX11 266 yX11_operands, Cond.instanceMethod yX11_operands, Cond.selects RX11 yX11_operands yX11_operands, Cond.code yX11_operands cX11_operands 6 (some .int), Cond.constantLong RX11 232 (31), Cond.constantLong RX11 234 (-2048), Cond.constantLong RX11 236 (2047), Cond.constantLong RX11 248 (1048575), Cond.constantLong RX11 250 (3), Cond.constantLong RX11 252 (-2147483648), Cond.constantLong RX11 254 (4294967295), Cond.methodLink RX11 228 yX11_pair, Cond.instanceMethod yX11_pair, Cond.selects RX11 yX11_pair yX11_pair, Cond.code yX11_pair cX11_pair 5 (some .int), Cond.methodLink RX11 220 yX11_takeRegister, Cond.instanceMethod yX11_takeRegister, Cond.selects RX11 yX11_takeRegister yX11_takeRegister, Cond.code yX11_takeRegister cX11_takeRegister 2 (some .int), Cond.methodLink RX11 106 yX11_isDigit, Cond.static yX11_isDigit, Cond.code yX11_isDigit cX11_isDigit 1 (some .boolean)]
def TT21 : List Cond := [Cond.methodLink RX11 224 yX11_need, Cond.instanceMethod yX11_need, Cond.selects RX11 yX11_need yX11_need, Cond.code yX11_need cX11_need 2 none, Cond.methodLink RX11 210 yX11_number, Cond.instanceMethod yX11_number, Cond.selects RX11 yX11_number yX11_number, Cond.code yX11_number cX11_number 10 (some .long), Cond.constantLong RX11 109 (48), Cond.methodLink RX11 238 yX11_immediate, Cond.static yX11_immediate, Cond.code yX11_immediate cX11_immediate 1 (some .int), Cond.methodLink RX11 241 yX11_storing, Cond.static yX11_storing, Cond.code yX11_storing cX11_storing 1 (some .int), Cond.methodLink RX11 244 yX11_distance, Cond.instanceMethod yX11_distance, Cond.selects RX11 yX11_distance yX11_distance, Cond.code yX11_distance cX11_distance 6 (some .int), Cond.constantLong RX11 191 (1048574), Cond.constantLong RX11 193 (4094), Cond.constantLong RX11 208 (2), Cond.methodLink RX11 214 yX11_jumping, Cond.static yX11_jumping]
def TT22 : List Cond := [Cond.code yX11_jumping cX11_jumping 1 (some .int), Cond.methodLink RX11 217 yX11_branching, Cond.static yX11_branching, Cond.code yX11_branching cX11_branching 1 (some .int), Cond.methodLink RX11 269 yX11_isEnd, Cond.instanceMethod yX11_isEnd, Cond.selects RX11 yX11_isEnd yX11_isEnd, Cond.code yX11_isEnd cX11_isEnd 1 (some .boolean), Cond.methodLink RX11 285 yX11_link, Cond.instanceMethod yX11_link, Cond.selects RX11 yX11_link yX11_link, Cond.code yX11_link cX11_link 7 none, Cond.methodLink RL 53 yX10_fault, Cond.instanceMethod yX10_fault, Cond.selects RX10 yX10_fault yX10_fault, Cond.code yX10_fault cX10_fault 2 (some .int), Cond.fieldLink RX10 96 "TimedThreads$Assembler" "faultLine" "I", Cond.methodLink RL 57 yX11_fault, Cond.instanceMethod yX11_fault, Cond.selects RX11 yX11_fault yX11_fault, Cond.code yX11_fault cX11_fault 2 (some .int), Cond.methodLink RL 58 yX10_peek, Cond.instanceMethod yX10_peek, Cond.selects RX10 yX10_peek yX10_peek]
def TT23 : List Cond := [Cond.code yX10_peek cX10_peek 3 (some .int), Cond.methodLink RL 61 yX11_peek, Cond.instanceMethod yX11_peek, Cond.selects RX11 yX11_peek yX11_peek, Cond.code yX11_peek cX11_peek 3 (some .int), Cond.methodLink RL 62 yX10_poke, Cond.instanceMethod yX10_poke, Cond.selects RX10 yX10_poke yX10_poke, Cond.code yX10_poke cX10_poke 4 (some .boolean), Cond.methodLink RL 66 yX11_poke, Cond.instanceMethod yX11_poke, Cond.selects RX11 yX11_poke yX11_poke, Cond.code yX11_poke cX11_poke 4 (some .boolean), Cond.methodLink RL 67 yX10_shared, Cond.instanceMethod yX10_shared, Cond.selects RX10 yX10_shared yX10_shared, Cond.code yX10_shared cX10_shared 2 (some .int), Cond.fieldLink RX10 99 "TimedThreads$SharedMemory" "words" "[I", Cond.methodLink RL 70 yX11_shared, Cond.instanceMethod yX11_shared, Cond.selects RX11 yX11_shared yX11_shared, Cond.code yX11_shared cX11_shared 2 (some .int), Cond.methodLink RL 71 yX10_part, Cond.instanceMethod yX10_part]
def TT24 : List Cond := [Cond.selects RX10 yX10_part yX10_part, Cond.code yX10_part cX10_part 4 (some .boolean), Cond.fieldLink RX10 104 "TimedThreads$TimedThread" "low" "I", Cond.fieldLink RX10 107 "TimedThreads$TimedThread" "high" "I", Cond.methodLink RL 74 yX11_part, Cond.instanceMethod yX11_part, Cond.selects RX11 yX11_part yX11_part, Cond.code yX11_part cX11_part 4 (some .boolean), Cond.methodLink RL 75 yX10_start, Cond.instanceMethod yX10_start, Cond.selects RX10 yX10_start yX10_start, Cond.code yX10_start cX10_start 3 (some .boolean), Cond.fieldLink RX10 110 "TimedThreads" "cycle" "I", Cond.methodLink RX10 113 yX8_begin, Cond.instanceMethod yX8_begin, Cond.selects RX8 yX8_begin yX8_begin, Cond.code yX8_begin cX8_begin 3 none, Cond.fieldLink RX8 35 "TimedThreads$TimedThread" "address" "I", Cond.fieldLink RX8 38 "TimedThreads$TimedThread" "ready" "I", Cond.methodLink RL 79 yX11_start, Cond.instanceMethod yX11_start, Cond.selects RX11 yX11_start yX11_start, Cond.code yX11_start cX11_start 3 (some .boolean), Cond.fieldLink RX11 291 "TimedThreadsModel" "now" "I"]
def TT25 : List Cond := [Cond.methodLink RL 80 yX10_run, Cond.instanceMethod yX10_run, Cond.selects RX10 yX10_run yX10_run, Cond.code yX10_run cX10_run 4 (some .int), Cond.methodLink RX10 117 yJ9_floorMod_7cf53, Cond.static yJ9_floorMod_7cf53, Cond.initialized RJ9, Cond.code yJ9_floorMod_7cf53 cJ9_floorMod_7cf53 3 (some .int), Cond.methodLink RX10 120 yX8_takeTurn, Cond.instanceMethod yX8_takeTurn, Cond.selects RX8 yX8_takeTurn yX8_takeTurn, Cond.code yX8_takeTurn cX8_takeTurn 4 (some .boolean), Cond.fieldLink RX8 48 "TimedThreads$Outcome" "FAULT" "LTimedThreads$Outcome;", Cond.fieldLink RX8 54 "TimedThreads$Outcome" "DONE" "LTimedThreads$Outcome;", Cond.fieldLink RX8 57 "TimedThreads$TimedThread" "retirement" "I", Cond.fieldLink RX8 64 "TimedThreads$TimedThread" "nextAddress" "I", Cond.methodLink RX8 44 yX8_attempt, Cond.instanceMethod yX8_attempt, Cond.selects RX8 yX8_attempt yX8_attempt, Cond.code yX8_attempt cX8_attempt 4 (some (.object "TimedThreads$Outcome")), Cond.methodLink RX8 67 yX8_isInStore, Cond.static yX8_isInStore, Cond.code yX8_isInStore cX8_isInStore 1 (some .boolean), Cond.methodLink RX8 71 yX8_isAligned]
def TT26 : List Cond := [Cond.static yX8_isAligned, Cond.code yX8_isAligned cX8_isAligned 1 (some .boolean), Cond.methodLink RX8 74 yX1_op, Cond.methodLink RX8 80 yX8_loadUpper, Cond.instanceMethod yX8_loadUpper, Cond.selects RX8 yX8_loadUpper yX8_loadUpper, Cond.code yX8_loadUpper cX8_loadUpper 3 (some (.object "TimedThreads$Outcome")), Cond.methodLink RX8 113 yX1_rd, Cond.static yX1_rd, Cond.code yX1_rd cX1_rd 1 (some .int), Cond.static yX10_isRegister, Cond.code yX10_isRegister cX10_isRegister 1 (some .boolean), Cond.methodLink RX8 119 yX1_numberU, Cond.static yX1_numberU, Cond.code yX1_numberU cX1_numberU 1 (some .int), Cond.methodLink RX8 122 yX8_setRegister, Cond.instanceMethod yX8_setRegister, Cond.selects RX8 yX8_setRegister yX8_setRegister, Cond.code yX8_setRegister cX8_setRegister 3 none, Cond.methodLink RX8 84 yX8_jump, Cond.instanceMethod yX8_jump, Cond.selects RX8 yX8_jump yX8_jump, Cond.code yX8_jump cX8_jump 3 (some (.object "TimedThreads$Outcome")), Cond.methodLink RX8 126 yX1_numberJ]
def TT27 : List Cond := [Cond.static yX1_numberJ, Cond.code yX1_numberJ cX1_numberJ 1 (some .int), Cond.methodLink RX8 87 yX8_jumpToRegister, Cond.instanceMethod yX8_jumpToRegister, Cond.selects RX8 yX8_jumpToRegister yX8_jumpToRegister, Cond.code yX8_jumpToRegister cX8_jumpToRegister 5 (some (.object "TimedThreads$Outcome")), Cond.methodLink RX8 129 yX1_rs, Cond.static yX1_rs, Cond.code yX1_rs cX1_rs 1 (some .int), Cond.methodLink RX8 132 yX1_f, Cond.static yX1_f, Cond.code yX1_f cX1_f 1 (some .int), Cond.methodLink RX8 135 yX1_numberI, Cond.static yX1_numberI, Cond.code yX1_numberI cX1_numberI 1 (some .int), Cond.methodLink RX8 90 yX8_branch, Cond.instanceMethod yX8_branch, Cond.selects RX8 yX8_branch yX8_branch, Cond.code yX8_branch cX8_branch 5 (some (.object "TimedThreads$Outcome")), Cond.methodLink RX8 138 yX1_rt, Cond.static yX1_rt, Cond.code yX1_rt cX1_rt 1 (some .int), Cond.methodLink RX8 141 yX8_isSo, Cond.static yX8_isSo]
def TT28 : List Cond := [Cond.code yX8_isSo cX8_isSo 3 (some .boolean), Cond.methodLink RX8 148 yX8_isBelowUnsigned, Cond.static yX8_isBelowUnsigned, Cond.code yX8_isBelowUnsigned cX8_isBelowUnsigned 2 (some .boolean), Cond.constantLong RX8 152 (4294967295), Cond.methodLink RX8 145 yX1_numberB, Cond.static yX1_numberB, Cond.code yX1_numberB cX1_numberB 1 (some .int), Cond.methodLink RX8 93 yX8_load, Cond.instanceMethod yX8_load, Cond.selects RX8 yX8_load yX8_load, Cond.code yX8_load cX8_load 11 (some (.object "TimedThreads$Outcome")), Cond.methodLink RX8 154 yX8_canReach, Cond.instanceMethod yX8_canReach, Cond.selects RX8 yX8_canReach yX8_canReach, Cond.code yX8_canReach cX8_canReach 4 (some .boolean), Cond.fieldLink RX8 174 "TimedThreads$TimedThread" "low" "I", Cond.fieldLink RX8 177 "TimedThreads$TimedThread" "high" "I", Cond.methodLink RX8 157 yX8_rowOf, Cond.instanceMethod yX8_rowOf, Cond.selects RX8 yX8_rowOf yX8_rowOf, Cond.code yX8_rowOf cX8_rowOf 3 (some (.array .int)), Cond.fieldLink RX8 180 "TimedThreads$SharedMemory" "words" "[I", Cond.methodLink RX8 161 yX8_placeOf]
def TT29 : List Cond := [Cond.static yX8_placeOf, Cond.code yX8_placeOf cX8_placeOf 1 (some .int), Cond.methodLink RX8 164 yX8_bitOf, Cond.static yX8_bitOf, Cond.code yX8_bitOf cX8_bitOf 1 (some .int), Cond.methodLink RX8 167 yX8_setRetirement, Cond.instanceMethod yX8_setRetirement, Cond.selects RX8 yX8_setRetirement yX8_setRetirement, Cond.code yX8_setRetirement cX8_setRetirement 4 none, Cond.methodLink RX8 185 yX6_retirement, Cond.instanceMethod yX6_retirement, Cond.selects RX6 yX6_retirement yX6_retirement, Cond.code yX6_retirement cX6_retirement 4 (some .int), Cond.methodLink RX6 19 yJ9_floorMod_7cf53, Cond.methodLink RX8 97 yX8_save, Cond.instanceMethod yX8_save, Cond.selects RX8 yX8_save yX8_save, Cond.code yX8_save cX8_save 13 (some (.object "TimedThreads$Outcome")), Cond.methodLink RX8 171 yX1_numberS, Cond.static yX1_numberS, Cond.code yX1_numberS cX1_numberS 1 (some .int), Cond.methodLink RX1 9 yX1_rd, Cond.methodLink RX8 100 yX8_computeWithNumber, Cond.instanceMethod yX8_computeWithNumber]
def TT30 : List Cond := [Cond.selects RX8 yX8_computeWithNumber yX8_computeWithNumber, Cond.code yX8_computeWithNumber cX8_computeWithNumber 8 (some (.object "TimedThreads$Outcome")), Cond.methodLink RX8 188 yX1_g, Cond.static yX1_g, Cond.code yX1_g cX1_g 1 (some .int), Cond.methodLink RX8 191 yX8_compute, Cond.static yX8_compute, Cond.code yX8_compute cX8_compute 4 (some .int), Cond.methodLink RX8 103 yX8_computeWithRegister, Cond.instanceMethod yX8_computeWithRegister, Cond.selects RX8 yX8_computeWithRegister yX8_computeWithRegister, Cond.code yX8_computeWithRegister cX8_computeWithRegister 8 (some (.object "TimedThreads$Outcome")), Cond.methodLink RX8 106 yX8_timed, Cond.instanceMethod yX8_timed, Cond.selects RX8 yX8_timed yX8_timed, Cond.code yX8_timed cX8_timed 5 (some (.object "TimedThreads$Outcome")), Cond.methodLink RX8 195 yX8_setTimer, Cond.instanceMethod yX8_setTimer, Cond.selects RX8 yX8_setTimer yX8_setTimer, Cond.code yX8_setTimer cX8_setTimer 7 (some (.object "TimedThreads$Outcome")), Cond.fieldLink RX8 199 "TimedThreads$Outcome" "TRY_AGAIN" "LTimedThreads$Outcome;", Cond.constantLong RX8 202 (2147483647), Cond.methodLink RX8 204 Lib.MathLoose.max_long.x, Cond.static Lib.MathLoose.max_long.x]
def TT31 : List Cond := [Cond.code Lib.MathLoose.max_long.x Lib.MathLoose.max_long.code 4 (some .long), Cond.methodLink RX8 210 Lib.MathLoose.min_long.x, Cond.static Lib.MathLoose.min_long.x, Cond.code Lib.MathLoose.min_long.x Lib.MathLoose.min_long.code 4 (some .long), Cond.methodLink RX8 110 yX8_halt, Cond.instanceMethod yX8_halt, Cond.selects RX8 yX8_halt yX8_halt, Cond.code yX8_halt cX8_halt 2 (some (.object "TimedThreads$Outcome")), Cond.methodLink RX8 60 yX2_add, Cond.instanceMethod yX2_add, Cond.selects RX2 yX2_add yX2_add, Cond.code yX2_add cX2_add 5 none, Cond.fieldLink RX2 21 "TimedThreads$History" "count" "I", Cond.methodLink RX2 25 yX2_placeOf, Cond.static yX2_placeOf, Cond.code yX2_placeOf cX2_placeOf 1 (some .int), Cond.methodLink RX2 29 yJ9_floorMod_7cf53, Cond.methodLink RL 83 yX11_run, Cond.instanceMethod yX11_run, Cond.selects RX11 yX11_run yX11_run, Cond.code yX11_run cX11_run 4 (some .int), Cond.methodLink RX11 349 yX11_turn, Cond.instanceMethod yX11_turn, Cond.selects RX11 yX11_turn yX11_turn]
def TT32 : List Cond := [Cond.code yX11_turn cX11_turn 4 (some .int), Cond.methodLink RX11 288 yX11_isOwn, Cond.static yX11_isOwn, Cond.code yX11_isOwn cX11_isOwn 1 (some .boolean), Cond.methodLink RX11 299 yX11_stop, Cond.instanceMethod yX11_stop, Cond.selects RX11 yX11_stop yX11_stop, Cond.code yX11_stop cX11_stop 2 (some .int), Cond.methodLink RX11 313 yX11_set, Cond.instanceMethod yX11_set, Cond.selects RX11 yX11_set yX11_set, Cond.code yX11_set cX11_set 4 none, Cond.methodLink RX11 319 yX11_done, Cond.instanceMethod yX11_done, Cond.selects RX11 yX11_done yX11_done, Cond.code yX11_done cX11_done 5 (some .int), Cond.methodLink RX11 333 yX11_jump, Cond.instanceMethod yX11_jump, Cond.selects RX11 yX11_jump yX11_jump, Cond.code yX11_jump cX11_jump 8 (some .int), Cond.methodLink RX11 337 yX11_branch, Cond.instanceMethod yX11_branch, Cond.selects RX11 yX11_branch yX11_branch, Cond.code yX11_branch cX11_branch 8 (some .int)]
def TT33 : List Cond := [Cond.methodLink RX11 327 yX11_goes, Cond.static yX11_goes, Cond.code yX11_goes cX11_goes 4 (some .boolean), Cond.methodLink RX11 295 yX11_isLess, Cond.static yX11_isLess, Cond.code yX11_isLess cX11_isLess 2 (some .boolean), Cond.constant RX11 294 (-2147483648), Cond.methodLink RX11 340 yX11_moveWord, Cond.instanceMethod yX11_moveWord, Cond.selects RX11 yX11_moveWord yX11_moveWord, Cond.code yX11_moveWord cX11_moveWord 13 (some .int), Cond.methodLink RX11 302 yX11_isThere, Cond.instanceMethod yX11_isThere, Cond.selects RX11 yX11_isThere yX11_isThere, Cond.code yX11_isThere cX11_isThere 4 (some .boolean), Cond.methodLink RX11 306 yX11_wordAt, Cond.instanceMethod yX11_wordAt, Cond.selects RX11 yX11_wordAt yX11_wordAt, Cond.code yX11_wordAt cX11_wordAt 3 (some .int), Cond.methodLink RX11 309 yX11_put, Cond.instanceMethod yX11_put, Cond.selects RX11 yX11_put yX11_put, Cond.code yX11_put cX11_put 4 none, Cond.methodLink RX11 316 yX11_first]
def TT34 : List Cond := [Cond.instanceMethod yX11_first, Cond.selects RX11 yX11_first yX11_first, Cond.code yX11_first cX11_first 3 (some .int), Cond.methodLink RX11 343 yX11_calculate, Cond.instanceMethod yX11_calculate, Cond.selects RX11 yX11_calculate yX11_calculate, Cond.code yX11_calculate cX11_calculate 13 (some .int), Cond.methodLink RX11 323 yX11_worked, Cond.static yX11_worked, Cond.code yX11_worked cX11_worked 4 (some .int), Cond.methodLink RX11 346 yX11_clock, Cond.instanceMethod yX11_clock, Cond.selects RX11 yX11_clock yX11_clock, Cond.code yX11_clock cX11_clock 8 (some .int), Cond.constantLong RX11 330 (2147483647), Cond.constant RX11 332 (2147483647), Cond.methodLink RL 84 yX10_now, Cond.instanceMethod yX10_now, Cond.selects RX10 yX10_now yX10_now, Cond.code yX10_now cX10_now 1 (some .int), Cond.methodLink RL 87 yX11_now, Cond.instanceMethod yX11_now, Cond.selects RX11 yX11_now yX11_now, Cond.code yX11_now cX11_now 1 (some .int)]
def TT35 : List Cond := [Cond.methodLink RL 88 yX10_register, Cond.instanceMethod yX10_register, Cond.selects RX10 yX10_register yX10_register, Cond.code yX10_register cX10_register 3 (some .int), Cond.fieldLink RX10 127 "TimedThreads$TimedThread" "registers" "[I", Cond.methodLink RX10 124 yX10_isRegister, Cond.methodLink RL 91 yX11_register, Cond.instanceMethod yX11_register, Cond.selects RX11 yX11_register yX11_register, Cond.code yX11_register cX11_register 3 (some .int), Cond.methodLink RL 92 yX10_state, Cond.instanceMethod yX10_state, Cond.selects RX10 yX10_state yX10_state, Cond.code yX10_state cX10_state 3 (some .int), Cond.methodLink RX10 130 yX8_condition, Cond.instanceMethod yX8_condition, Cond.selects RX8 yX8_condition yX8_condition, Cond.code yX8_condition cX8_condition 2 (some .int), Cond.fieldLink RX8 41 "TimedThreads$History" "count" "I", Cond.methodLink RL 95 yX11_state, Cond.instanceMethod yX11_state, Cond.selects RX11 yX11_state yX11_state, Cond.code yX11_state cX11_state 3 (some .int), Cond.methodLink RL 96 yX10_trace]
def TT36 : List Cond := [Cond.instanceMethod yX10_trace, Cond.selects RX10 yX10_trace yX10_trace, Cond.code yX10_trace cX10_trace 4 (some .int), Cond.fieldLink RX10 134 "TimedThreads$TimedThread" "history" "LTimedThreads$History;", Cond.methodLink RX10 138 yX2_entry, Cond.instanceMethod yX2_entry, Cond.selects RX2 yX2_entry yX2_entry, Cond.code yX2_entry cX2_entry 4 (some .int), Cond.methodLink RL 100 yX11_trace, Cond.instanceMethod yX11_trace, Cond.selects RX11 yX11_trace yX11_trace, Cond.code yX11_trace cX11_trace 4 (some .int)]
def TT : List Cond := TT0 ++ (TT1 ++ (TT2 ++ (TT3 ++ (TT4 ++ (TT5 ++ (TT6 ++ (TT7 ++ (TT8 ++ (TT9 ++ (TT10 ++ (TT11 ++ (TT12 ++ (TT13 ++ (TT14 ++ (TT15 ++ (TT16 ++ (TT17 ++ (TT18 ++ (TT19 ++ (TT20 ++ (TT21 ++ (TT22 ++ (TT23 ++ (TT24 ++ (TT25 ++ (TT26 ++ (TT27 ++ (TT28 ++ (TT29 ++ (TT30 ++ (TT31 ++ (TT32 ++ (TT33 ++ (TT34 ++ (TT35 ++ (TT36 ++ (wsX00 ++ (wsX20 ++ (wsX30 ++ (wsX60 ++ (wsX70 ++ (wsX80 ++ (wsX90 ++ (wsX100 ++ (wsX110)))))))))))))))))))))))))))))))))))))))))))))
theorem tin_TT0 : ∀ w ∈ TT0, w ∈ TT := fun _ h => (List.mem_append_left _ h)
theorem tin_TT1 : ∀ w ∈ TT1, w ∈ TT := fun _ h => (List.mem_append_right _ (List.mem_append_left _ h))
theorem tin_TT2 : ∀ w ∈ TT2, w ∈ TT := fun _ h => (List.mem_append_right _ (List.mem_append_right _ (List.mem_append_left _ h)))
theorem tin_TT3 : ∀ w ∈ TT3, w ∈ TT := fun _ h => (List.mem_append_right _ (List.mem_append_right _ (List.mem_append_right _ (List.mem_append_left _ h))))
theorem tin_TT4 : ∀ w ∈ TT4, w ∈ TT := fun _ h => (List.mem_append_right _ (List.mem_append_right _ (List.mem_append_right _ (List.mem_append_right _ (List.mem_append_left _ h)))))
theorem tin_TT5 : ∀ w ∈ TT5, w ∈ TT := fun _ h => (List.mem_append_right _ (List.mem_append_right _ (List.mem_append_right _ (List.mem_append_right _ (List.mem_append_right _ (List.mem_append_left _ h))))))
theorem tin_TT6 : ∀ w ∈ TT6, w ∈ TT := fun _ h => (List.mem_append_right _ (List.mem_append_right _ (List.mem_append_right _ (List.mem_append_right _ (List.mem_append_right _ (List.mem_append_right _ (List.mem_append_left _ h)))))))
theorem tin_TT7 : ∀ w ∈ TT7, w ∈ TT := fun _ h => (List.mem_append_right _ (List.mem_append_right _ (List.mem_append_right _ (List.mem_append_right _ (List.mem_append_right _ (List.mem_append_right _ (List.mem_append_right _ (List.mem_append_left _ h))))))))
theorem tin_TT8 : ∀ w ∈ TT8, w ∈ TT := fun _ h => (List.mem_append_right _ (List.mem_append_right _ (List.mem_append_right _ (List.mem_append_right _ (List.mem_append_right _ (List.mem_append_right _ (List.mem_append_right _ (List.mem_append_right _ (List.mem_append_left _ h)))))))))
theorem tin_TT9 : ∀ w ∈ TT9, w ∈ TT := fun _ h => (List.mem_append_right _ (List.mem_append_right _ (List.mem_append_right _ (List.mem_append_right _ (List.mem_append_right _ (List.mem_append_right _ (List.mem_append_right _ (List.mem_append_right _ (List.mem_append_right _ (List.mem_append_left _ h))))))))))
theorem tin_TT10 : ∀ w ∈ TT10, w ∈ TT := fun _ h => (List.mem_append_right _ (List.mem_append_right _ (List.mem_append_right _ (List.mem_append_right _ (List.mem_append_right _ (List.mem_append_right _ (List.mem_append_right _ (List.mem_append_right _ (List.mem_append_right _ (List.mem_append_right _ (List.mem_append_left _ h)))))))))))
theorem tin_TT11 : ∀ w ∈ TT11, w ∈ TT := fun _ h => (List.mem_append_right _ (List.mem_append_right _ (List.mem_append_right _ (List.mem_append_right _ (List.mem_append_right _ (List.mem_append_right _ (List.mem_append_right _ (List.mem_append_right _ (List.mem_append_right _ (List.mem_append_right _ (List.mem_append_right _ (List.mem_append_left _ h))))))))))))
theorem tin_TT12 : ∀ w ∈ TT12, w ∈ TT := fun _ h => (List.mem_append_right _ (List.mem_append_right _ (List.mem_append_right _ (List.mem_append_right _ (List.mem_append_right _ (List.mem_append_right _ (List.mem_append_right _ (List.mem_append_right _ (List.mem_append_right _ (List.mem_append_right _ (List.mem_append_right _ (List.mem_append_right _ (List.mem_append_left _ h)))))))))))))
theorem tin_TT13 : ∀ w ∈ TT13, w ∈ TT := fun _ h => (List.mem_append_right _ (List.mem_append_right _ (List.mem_append_right _ (List.mem_append_right _ (List.mem_append_right _ (List.mem_append_right _ (List.mem_append_right _ (List.mem_append_right _ (List.mem_append_right _ (List.mem_append_right _ (List.mem_append_right _ (List.mem_append_right _ (List.mem_append_right _ (List.mem_append_left _ h))))))))))))))
theorem tin_TT14 : ∀ w ∈ TT14, w ∈ TT := fun _ h => (List.mem_append_right _ (List.mem_append_right _ (List.mem_append_right _ (List.mem_append_right _ (List.mem_append_right _ (List.mem_append_right _ (List.mem_append_right _ (List.mem_append_right _ (List.mem_append_right _ (List.mem_append_right _ (List.mem_append_right _ (List.mem_append_right _ (List.mem_append_right _ (List.mem_append_right _ (List.mem_append_left _ h)))))))))))))))
theorem tin_TT15 : ∀ w ∈ TT15, w ∈ TT := fun _ h => (List.mem_append_right _ (List.mem_append_right _ (List.mem_append_right _ (List.mem_append_right _ (List.mem_append_right _ (List.mem_append_right _ (List.mem_append_right _ (List.mem_append_right _ (List.mem_append_right _ (List.mem_append_right _ (List.mem_append_right _ (List.mem_append_right _ (List.mem_append_right _ (List.mem_append_right _ (List.mem_append_right _ (List.mem_append_left _ h))))))))))))))))
theorem tin_TT16 : ∀ w ∈ TT16, w ∈ TT := fun _ h => (List.mem_append_right _ (List.mem_append_right _ (List.mem_append_right _ (List.mem_append_right _ (List.mem_append_right _ (List.mem_append_right _ (List.mem_append_right _ (List.mem_append_right _ (List.mem_append_right _ (List.mem_append_right _ (List.mem_append_right _ (List.mem_append_right _ (List.mem_append_right _ (List.mem_append_right _ (List.mem_append_right _ (List.mem_append_right _ (List.mem_append_left _ h)))))))))))))))))
theorem tin_TT17 : ∀ w ∈ TT17, w ∈ TT := fun _ h => (List.mem_append_right _ (List.mem_append_right _ (List.mem_append_right _ (List.mem_append_right _ (List.mem_append_right _ (List.mem_append_right _ (List.mem_append_right _ (List.mem_append_right _ (List.mem_append_right _ (List.mem_append_right _ (List.mem_append_right _ (List.mem_append_right _ (List.mem_append_right _ (List.mem_append_right _ (List.mem_append_right _ (List.mem_append_right _ (List.mem_append_right _ (List.mem_append_left _ h))))))))))))))))))
theorem tin_TT18 : ∀ w ∈ TT18, w ∈ TT := fun _ h => (List.mem_append_right _ (List.mem_append_right _ (List.mem_append_right _ (List.mem_append_right _ (List.mem_append_right _ (List.mem_append_right _ (List.mem_append_right _ (List.mem_append_right _ (List.mem_append_right _ (List.mem_append_right _ (List.mem_append_right _ (List.mem_append_right _ (List.mem_append_right _ (List.mem_append_right _ (List.mem_append_right _ (List.mem_append_right _ (List.mem_append_right _ (List.mem_append_right _ (List.mem_append_left _ h)))))))))))))))))))
theorem tin_TT19 : ∀ w ∈ TT19, w ∈ TT := fun _ h => (List.mem_append_right _ (List.mem_append_right _ (List.mem_append_right _ (List.mem_append_right _ (List.mem_append_right _ (List.mem_append_right _ (List.mem_append_right _ (List.mem_append_right _ (List.mem_append_right _ (List.mem_append_right _ (List.mem_append_right _ (List.mem_append_right _ (List.mem_append_right _ (List.mem_append_right _ (List.mem_append_right _ (List.mem_append_right _ (List.mem_append_right _ (List.mem_append_right _ (List.mem_append_right _ (List.mem_append_left _ h))))))))))))))))))))
theorem tin_TT20 : ∀ w ∈ TT20, w ∈ TT := fun _ h => (List.mem_append_right _ (List.mem_append_right _ (List.mem_append_right _ (List.mem_append_right _ (List.mem_append_right _ (List.mem_append_right _ (List.mem_append_right _ (List.mem_append_right _ (List.mem_append_right _ (List.mem_append_right _ (List.mem_append_right _ (List.mem_append_right _ (List.mem_append_right _ (List.mem_append_right _ (List.mem_append_right _ (List.mem_append_right _ (List.mem_append_right _ (List.mem_append_right _ (List.mem_append_right _ (List.mem_append_right _ (List.mem_append_left _ h)))))))))))))))))))))
theorem tin_TT21 : ∀ w ∈ TT21, w ∈ TT := fun _ h => (List.mem_append_right _ (List.mem_append_right _ (List.mem_append_right _ (List.mem_append_right _ (List.mem_append_right _ (List.mem_append_right _ (List.mem_append_right _ (List.mem_append_right _ (List.mem_append_right _ (List.mem_append_right _ (List.mem_append_right _ (List.mem_append_right _ (List.mem_append_right _ (List.mem_append_right _ (List.mem_append_right _ (List.mem_append_right _ (List.mem_append_right _ (List.mem_append_right _ (List.mem_append_right _ (List.mem_append_right _ (List.mem_append_right _ (List.mem_append_left _ h))))))))))))))))))))))
theorem tin_TT22 : ∀ w ∈ TT22, w ∈ TT := fun _ h => (List.mem_append_right _ (List.mem_append_right _ (List.mem_append_right _ (List.mem_append_right _ (List.mem_append_right _ (List.mem_append_right _ (List.mem_append_right _ (List.mem_append_right _ (List.mem_append_right _ (List.mem_append_right _ (List.mem_append_right _ (List.mem_append_right _ (List.mem_append_right _ (List.mem_append_right _ (List.mem_append_right _ (List.mem_append_right _ (List.mem_append_right _ (List.mem_append_right _ (List.mem_append_right _ (List.mem_append_right _ (List.mem_append_right _ (List.mem_append_right _ (List.mem_append_left _ h)))))))))))))))))))))))
theorem tin_TT23 : ∀ w ∈ TT23, w ∈ TT := fun _ h => (List.mem_append_right _ (List.mem_append_right _ (List.mem_append_right _ (List.mem_append_right _ (List.mem_append_right _ (List.mem_append_right _ (List.mem_append_right _ (List.mem_append_right _ (List.mem_append_right _ (List.mem_append_right _ (List.mem_append_right _ (List.mem_append_right _ (List.mem_append_right _ (List.mem_append_right _ (List.mem_append_right _ (List.mem_append_right _ (List.mem_append_right _ (List.mem_append_right _ (List.mem_append_right _ (List.mem_append_right _ (List.mem_append_right _ (List.mem_append_right _ (List.mem_append_right _ (List.mem_append_left _ h))))))))))))))))))))))))
theorem tin_TT24 : ∀ w ∈ TT24, w ∈ TT := fun _ h => (List.mem_append_right _ (List.mem_append_right _ (List.mem_append_right _ (List.mem_append_right _ (List.mem_append_right _ (List.mem_append_right _ (List.mem_append_right _ (List.mem_append_right _ (List.mem_append_right _ (List.mem_append_right _ (List.mem_append_right _ (List.mem_append_right _ (List.mem_append_right _ (List.mem_append_right _ (List.mem_append_right _ (List.mem_append_right _ (List.mem_append_right _ (List.mem_append_right _ (List.mem_append_right _ (List.mem_append_right _ (List.mem_append_right _ (List.mem_append_right _ (List.mem_append_right _ (List.mem_append_right _ (List.mem_append_left _ h)))))))))))))))))))))))))
theorem tin_TT25 : ∀ w ∈ TT25, w ∈ TT := fun _ h => (List.mem_append_right _ (List.mem_append_right _ (List.mem_append_right _ (List.mem_append_right _ (List.mem_append_right _ (List.mem_append_right _ (List.mem_append_right _ (List.mem_append_right _ (List.mem_append_right _ (List.mem_append_right _ (List.mem_append_right _ (List.mem_append_right _ (List.mem_append_right _ (List.mem_append_right _ (List.mem_append_right _ (List.mem_append_right _ (List.mem_append_right _ (List.mem_append_right _ (List.mem_append_right _ (List.mem_append_right _ (List.mem_append_right _ (List.mem_append_right _ (List.mem_append_right _ (List.mem_append_right _ (List.mem_append_right _ (List.mem_append_left _ h))))))))))))))))))))))))))
theorem tin_TT26 : ∀ w ∈ TT26, w ∈ TT := fun _ h => (List.mem_append_right _ (List.mem_append_right _ (List.mem_append_right _ (List.mem_append_right _ (List.mem_append_right _ (List.mem_append_right _ (List.mem_append_right _ (List.mem_append_right _ (List.mem_append_right _ (List.mem_append_right _ (List.mem_append_right _ (List.mem_append_right _ (List.mem_append_right _ (List.mem_append_right _ (List.mem_append_right _ (List.mem_append_right _ (List.mem_append_right _ (List.mem_append_right _ (List.mem_append_right _ (List.mem_append_right _ (List.mem_append_right _ (List.mem_append_right _ (List.mem_append_right _ (List.mem_append_right _ (List.mem_append_right _ (List.mem_append_right _ (List.mem_append_left _ h)))))))))))))))))))))))))))
theorem tin_TT27 : ∀ w ∈ TT27, w ∈ TT := fun _ h => (List.mem_append_right _ (List.mem_append_right _ (List.mem_append_right _ (List.mem_append_right _ (List.mem_append_right _ (List.mem_append_right _ (List.mem_append_right _ (List.mem_append_right _ (List.mem_append_right _ (List.mem_append_right _ (List.mem_append_right _ (List.mem_append_right _ (List.mem_append_right _ (List.mem_append_right _ (List.mem_append_right _ (List.mem_append_right _ (List.mem_append_right _ (List.mem_append_right _ (List.mem_append_right _ (List.mem_append_right _ (List.mem_append_right _ (List.mem_append_right _ (List.mem_append_right _ (List.mem_append_right _ (List.mem_append_right _ (List.mem_append_right _ (List.mem_append_right _ (List.mem_append_left _ h))))))))))))))))))))))))))))
theorem tin_TT28 : ∀ w ∈ TT28, w ∈ TT := fun _ h => (List.mem_append_right _ (List.mem_append_right _ (List.mem_append_right _ (List.mem_append_right _ (List.mem_append_right _ (List.mem_append_right _ (List.mem_append_right _ (List.mem_append_right _ (List.mem_append_right _ (List.mem_append_right _ (List.mem_append_right _ (List.mem_append_right _ (List.mem_append_right _ (List.mem_append_right _ (List.mem_append_right _ (List.mem_append_right _ (List.mem_append_right _ (List.mem_append_right _ (List.mem_append_right _ (List.mem_append_right _ (List.mem_append_right _ (List.mem_append_right _ (List.mem_append_right _ (List.mem_append_right _ (List.mem_append_right _ (List.mem_append_right _ (List.mem_append_right _ (List.mem_append_right _ (List.mem_append_left _ h)))))))))))))))))))))))))))))
theorem tin_TT29 : ∀ w ∈ TT29, w ∈ TT := fun _ h => (List.mem_append_right _ (List.mem_append_right _ (List.mem_append_right _ (List.mem_append_right _ (List.mem_append_right _ (List.mem_append_right _ (List.mem_append_right _ (List.mem_append_right _ (List.mem_append_right _ (List.mem_append_right _ (List.mem_append_right _ (List.mem_append_right _ (List.mem_append_right _ (List.mem_append_right _ (List.mem_append_right _ (List.mem_append_right _ (List.mem_append_right _ (List.mem_append_right _ (List.mem_append_right _ (List.mem_append_right _ (List.mem_append_right _ (List.mem_append_right _ (List.mem_append_right _ (List.mem_append_right _ (List.mem_append_right _ (List.mem_append_right _ (List.mem_append_right _ (List.mem_append_right _ (List.mem_append_right _ (List.mem_append_left _ h))))))))))))))))))))))))))))))
theorem tin_TT30 : ∀ w ∈ TT30, w ∈ TT := fun _ h => (List.mem_append_right _ (List.mem_append_right _ (List.mem_append_right _ (List.mem_append_right _ (List.mem_append_right _ (List.mem_append_right _ (List.mem_append_right _ (List.mem_append_right _ (List.mem_append_right _ (List.mem_append_right _ (List.mem_append_right _ (List.mem_append_right _ (List.mem_append_right _ (List.mem_append_right _ (List.mem_append_right _ (List.mem_append_right _ (List.mem_append_right _ (List.mem_append_right _ (List.mem_append_right _ (List.mem_append_right _ (List.mem_append_right _ (List.mem_append_right _ (List.mem_append_right _ (List.mem_append_right _ (List.mem_append_right _ (List.mem_append_right _ (List.mem_append_right _ (List.mem_append_right _ (List.mem_append_right _ (List.mem_append_right _ (List.mem_append_left _ h)))))))))))))))))))))))))))))))
theorem tin_TT31 : ∀ w ∈ TT31, w ∈ TT := fun _ h => (List.mem_append_right _ (List.mem_append_right _ (List.mem_append_right _ (List.mem_append_right _ (List.mem_append_right _ (List.mem_append_right _ (List.mem_append_right _ (List.mem_append_right _ (List.mem_append_right _ (List.mem_append_right _ (List.mem_append_right _ (List.mem_append_right _ (List.mem_append_right _ (List.mem_append_right _ (List.mem_append_right _ (List.mem_append_right _ (List.mem_append_right _ (List.mem_append_right _ (List.mem_append_right _ (List.mem_append_right _ (List.mem_append_right _ (List.mem_append_right _ (List.mem_append_right _ (List.mem_append_right _ (List.mem_append_right _ (List.mem_append_right _ (List.mem_append_right _ (List.mem_append_right _ (List.mem_append_right _ (List.mem_append_right _ (List.mem_append_right _ (List.mem_append_left _ h))))))))))))))))))))))))))))))))
theorem tin_TT32 : ∀ w ∈ TT32, w ∈ TT := fun _ h => (List.mem_append_right _ (List.mem_append_right _ (List.mem_append_right _ (List.mem_append_right _ (List.mem_append_right _ (List.mem_append_right _ (List.mem_append_right _ (List.mem_append_right _ (List.mem_append_right _ (List.mem_append_right _ (List.mem_append_right _ (List.mem_append_right _ (List.mem_append_right _ (List.mem_append_right _ (List.mem_append_right _ (List.mem_append_right _ (List.mem_append_right _ (List.mem_append_right _ (List.mem_append_right _ (List.mem_append_right _ (List.mem_append_right _ (List.mem_append_right _ (List.mem_append_right _ (List.mem_append_right _ (List.mem_append_right _ (List.mem_append_right _ (List.mem_append_right _ (List.mem_append_right _ (List.mem_append_right _ (List.mem_append_right _ (List.mem_append_right _ (List.mem_append_right _ (List.mem_append_left _ h)))))))))))))))))))))))))))))))))
theorem tin_TT33 : ∀ w ∈ TT33, w ∈ TT := fun _ h => (List.mem_append_right _ (List.mem_append_right _ (List.mem_append_right _ (List.mem_append_right _ (List.mem_append_right _ (List.mem_append_right _ (List.mem_append_right _ (List.mem_append_right _ (List.mem_append_right _ (List.mem_append_right _ (List.mem_append_right _ (List.mem_append_right _ (List.mem_append_right _ (List.mem_append_right _ (List.mem_append_right _ (List.mem_append_right _ (List.mem_append_right _ (List.mem_append_right _ (List.mem_append_right _ (List.mem_append_right _ (List.mem_append_right _ (List.mem_append_right _ (List.mem_append_right _ (List.mem_append_right _ (List.mem_append_right _ (List.mem_append_right _ (List.mem_append_right _ (List.mem_append_right _ (List.mem_append_right _ (List.mem_append_right _ (List.mem_append_right _ (List.mem_append_right _ (List.mem_append_right _ (List.mem_append_left _ h))))))))))))))))))))))))))))))))))
theorem tin_TT34 : ∀ w ∈ TT34, w ∈ TT := fun _ h => (List.mem_append_right _ (List.mem_append_right _ (List.mem_append_right _ (List.mem_append_right _ (List.mem_append_right _ (List.mem_append_right _ (List.mem_append_right _ (List.mem_append_right _ (List.mem_append_right _ (List.mem_append_right _ (List.mem_append_right _ (List.mem_append_right _ (List.mem_append_right _ (List.mem_append_right _ (List.mem_append_right _ (List.mem_append_right _ (List.mem_append_right _ (List.mem_append_right _ (List.mem_append_right _ (List.mem_append_right _ (List.mem_append_right _ (List.mem_append_right _ (List.mem_append_right _ (List.mem_append_right _ (List.mem_append_right _ (List.mem_append_right _ (List.mem_append_right _ (List.mem_append_right _ (List.mem_append_right _ (List.mem_append_right _ (List.mem_append_right _ (List.mem_append_right _ (List.mem_append_right _ (List.mem_append_right _ (List.mem_append_left _ h)))))))))))))))))))))))))))))))))))
theorem tin_TT35 : ∀ w ∈ TT35, w ∈ TT := fun _ h => (List.mem_append_right _ (List.mem_append_right _ (List.mem_append_right _ (List.mem_append_right _ (List.mem_append_right _ (List.mem_append_right _ (List.mem_append_right _ (List.mem_append_right _ (List.mem_append_right _ (List.mem_append_right _ (List.mem_append_right _ (List.mem_append_right _ (List.mem_append_right _ (List.mem_append_right _ (List.mem_append_right _ (List.mem_append_right _ (List.mem_append_right _ (List.mem_append_right _ (List.mem_append_right _ (List.mem_append_right _ (List.mem_append_right _ (List.mem_append_right _ (List.mem_append_right _ (List.mem_append_right _ (List.mem_append_right _ (List.mem_append_right _ (List.mem_append_right _ (List.mem_append_right _ (List.mem_append_right _ (List.mem_append_right _ (List.mem_append_right _ (List.mem_append_right _ (List.mem_append_right _ (List.mem_append_right _ (List.mem_append_right _ (List.mem_append_left _ h))))))))))))))))))))))))))))))))))))
theorem tin_TT36 : ∀ w ∈ TT36, w ∈ TT := fun _ h => (List.mem_append_right _ (List.mem_append_right _ (List.mem_append_right _ (List.mem_append_right _ (List.mem_append_right _ (List.mem_append_right _ (List.mem_append_right _ (List.mem_append_right _ (List.mem_append_right _ (List.mem_append_right _ (List.mem_append_right _ (List.mem_append_right _ (List.mem_append_right _ (List.mem_append_right _ (List.mem_append_right _ (List.mem_append_right _ (List.mem_append_right _ (List.mem_append_right _ (List.mem_append_right _ (List.mem_append_right _ (List.mem_append_right _ (List.mem_append_right _ (List.mem_append_right _ (List.mem_append_right _ (List.mem_append_right _ (List.mem_append_right _ (List.mem_append_right _ (List.mem_append_right _ (List.mem_append_right _ (List.mem_append_right _ (List.mem_append_right _ (List.mem_append_right _ (List.mem_append_right _ (List.mem_append_right _ (List.mem_append_right _ (List.mem_append_right _ (List.mem_append_left _ h)))))))))))))))))))))))))))))))))))))
theorem tin_wsX00 : ∀ w ∈ wsX00, w ∈ TT := fun _ h => (List.mem_append_right _ (List.mem_append_right _ (List.mem_append_right _ (List.mem_append_right _ (List.mem_append_right _ (List.mem_append_right _ (List.mem_append_right _ (List.mem_append_right _ (List.mem_append_right _ (List.mem_append_right _ (List.mem_append_right _ (List.mem_append_right _ (List.mem_append_right _ (List.mem_append_right _ (List.mem_append_right _ (List.mem_append_right _ (List.mem_append_right _ (List.mem_append_right _ (List.mem_append_right _ (List.mem_append_right _ (List.mem_append_right _ (List.mem_append_right _ (List.mem_append_right _ (List.mem_append_right _ (List.mem_append_right _ (List.mem_append_right _ (List.mem_append_right _ (List.mem_append_right _ (List.mem_append_right _ (List.mem_append_right _ (List.mem_append_right _ (List.mem_append_right _ (List.mem_append_right _ (List.mem_append_right _ (List.mem_append_right _ (List.mem_append_right _ (List.mem_append_right _ (List.mem_append_left _ h))))))))))))))))))))))))))))))))))))))
theorem tin_wsX20 : ∀ w ∈ wsX20, w ∈ TT := fun _ h => (List.mem_append_right _ (List.mem_append_right _ (List.mem_append_right _ (List.mem_append_right _ (List.mem_append_right _ (List.mem_append_right _ (List.mem_append_right _ (List.mem_append_right _ (List.mem_append_right _ (List.mem_append_right _ (List.mem_append_right _ (List.mem_append_right _ (List.mem_append_right _ (List.mem_append_right _ (List.mem_append_right _ (List.mem_append_right _ (List.mem_append_right _ (List.mem_append_right _ (List.mem_append_right _ (List.mem_append_right _ (List.mem_append_right _ (List.mem_append_right _ (List.mem_append_right _ (List.mem_append_right _ (List.mem_append_right _ (List.mem_append_right _ (List.mem_append_right _ (List.mem_append_right _ (List.mem_append_right _ (List.mem_append_right _ (List.mem_append_right _ (List.mem_append_right _ (List.mem_append_right _ (List.mem_append_right _ (List.mem_append_right _ (List.mem_append_right _ (List.mem_append_right _ (List.mem_append_right _ (List.mem_append_left _ h)))))))))))))))))))))))))))))))))))))))
theorem tin_wsX30 : ∀ w ∈ wsX30, w ∈ TT := fun _ h => (List.mem_append_right _ (List.mem_append_right _ (List.mem_append_right _ (List.mem_append_right _ (List.mem_append_right _ (List.mem_append_right _ (List.mem_append_right _ (List.mem_append_right _ (List.mem_append_right _ (List.mem_append_right _ (List.mem_append_right _ (List.mem_append_right _ (List.mem_append_right _ (List.mem_append_right _ (List.mem_append_right _ (List.mem_append_right _ (List.mem_append_right _ (List.mem_append_right _ (List.mem_append_right _ (List.mem_append_right _ (List.mem_append_right _ (List.mem_append_right _ (List.mem_append_right _ (List.mem_append_right _ (List.mem_append_right _ (List.mem_append_right _ (List.mem_append_right _ (List.mem_append_right _ (List.mem_append_right _ (List.mem_append_right _ (List.mem_append_right _ (List.mem_append_right _ (List.mem_append_right _ (List.mem_append_right _ (List.mem_append_right _ (List.mem_append_right _ (List.mem_append_right _ (List.mem_append_right _ (List.mem_append_right _ (List.mem_append_left _ h))))))))))))))))))))))))))))))))))))))))
theorem tin_wsX60 : ∀ w ∈ wsX60, w ∈ TT := fun _ h => (List.mem_append_right _ (List.mem_append_right _ (List.mem_append_right _ (List.mem_append_right _ (List.mem_append_right _ (List.mem_append_right _ (List.mem_append_right _ (List.mem_append_right _ (List.mem_append_right _ (List.mem_append_right _ (List.mem_append_right _ (List.mem_append_right _ (List.mem_append_right _ (List.mem_append_right _ (List.mem_append_right _ (List.mem_append_right _ (List.mem_append_right _ (List.mem_append_right _ (List.mem_append_right _ (List.mem_append_right _ (List.mem_append_right _ (List.mem_append_right _ (List.mem_append_right _ (List.mem_append_right _ (List.mem_append_right _ (List.mem_append_right _ (List.mem_append_right _ (List.mem_append_right _ (List.mem_append_right _ (List.mem_append_right _ (List.mem_append_right _ (List.mem_append_right _ (List.mem_append_right _ (List.mem_append_right _ (List.mem_append_right _ (List.mem_append_right _ (List.mem_append_right _ (List.mem_append_right _ (List.mem_append_right _ (List.mem_append_right _ (List.mem_append_left _ h)))))))))))))))))))))))))))))))))))))))))
theorem tin_wsX70 : ∀ w ∈ wsX70, w ∈ TT := fun _ h => (List.mem_append_right _ (List.mem_append_right _ (List.mem_append_right _ (List.mem_append_right _ (List.mem_append_right _ (List.mem_append_right _ (List.mem_append_right _ (List.mem_append_right _ (List.mem_append_right _ (List.mem_append_right _ (List.mem_append_right _ (List.mem_append_right _ (List.mem_append_right _ (List.mem_append_right _ (List.mem_append_right _ (List.mem_append_right _ (List.mem_append_right _ (List.mem_append_right _ (List.mem_append_right _ (List.mem_append_right _ (List.mem_append_right _ (List.mem_append_right _ (List.mem_append_right _ (List.mem_append_right _ (List.mem_append_right _ (List.mem_append_right _ (List.mem_append_right _ (List.mem_append_right _ (List.mem_append_right _ (List.mem_append_right _ (List.mem_append_right _ (List.mem_append_right _ (List.mem_append_right _ (List.mem_append_right _ (List.mem_append_right _ (List.mem_append_right _ (List.mem_append_right _ (List.mem_append_right _ (List.mem_append_right _ (List.mem_append_right _ (List.mem_append_right _ (List.mem_append_left _ h))))))))))))))))))))))))))))))))))))))))))
theorem tin_wsX80 : ∀ w ∈ wsX80, w ∈ TT := fun _ h => (List.mem_append_right _ (List.mem_append_right _ (List.mem_append_right _ (List.mem_append_right _ (List.mem_append_right _ (List.mem_append_right _ (List.mem_append_right _ (List.mem_append_right _ (List.mem_append_right _ (List.mem_append_right _ (List.mem_append_right _ (List.mem_append_right _ (List.mem_append_right _ (List.mem_append_right _ (List.mem_append_right _ (List.mem_append_right _ (List.mem_append_right _ (List.mem_append_right _ (List.mem_append_right _ (List.mem_append_right _ (List.mem_append_right _ (List.mem_append_right _ (List.mem_append_right _ (List.mem_append_right _ (List.mem_append_right _ (List.mem_append_right _ (List.mem_append_right _ (List.mem_append_right _ (List.mem_append_right _ (List.mem_append_right _ (List.mem_append_right _ (List.mem_append_right _ (List.mem_append_right _ (List.mem_append_right _ (List.mem_append_right _ (List.mem_append_right _ (List.mem_append_right _ (List.mem_append_right _ (List.mem_append_right _ (List.mem_append_right _ (List.mem_append_right _ (List.mem_append_right _ (List.mem_append_left _ h)))))))))))))))))))))))))))))))))))))))))))
theorem tin_wsX90 : ∀ w ∈ wsX90, w ∈ TT := fun _ h => (List.mem_append_right _ (List.mem_append_right _ (List.mem_append_right _ (List.mem_append_right _ (List.mem_append_right _ (List.mem_append_right _ (List.mem_append_right _ (List.mem_append_right _ (List.mem_append_right _ (List.mem_append_right _ (List.mem_append_right _ (List.mem_append_right _ (List.mem_append_right _ (List.mem_append_right _ (List.mem_append_right _ (List.mem_append_right _ (List.mem_append_right _ (List.mem_append_right _ (List.mem_append_right _ (List.mem_append_right _ (List.mem_append_right _ (List.mem_append_right _ (List.mem_append_right _ (List.mem_append_right _ (List.mem_append_right _ (List.mem_append_right _ (List.mem_append_right _ (List.mem_append_right _ (List.mem_append_right _ (List.mem_append_right _ (List.mem_append_right _ (List.mem_append_right _ (List.mem_append_right _ (List.mem_append_right _ (List.mem_append_right _ (List.mem_append_right _ (List.mem_append_right _ (List.mem_append_right _ (List.mem_append_right _ (List.mem_append_right _ (List.mem_append_right _ (List.mem_append_right _ (List.mem_append_right _ (List.mem_append_left _ h))))))))))))))))))))))))))))))))))))))))))))
theorem tin_wsX100 : ∀ w ∈ wsX100, w ∈ TT := fun _ h => (List.mem_append_right _ (List.mem_append_right _ (List.mem_append_right _ (List.mem_append_right _ (List.mem_append_right _ (List.mem_append_right _ (List.mem_append_right _ (List.mem_append_right _ (List.mem_append_right _ (List.mem_append_right _ (List.mem_append_right _ (List.mem_append_right _ (List.mem_append_right _ (List.mem_append_right _ (List.mem_append_right _ (List.mem_append_right _ (List.mem_append_right _ (List.mem_append_right _ (List.mem_append_right _ (List.mem_append_right _ (List.mem_append_right _ (List.mem_append_right _ (List.mem_append_right _ (List.mem_append_right _ (List.mem_append_right _ (List.mem_append_right _ (List.mem_append_right _ (List.mem_append_right _ (List.mem_append_right _ (List.mem_append_right _ (List.mem_append_right _ (List.mem_append_right _ (List.mem_append_right _ (List.mem_append_right _ (List.mem_append_right _ (List.mem_append_right _ (List.mem_append_right _ (List.mem_append_right _ (List.mem_append_right _ (List.mem_append_right _ (List.mem_append_right _ (List.mem_append_right _ (List.mem_append_right _ (List.mem_append_right _ (List.mem_append_left _ h)))))))))))))))))))))))))))))))))))))))))))))
theorem tin_wsX110 : ∀ w ∈ wsX110, w ∈ TT := fun _ h => (List.mem_append_right _ (List.mem_append_right _ (List.mem_append_right _ (List.mem_append_right _ (List.mem_append_right _ (List.mem_append_right _ (List.mem_append_right _ (List.mem_append_right _ (List.mem_append_right _ (List.mem_append_right _ (List.mem_append_right _ (List.mem_append_right _ (List.mem_append_right _ (List.mem_append_right _ (List.mem_append_right _ (List.mem_append_right _ (List.mem_append_right _ (List.mem_append_right _ (List.mem_append_right _ (List.mem_append_right _ (List.mem_append_right _ (List.mem_append_right _ (List.mem_append_right _ (List.mem_append_right _ (List.mem_append_right _ (List.mem_append_right _ (List.mem_append_right _ (List.mem_append_right _ (List.mem_append_right _ (List.mem_append_right _ (List.mem_append_right _ (List.mem_append_right _ (List.mem_append_right _ (List.mem_append_right _ (List.mem_append_right _ (List.mem_append_right _ (List.mem_append_right _ (List.mem_append_right _ (List.mem_append_right _ (List.mem_append_right _ (List.mem_append_right _ (List.mem_append_right _ (List.mem_append_right _ (List.mem_append_right _ (List.mem_append_right _ h)))))))))))))))))))))))))))))))))))))))))))))
theorem tw0 : (Cond.classLink RL 8 RX10) ∈ TT := tin_TT0 _ (List.mem_of_getElem? (i := 0) rfl)
theorem tw1 : (Cond.instantiable RX10 5) ∈ TT := tin_TT0 _ (List.mem_of_getElem? (i := 1) rfl)
theorem tw2 : (Cond.initialized RX10) ∈ TT := tin_TT0 _ (List.mem_of_getElem? (i := 2) rfl)
theorem tw3 : (Cond.classLink RL 32 RX11) ∈ TT := tin_TT0 _ (List.mem_of_getElem? (i := 3) rfl)
theorem tw4 : (Cond.instantiable RX11 31) ∈ TT := tin_TT0 _ (List.mem_of_getElem? (i := 4) rfl)
theorem tw5 : (Cond.initialized RX11) ∈ TT := tin_TT0 _ (List.mem_of_getElem? (i := 5) rfl)
theorem tw6 : (Cond.arrayClass .long) ∈ TT := tin_TT0 _ (List.mem_of_getElem? (i := 6) rfl)
theorem tw7 : (Cond.constantLong RL 35 (4294967295)) ∈ TT := tin_TT0 _ (List.mem_of_getElem? (i := 7) rfl)
theorem tw8 : (Cond.methodLink RL 23 yL_cell) ∈ TT := tin_TT0 _ (List.mem_of_getElem? (i := 8) rfl)
theorem tw9 : (Cond.static yL_cell) ∈ TT := tin_TT0 _ (List.mem_of_getElem? (i := 9) rfl)
theorem tw10 : (Cond.initialized RL) ∈ TT := tin_TT0 _ (List.mem_of_getElem? (i := 10) rfl)
theorem tw11 : (Cond.code yL_cell cL_cell 2 (some .int)) ∈ TT := tin_TT0 _ (List.mem_of_getElem? (i := 11) rfl)
theorem tw12 : (Cond.methodLink RL 29 yX10_init) ∈ TT := tin_TT0 _ (List.mem_of_getElem? (i := 12) rfl)
theorem tw13 : (Cond.instanceMethod yX10_init) ∈ TT := tin_TT0 _ (List.mem_of_getElem? (i := 13) rfl)
theorem tw14 : (Cond.code yX10_init cX10_init 3 none) ∈ TT := tin_TT0 _ (List.mem_of_getElem? (i := 14) rfl)
theorem tw15 : (Cond.methodLink RX10 1 objectInit) ∈ TT := tin_TT0 _ (List.mem_of_getElem? (i := 15) rfl)
theorem tw16 : (Cond.instanceMethod objectInit) ∈ TT := tin_TT0 _ (List.mem_of_getElem? (i := 16) rfl)
theorem tw17 : (Cond.code objectInit ⟨#[0xb1]⟩ 1 none) ∈ TT := tin_TT0 _ (List.mem_of_getElem? (i := 17) rfl)
theorem tw18 : (Cond.classLink RX10 7 RX6) ∈ TT := tin_TT0 _ (List.mem_of_getElem? (i := 18) rfl)
theorem tw19 : (Cond.instantiable RX6 2) ∈ TT := tin_TT0 _ (List.mem_of_getElem? (i := 19) rfl)
theorem tw20 : (Cond.initialized RX6) ∈ TT := tin_TT0 _ (List.mem_of_getElem? (i := 20) rfl)
theorem tw21 : (Cond.methodLink RX10 11 Lib.Math.min.name) ∈ TT := tin_TT0 _ (List.mem_of_getElem? (i := 21) rfl)
theorem tw22 : (Cond.static Lib.Math.min.name) ∈ TT := tin_TT0 _ (List.mem_of_getElem? (i := 22) rfl)
theorem tw23 : (Cond.initialized "java/lang/Math") ∈ TT := tin_TT0 _ (List.mem_of_getElem? (i := 23) rfl)
theorem tw24 : (Cond.code Lib.Math.min.name Lib.Math.min.code 2 (some .int)) ∈ TT := tin_TT1 _ (List.mem_of_getElem? (i := 0) rfl)
theorem tw25 : (Cond.methodLink RX10 17 Lib.Math.max.name) ∈ TT := tin_TT1 _ (List.mem_of_getElem? (i := 1) rfl)
theorem tw26 : (Cond.static Lib.Math.max.name) ∈ TT := tin_TT1 _ (List.mem_of_getElem? (i := 2) rfl)
theorem tw27 : (Cond.code Lib.Math.max.name Lib.Math.max.code 2 (some .int)) ∈ TT := tin_TT1 _ (List.mem_of_getElem? (i := 3) rfl)
theorem tw28 : (Cond.fieldLink RX10 23 "TimedThreads" "memory" "LTimedThreads$SharedMemory;") ∈ TT := tin_TT1 _ (List.mem_of_getElem? (i := 4) rfl)
theorem tw29 : (Cond.classLink RX10 27 RX8) ∈ TT := tin_TT1 _ (List.mem_of_getElem? (i := 5) rfl)
theorem tw30 : (Cond.fieldLink RX10 29 "TimedThreads" "threads" "[LTimedThreads$TimedThread;") ∈ TT := tin_TT1 _ (List.mem_of_getElem? (i := 6) rfl)
theorem tw31 : (Cond.instantiable RX8 12) ∈ TT := tin_TT1 _ (List.mem_of_getElem? (i := 7) rfl)
theorem tw32 : (Cond.initialized RX8) ∈ TT := tin_TT1 _ (List.mem_of_getElem? (i := 8) rfl)
theorem tw33 : (Cond.classLink RX10 34 RX7) ∈ TT := tin_TT1 _ (List.mem_of_getElem? (i := 9) rfl)
theorem tw34 : (Cond.instantiable RX7 2) ∈ TT := tin_TT1 _ (List.mem_of_getElem? (i := 10) rfl)
theorem tw35 : (Cond.initialized RX7) ∈ TT := tin_TT1 _ (List.mem_of_getElem? (i := 11) rfl)
theorem tw36 : (Cond.fieldLink RX10 37 "TimedThreads" "text" "LTimedThreads$Text;") ∈ TT := tin_TT1 _ (List.mem_of_getElem? (i := 12) rfl)
theorem tw37 : (Cond.classLink RX10 41 RX0) ∈ TT := tin_TT1 _ (List.mem_of_getElem? (i := 13) rfl)
theorem tw38 : (Cond.instantiable RX0 15) ∈ TT := tin_TT1 _ (List.mem_of_getElem? (i := 14) rfl)
theorem tw39 : (Cond.initialized RX0) ∈ TT := tin_TT1 _ (List.mem_of_getElem? (i := 15) rfl)
theorem tw40 : (Cond.fieldLink RX10 44 "TimedThreads" "assembler" "LTimedThreads$Assembler;") ∈ TT := tin_TT1 _ (List.mem_of_getElem? (i := 16) rfl)
theorem tw41 : (Cond.methodLink RX10 20 yX6_init) ∈ TT := tin_TT1 _ (List.mem_of_getElem? (i := 17) rfl)
theorem tw42 : (Cond.instanceMethod yX6_init) ∈ TT := tin_TT1 _ (List.mem_of_getElem? (i := 18) rfl)
theorem tw43 : (Cond.code yX6_init cX6_init 2 none) ∈ TT := tin_TT1 _ (List.mem_of_getElem? (i := 19) rfl)
theorem tw44 : (Cond.methodLink RX6 3 objectInit) ∈ TT := tin_TT1 _ (List.mem_of_getElem? (i := 20) rfl)
theorem tw45 : (Cond.arrayClass .int) ∈ TT := tin_TT1 _ (List.mem_of_getElem? (i := 21) rfl)
theorem tw46 : (Cond.fieldLink RX6 9 "TimedThreads$SharedMemory" "words" "[I") ∈ TT := tin_TT1 _ (List.mem_of_getElem? (i := 22) rfl)
theorem tw47 : (Cond.fieldLink RX6 15 "TimedThreads$SharedMemory" "wheel" "I") ∈ TT := tin_TT1 _ (List.mem_of_getElem? (i := 23) rfl)
theorem tw48 : (Cond.methodLink RX10 33 yX8_init) ∈ TT := tin_TT2 _ (List.mem_of_getElem? (i := 0) rfl)
theorem tw49 : (Cond.instanceMethod yX8_init) ∈ TT := tin_TT2 _ (List.mem_of_getElem? (i := 1) rfl)
theorem tw50 : (Cond.code yX8_init cX8_init 2 none) ∈ TT := tin_TT2 _ (List.mem_of_getElem? (i := 2) rfl)
theorem tw51 : (Cond.methodLink RX8 3 objectInit) ∈ TT := tin_TT2 _ (List.mem_of_getElem? (i := 3) rfl)
theorem tw52 : (Cond.fieldLink RX8 9 "TimedThreads$TimedThread" "registers" "[I") ∈ TT := tin_TT2 _ (List.mem_of_getElem? (i := 4) rfl)
theorem tw53 : (Cond.fieldLink RX8 15 "TimedThreads$TimedThread" "store" "[I") ∈ TT := tin_TT2 _ (List.mem_of_getElem? (i := 5) rfl)
theorem tw54 : (Cond.classLink RX8 18 RX2) ∈ TT := tin_TT2 _ (List.mem_of_getElem? (i := 6) rfl)
theorem tw55 : (Cond.instantiable RX2 4) ∈ TT := tin_TT2 _ (List.mem_of_getElem? (i := 7) rfl)
theorem tw56 : (Cond.initialized RX2) ∈ TT := tin_TT2 _ (List.mem_of_getElem? (i := 8) rfl)
theorem tw57 : (Cond.fieldLink RX8 21 "TimedThreads$TimedThread" "history" "LTimedThreads$History;") ∈ TT := tin_TT2 _ (List.mem_of_getElem? (i := 9) rfl)
theorem tw58 : (Cond.fieldLink RX8 25 "TimedThreads$TimedThread" "timers" "[I") ∈ TT := tin_TT2 _ (List.mem_of_getElem? (i := 10) rfl)
theorem tw59 : (Cond.fieldLink RX8 28 "TimedThreads$TimedThread" "status" "I") ∈ TT := tin_TT2 _ (List.mem_of_getElem? (i := 11) rfl)
theorem tw60 : (Cond.fieldLink RX8 32 "TimedThreads$TimedThread" "number" "I") ∈ TT := tin_TT2 _ (List.mem_of_getElem? (i := 12) rfl)
theorem tw61 : (Cond.instanceMethod yX2_init) ∈ TT := tin_TT2 _ (List.mem_of_getElem? (i := 13) rfl)
theorem tw62 : (Cond.code yX2_init cX2_init 1 none) ∈ TT := tin_TT2 _ (List.mem_of_getElem? (i := 14) rfl)
theorem tw63 : (Cond.methodLink RX2 3 objectInit) ∈ TT := tin_TT2 _ (List.mem_of_getElem? (i := 15) rfl)
theorem tw64 : (Cond.fieldLink RX2 9 "TimedThreads$History" "addresses" "[I") ∈ TT := tin_TT2 _ (List.mem_of_getElem? (i := 16) rfl)
theorem tw65 : (Cond.fieldLink RX2 15 "TimedThreads$History" "cycles" "[I") ∈ TT := tin_TT2 _ (List.mem_of_getElem? (i := 17) rfl)
theorem tw66 : (Cond.fieldLink RX2 18 "TimedThreads$History" "retirements" "[I") ∈ TT := tin_TT2 _ (List.mem_of_getElem? (i := 18) rfl)
theorem tw67 : (Cond.instanceMethod yX7_init) ∈ TT := tin_TT2 _ (List.mem_of_getElem? (i := 19) rfl)
theorem tw68 : (Cond.code yX7_init cX7_init 1 none) ∈ TT := tin_TT2 _ (List.mem_of_getElem? (i := 20) rfl)
theorem tw69 : (Cond.methodLink RX7 3 objectInit) ∈ TT := tin_TT2 _ (List.mem_of_getElem? (i := 21) rfl)
theorem tw70 : (Cond.arrayClass .char) ∈ TT := tin_TT2 _ (List.mem_of_getElem? (i := 22) rfl)
theorem tw71 : (Cond.fieldLink RX7 9 "TimedThreads$Text" "characters" "[C") ∈ TT := tin_TT2 _ (List.mem_of_getElem? (i := 23) rfl)
theorem tw72 : (Cond.instanceMethod yX0_init) ∈ TT := tin_TT3 _ (List.mem_of_getElem? (i := 0) rfl)
theorem tw73 : (Cond.code yX0_init cX0_init 1 none) ∈ TT := tin_TT3 _ (List.mem_of_getElem? (i := 1) rfl)
theorem tw74 : (Cond.methodLink RX0 3 objectInit) ∈ TT := tin_TT3 _ (List.mem_of_getElem? (i := 2) rfl)
theorem tw75 : (Cond.fieldLink RX0 9 "TimedThreads$Assembler" "words" "[I") ∈ TT := tin_TT3 _ (List.mem_of_getElem? (i := 3) rfl)
theorem tw76 : (Cond.fieldLink RX0 15 "TimedThreads$Assembler" "targets" "[J") ∈ TT := tin_TT3 _ (List.mem_of_getElem? (i := 4) rfl)
theorem tw77 : (Cond.fieldLink RX0 19 "TimedThreads$Assembler" "lines" "[I") ∈ TT := tin_TT3 _ (List.mem_of_getElem? (i := 5) rfl)
theorem tw78 : (Cond.classLink RX0 22 RX3) ∈ TT := tin_TT3 _ (List.mem_of_getElem? (i := 6) rfl)
theorem tw79 : (Cond.instantiable RX3 3) ∈ TT := tin_TT3 _ (List.mem_of_getElem? (i := 7) rfl)
theorem tw80 : (Cond.initialized RX3) ∈ TT := tin_TT3 _ (List.mem_of_getElem? (i := 8) rfl)
theorem tw81 : (Cond.fieldLink RX0 25 "TimedThreads$Assembler" "labels" "LTimedThreads$Labels;") ∈ TT := tin_TT3 _ (List.mem_of_getElem? (i := 9) rfl)
theorem tw82 : (Cond.classLink RX0 29 RX9) ∈ TT := tin_TT3 _ (List.mem_of_getElem? (i := 10) rfl)
theorem tw83 : (Cond.instantiable RX9 6) ∈ TT := tin_TT3 _ (List.mem_of_getElem? (i := 11) rfl)
theorem tw84 : (Cond.initialized RX9) ∈ TT := tin_TT3 _ (List.mem_of_getElem? (i := 12) rfl)
theorem tw85 : (Cond.fieldLink RX0 32 "TimedThreads$Assembler" "tokens" "LTimedThreads$Tokens;") ∈ TT := tin_TT3 _ (List.mem_of_getElem? (i := 13) rfl)
theorem tw86 : (Cond.instanceMethod yX3_init) ∈ TT := tin_TT3 _ (List.mem_of_getElem? (i := 14) rfl)
theorem tw87 : (Cond.code yX3_init cX3_init 1 none) ∈ TT := tin_TT3 _ (List.mem_of_getElem? (i := 15) rfl)
theorem tw88 : (Cond.methodLink RX3 3 objectInit) ∈ TT := tin_TT3 _ (List.mem_of_getElem? (i := 16) rfl)
theorem tw89 : (Cond.fieldLink RX3 9 "TimedThreads$Labels" "keys" "[J") ∈ TT := tin_TT3 _ (List.mem_of_getElem? (i := 17) rfl)
theorem tw90 : (Cond.fieldLink RX3 15 "TimedThreads$Labels" "places" "[I") ∈ TT := tin_TT3 _ (List.mem_of_getElem? (i := 18) rfl)
theorem tw91 : (Cond.instanceMethod yX9_init) ∈ TT := tin_TT3 _ (List.mem_of_getElem? (i := 19) rfl)
theorem tw92 : (Cond.code yX9_init cX9_init 1 none) ∈ TT := tin_TT3 _ (List.mem_of_getElem? (i := 20) rfl)
theorem tw93 : (Cond.methodLink RX9 3 objectInit) ∈ TT := tin_TT3 _ (List.mem_of_getElem? (i := 21) rfl)
theorem tw94 : (Cond.fieldLink RX9 9 "TimedThreads$Tokens" "kinds" "[C") ∈ TT := tin_TT3 _ (List.mem_of_getElem? (i := 22) rfl)
theorem tw95 : (Cond.fieldLink RX9 15 "TimedThreads$Tokens" "values" "[J") ∈ TT := tin_TT3 _ (List.mem_of_getElem? (i := 23) rfl)
theorem tw96 : (Cond.methodLink RL 34 yX11_init) ∈ TT := tin_TT4 _ (List.mem_of_getElem? (i := 0) rfl)
theorem tw97 : (Cond.instanceMethod yX11_init) ∈ TT := tin_TT4 _ (List.mem_of_getElem? (i := 1) rfl)
theorem tw98 : (Cond.code yX11_init cX11_init 2 none) ∈ TT := tin_TT4 _ (List.mem_of_getElem? (i := 2) rfl)
theorem tw99 : (Cond.methodLink RX11 1 objectInit) ∈ TT := tin_TT4 _ (List.mem_of_getElem? (i := 3) rfl)
theorem tw100 : (Cond.fieldLink RX11 7 "TimedThreadsModel" "text" "[C") ∈ TT := tin_TT4 _ (List.mem_of_getElem? (i := 4) rfl)
theorem tw101 : (Cond.fieldLink RX11 13 "TimedThreadsModel" "code" "[I") ∈ TT := tin_TT4 _ (List.mem_of_getElem? (i := 5) rfl)
theorem tw102 : (Cond.fieldLink RX11 17 "TimedThreadsModel" "label" "[J") ∈ TT := tin_TT4 _ (List.mem_of_getElem? (i := 6) rfl)
theorem tw103 : (Cond.fieldLink RX11 21 "TimedThreadsModel" "labelWord" "[I") ∈ TT := tin_TT4 _ (List.mem_of_getElem? (i := 7) rfl)
theorem tw104 : (Cond.fieldLink RX11 24 "TimedThreadsModel" "target" "[J") ∈ TT := tin_TT4 _ (List.mem_of_getElem? (i := 8) rfl)
theorem tw105 : (Cond.fieldLink RX11 27 "TimedThreadsModel" "targetWord" "[I") ∈ TT := tin_TT4 _ (List.mem_of_getElem? (i := 9) rfl)
theorem tw106 : (Cond.fieldLink RX11 30 "TimedThreadsModel" "targetLine" "[I") ∈ TT := tin_TT4 _ (List.mem_of_getElem? (i := 10) rfl)
theorem tw107 : (Cond.fieldLink RX11 33 "TimedThreadsModel" "store" "[I") ∈ TT := tin_TT4 _ (List.mem_of_getElem? (i := 11) rfl)
theorem tw108 : (Cond.fieldLink RX11 36 "TimedThreadsModel" "common" "[I") ∈ TT := tin_TT4 _ (List.mem_of_getElem? (i := 12) rfl)
theorem tw109 : (Cond.fieldLink RX11 39 "TimedThreadsModel" "low" "[I") ∈ TT := tin_TT4 _ (List.mem_of_getElem? (i := 13) rfl)
theorem tw110 : (Cond.fieldLink RX11 42 "TimedThreadsModel" "high" "[I") ∈ TT := tin_TT4 _ (List.mem_of_getElem? (i := 14) rfl)
theorem tw111 : (Cond.fieldLink RX11 45 "TimedThreadsModel" "register" "[I") ∈ TT := tin_TT4 _ (List.mem_of_getElem? (i := 15) rfl)
theorem tw112 : (Cond.fieldLink RX11 48 "TimedThreadsModel" "address" "[I") ∈ TT := tin_TT4 _ (List.mem_of_getElem? (i := 16) rfl)
theorem tw113 : (Cond.fieldLink RX11 51 "TimedThreadsModel" "status" "[I") ∈ TT := tin_TT4 _ (List.mem_of_getElem? (i := 17) rfl)
theorem tw114 : (Cond.fieldLink RX11 54 "TimedThreadsModel" "did" "[I") ∈ TT := tin_TT4 _ (List.mem_of_getElem? (i := 18) rfl)
theorem tw115 : (Cond.fieldLink RX11 57 "TimedThreadsModel" "ready" "[I") ∈ TT := tin_TT4 _ (List.mem_of_getElem? (i := 19) rfl)
theorem tw116 : (Cond.fieldLink RX11 60 "TimedThreadsModel" "timer" "[I") ∈ TT := tin_TT4 _ (List.mem_of_getElem? (i := 20) rfl)
theorem tw117 : (Cond.fieldLink RX11 63 "TimedThreadsModel" "trace" "[I") ∈ TT := tin_TT4 _ (List.mem_of_getElem? (i := 21) rfl)
theorem tw118 : (Cond.fieldLink RX11 66 "TimedThreadsModel" "wheel" "I") ∈ TT := tin_TT4 _ (List.mem_of_getElem? (i := 22) rfl)
theorem tw119 : (Cond.methodLink RL 37 yL_type) ∈ TT := tin_TT4 _ (List.mem_of_getElem? (i := 23) rfl)
theorem tw120 : (Cond.static yL_type) ∈ TT := tin_TT5 _ (List.mem_of_getElem? (i := 0) rfl)
theorem tw121 : (Cond.codeWith yL_type cL_type 6 (some .int) [(0, 11, 14, 13), (0, 11, 18, 15)]) ∈ TT := tin_TT5 _ (List.mem_of_getElem? (i := 1) rfl)
theorem tw122 : (Cond.classLink RL 13 "java/lang/IllegalArgumentException") ∈ TT := tin_TT5 _ (List.mem_of_getElem? (i := 2) rfl)
theorem tw123 : (Cond.classLink RL 15 "java/lang/IllegalStateException") ∈ TT := tin_TT5 _ (List.mem_of_getElem? (i := 3) rfl)
theorem tw124 : (Cond.methodLink RL 7 yX10_type) ∈ TT := tin_TT5 _ (List.mem_of_getElem? (i := 4) rfl)
theorem tw125 : (Cond.instanceMethod yX10_type) ∈ TT := tin_TT5 _ (List.mem_of_getElem? (i := 5) rfl)
theorem tw126 : (Cond.selects RX10 yX10_type yX10_type) ∈ TT := tin_TT5 _ (List.mem_of_getElem? (i := 6) rfl)
theorem tw127 : (Cond.code yX10_type cX10_type 4 (some .int)) ∈ TT := tin_TT5 _ (List.mem_of_getElem? (i := 7) rfl)
theorem tw128 : (Cond.classLink RX10 52 "java/lang/IllegalArgumentException") ∈ TT := tin_TT5 _ (List.mem_of_getElem? (i := 8) rfl)
theorem tw129 : (Cond.initialized "java/lang/IllegalArgumentException") ∈ TT := tin_TT5 _ (List.mem_of_getElem? (i := 9) rfl)
theorem tw130 : (Cond.classLink RX10 59 "java/lang/IllegalStateException") ∈ TT := tin_TT5 _ (List.mem_of_getElem? (i := 10) rfl)
theorem tw131 : (Cond.initialized "java/lang/IllegalStateException") ∈ TT := tin_TT5 _ (List.mem_of_getElem? (i := 11) rfl)
theorem tw132 : (Cond.fieldLink RX10 55 "TimedThreads$Text" "length" "I") ∈ TT := tin_TT5 _ (List.mem_of_getElem? (i := 12) rfl)
theorem tw133 : (Cond.methodLink RX10 48 yX7_canBeTyped) ∈ TT := tin_TT5 _ (List.mem_of_getElem? (i := 13) rfl)
theorem tw134 : (Cond.static yX7_canBeTyped) ∈ TT := tin_TT5 _ (List.mem_of_getElem? (i := 14) rfl)
theorem tw135 : (Cond.code yX7_canBeTyped cX7_canBeTyped 5 (some .boolean)) ∈ TT := tin_TT5 _ (List.mem_of_getElem? (i := 15) rfl)
theorem tw136 : (Cond.methodLink RX7 15 yX7_byteOf) ∈ TT := tin_TT5 _ (List.mem_of_getElem? (i := 16) rfl)
theorem tw137 : (Cond.static yX7_byteOf) ∈ TT := tin_TT5 _ (List.mem_of_getElem? (i := 17) rfl)
theorem tw138 : (Cond.code yX7_byteOf cX7_byteOf 3 (some .char)) ∈ TT := tin_TT5 _ (List.mem_of_getElem? (i := 18) rfl)
theorem tw139 : (Cond.constantLong RX7 23 (255)) ∈ TT := tin_TT5 _ (List.mem_of_getElem? (i := 19) rfl)
theorem tw140 : (Cond.methodLink RX10 62 yX7_add) ∈ TT := tin_TT5 _ (List.mem_of_getElem? (i := 20) rfl)
theorem tw141 : (Cond.instanceMethod yX7_add) ∈ TT := tin_TT5 _ (List.mem_of_getElem? (i := 21) rfl)
theorem tw142 : (Cond.selects RX7 yX7_add yX7_add) ∈ TT := tin_TT5 _ (List.mem_of_getElem? (i := 22) rfl)
theorem tw143 : (Cond.code yX7_add cX7_add 5 none) ∈ TT := tin_TT5 _ (List.mem_of_getElem? (i := 23) rfl)
theorem tw144 : (Cond.fieldLink RX7 19 "TimedThreads$Text" "length" "I") ∈ TT := tin_TT6 _ (List.mem_of_getElem? (i := 0) rfl)
theorem tw145 : (Cond.methodLink RL 40 yX11_type) ∈ TT := tin_TT6 _ (List.mem_of_getElem? (i := 1) rfl)
theorem tw146 : (Cond.instanceMethod yX11_type) ∈ TT := tin_TT6 _ (List.mem_of_getElem? (i := 2) rfl)
theorem tw147 : (Cond.selects RX11 yX11_type yX11_type) ∈ TT := tin_TT6 _ (List.mem_of_getElem? (i := 3) rfl)
theorem tw148 : (Cond.code yX11_type cX11_type 6 (some .int)) ∈ TT := tin_TT6 _ (List.mem_of_getElem? (i := 4) rfl)
theorem tw149 : (Cond.constantLong RX11 79 (255)) ∈ TT := tin_TT6 _ (List.mem_of_getElem? (i := 5) rfl)
theorem tw150 : (Cond.fieldLink RX11 85 "TimedThreadsModel" "length" "I") ∈ TT := tin_TT6 _ (List.mem_of_getElem? (i := 6) rfl)
theorem tw151 : (Cond.fieldLink RX11 70 "TimedThreadsModel" "refusal" "I") ∈ TT := tin_TT6 _ (List.mem_of_getElem? (i := 7) rfl)
theorem tw152 : (Cond.methodLink RX11 81 yX11_isCharacter) ∈ TT := tin_TT6 _ (List.mem_of_getElem? (i := 8) rfl)
theorem tw153 : (Cond.static yX11_isCharacter) ∈ TT := tin_TT6 _ (List.mem_of_getElem? (i := 9) rfl)
theorem tw154 : (Cond.code yX11_isCharacter cX11_isCharacter 2 (some .boolean)) ∈ TT := tin_TT6 _ (List.mem_of_getElem? (i := 10) rfl)
theorem tw155 : (Cond.constantLong RX11 73 (10)) ∈ TT := tin_TT6 _ (List.mem_of_getElem? (i := 11) rfl)
theorem tw156 : (Cond.constantLong RX11 75 (32)) ∈ TT := tin_TT6 _ (List.mem_of_getElem? (i := 12) rfl)
theorem tw157 : (Cond.constantLong RX11 77 (126)) ∈ TT := tin_TT6 _ (List.mem_of_getElem? (i := 13) rfl)
theorem tw158 : (Cond.methodLink RL 41 yX11_thrown) ∈ TT := tin_TT6 _ (List.mem_of_getElem? (i := 14) rfl)
theorem tw159 : (Cond.instanceMethod yX11_thrown) ∈ TT := tin_TT6 _ (List.mem_of_getElem? (i := 15) rfl)
theorem tw160 : (Cond.selects RX11 yX11_thrown yX11_thrown) ∈ TT := tin_TT6 _ (List.mem_of_getElem? (i := 16) rfl)
theorem tw161 : (Cond.code yX11_thrown cX11_thrown 1 (some .int)) ∈ TT := tin_TT6 _ (List.mem_of_getElem? (i := 17) rfl)
theorem tw162 : (Cond.methodLink RL 45 yX10_clear) ∈ TT := tin_TT6 _ (List.mem_of_getElem? (i := 18) rfl)
theorem tw163 : (Cond.instanceMethod yX10_clear) ∈ TT := tin_TT6 _ (List.mem_of_getElem? (i := 19) rfl)
theorem tw164 : (Cond.selects RX10 yX10_clear yX10_clear) ∈ TT := tin_TT6 _ (List.mem_of_getElem? (i := 20) rfl)
theorem tw165 : (Cond.code yX10_clear cX10_clear 2 (some .int)) ∈ TT := tin_TT6 _ (List.mem_of_getElem? (i := 21) rfl)
theorem tw166 : (Cond.methodLink RL 48 yX11_clear) ∈ TT := tin_TT6 _ (List.mem_of_getElem? (i := 22) rfl)
theorem tw167 : (Cond.instanceMethod yX11_clear) ∈ TT := tin_TT6 _ (List.mem_of_getElem? (i := 23) rfl)
theorem tw168 : (Cond.selects RX11 yX11_clear yX11_clear) ∈ TT := tin_TT7 _ (List.mem_of_getElem? (i := 0) rfl)
theorem tw169 : (Cond.code yX11_clear cX11_clear 2 (some .int)) ∈ TT := tin_TT7 _ (List.mem_of_getElem? (i := 1) rfl)
theorem tw170 : (Cond.methodLink RL 49 yL_assemble) ∈ TT := tin_TT7 _ (List.mem_of_getElem? (i := 2) rfl)
theorem tw171 : (Cond.static yL_assemble) ∈ TT := tin_TT7 _ (List.mem_of_getElem? (i := 3) rfl)
theorem tw172 : (Cond.codeWith yL_assemble cL_assemble 5 (some .int) [(0, 10, 13, 21), (0, 10, 17, 13)]) ∈ TT := tin_TT7 _ (List.mem_of_getElem? (i := 4) rfl)
theorem tw173 : (Cond.classLink RL 21 "java/util/NoSuchElementException") ∈ TT := tin_TT7 _ (List.mem_of_getElem? (i := 5) rfl)
theorem tw174 : (Cond.methodLink RL 17 yX10_assemble) ∈ TT := tin_TT7 _ (List.mem_of_getElem? (i := 6) rfl)
theorem tw175 : (Cond.instanceMethod yX10_assemble) ∈ TT := tin_TT7 _ (List.mem_of_getElem? (i := 7) rfl)
theorem tw176 : (Cond.selects RX10 yX10_assemble yX10_assemble) ∈ TT := tin_TT7 _ (List.mem_of_getElem? (i := 8) rfl)
theorem tw177 : (Cond.code yX10_assemble cX10_assemble 3 (some .int)) ∈ TT := tin_TT7 _ (List.mem_of_getElem? (i := 9) rfl)
theorem tw178 : (Cond.classLink RX10 70 "java/util/NoSuchElementException") ∈ TT := tin_TT7 _ (List.mem_of_getElem? (i := 10) rfl)
theorem tw179 : (Cond.initialized "java/util/NoSuchElementException") ∈ TT := tin_TT7 _ (List.mem_of_getElem? (i := 11) rfl)
theorem tw180 : (Cond.fieldLink RX10 77 "TimedThreads$Assembler" "faultKind" "I") ∈ TT := tin_TT7 _ (List.mem_of_getElem? (i := 12) rfl)
theorem tw181 : (Cond.fieldLink RX10 80 "TimedThreads$Assembler" "words" "[I") ∈ TT := tin_TT7 _ (List.mem_of_getElem? (i := 13) rfl)
theorem tw182 : (Cond.fieldLink RX10 84 "TimedThreads$TimedThread" "store" "[I") ∈ TT := tin_TT7 _ (List.mem_of_getElem? (i := 14) rfl)
theorem tw183 : (Cond.fieldLink RX10 87 "TimedThreads$Assembler" "count" "I") ∈ TT := tin_TT7 _ (List.mem_of_getElem? (i := 15) rfl)
theorem tw184 : (Cond.methodLink RX10 90 arraycopyName) ∈ TT := tin_TT7 _ (List.mem_of_getElem? (i := 16) rfl)
theorem tw185 : (Cond.native arraycopyName) ∈ TT := tin_TT7 _ (List.mem_of_getElem? (i := 17) rfl)
theorem tw186 : (Cond.static arraycopyName) ∈ TT := tin_TT7 _ (List.mem_of_getElem? (i := 18) rfl)
theorem tw187 : (Cond.initialized "java/lang/System") ∈ TT := tin_TT7 _ (List.mem_of_getElem? (i := 19) rfl)
theorem tw188 : (Cond.methodLink RX10 66 yX10_isStoreWord) ∈ TT := tin_TT7 _ (List.mem_of_getElem? (i := 20) rfl)
theorem tw189 : (Cond.static yX10_isStoreWord) ∈ TT := tin_TT7 _ (List.mem_of_getElem? (i := 21) rfl)
theorem tw190 : (Cond.code yX10_isStoreWord cX10_isStoreWord 2 (some .boolean)) ∈ TT := tin_TT7 _ (List.mem_of_getElem? (i := 22) rfl)
theorem tw191 : (Cond.methodLink RX10 100 yX10_isThread) ∈ TT := tin_TT7 _ (List.mem_of_getElem? (i := 23) rfl)
theorem tw192 : (Cond.static yX10_isThread) ∈ TT := tin_TT8 _ (List.mem_of_getElem? (i := 0) rfl)
theorem tw193 : (Cond.code yX10_isThread cX10_isThread 1 (some .boolean)) ∈ TT := tin_TT8 _ (List.mem_of_getElem? (i := 1) rfl)
theorem tw194 : (Cond.methodLink RX10 73 yX0_read) ∈ TT := tin_TT8 _ (List.mem_of_getElem? (i := 2) rfl)
theorem tw195 : (Cond.instanceMethod yX0_read) ∈ TT := tin_TT8 _ (List.mem_of_getElem? (i := 3) rfl)
theorem tw196 : (Cond.selects RX0 yX0_read yX0_read) ∈ TT := tin_TT8 _ (List.mem_of_getElem? (i := 4) rfl)
theorem tw197 : (Cond.code yX0_read cX0_read 5 none) ∈ TT := tin_TT8 _ (List.mem_of_getElem? (i := 5) rfl)
theorem tw198 : (Cond.fieldLink RX0 40 "TimedThreads$Assembler" "at" "I") ∈ TT := tin_TT8 _ (List.mem_of_getElem? (i := 6) rfl)
theorem tw199 : (Cond.fieldLink RX0 44 "TimedThreads$Assembler" "count" "I") ∈ TT := tin_TT8 _ (List.mem_of_getElem? (i := 7) rfl)
theorem tw200 : (Cond.fieldLink RX0 47 "TimedThreads$Labels" "count" "I") ∈ TT := tin_TT8 _ (List.mem_of_getElem? (i := 8) rfl)
theorem tw201 : (Cond.fieldLink RX0 48 "TimedThreads$Assembler" "faultKind" "I") ∈ TT := tin_TT8 _ (List.mem_of_getElem? (i := 9) rfl)
theorem tw202 : (Cond.fieldLink RX0 51 "TimedThreads$Assembler" "faultLine" "I") ∈ TT := tin_TT8 _ (List.mem_of_getElem? (i := 10) rfl)
theorem tw203 : (Cond.methodLink RX0 36 yX9_split) ∈ TT := tin_TT8 _ (List.mem_of_getElem? (i := 11) rfl)
theorem tw204 : (Cond.instanceMethod yX9_split) ∈ TT := tin_TT8 _ (List.mem_of_getElem? (i := 12) rfl)
theorem tw205 : (Cond.selects RX9 yX9_split yX9_split) ∈ TT := tin_TT8 _ (List.mem_of_getElem? (i := 13) rfl)
theorem tw206 : (Cond.code yX9_split cX9_split 4 none) ∈ TT := tin_TT8 _ (List.mem_of_getElem? (i := 14) rfl)
theorem tw207 : (Cond.fieldLink RX9 19 "TimedThreads$Text" "characters" "[C") ∈ TT := tin_TT8 _ (List.mem_of_getElem? (i := 15) rfl)
theorem tw208 : (Cond.fieldLink RX9 24 "TimedThreads$Tokens" "characters" "[C") ∈ TT := tin_TT8 _ (List.mem_of_getElem? (i := 16) rfl)
theorem tw209 : (Cond.fieldLink RX9 25 "TimedThreads$Text" "length" "I") ∈ TT := tin_TT8 _ (List.mem_of_getElem? (i := 17) rfl)
theorem tw210 : (Cond.fieldLink RX9 29 "TimedThreads$Tokens" "length" "I") ∈ TT := tin_TT8 _ (List.mem_of_getElem? (i := 18) rfl)
theorem tw211 : (Cond.fieldLink RX9 30 "TimedThreads$Tokens" "count" "I") ∈ TT := tin_TT8 _ (List.mem_of_getElem? (i := 19) rfl)
theorem tw212 : (Cond.fieldLink RX9 33 "TimedThreads$Tokens" "at" "I") ∈ TT := tin_TT8 _ (List.mem_of_getElem? (i := 20) rfl)
theorem tw213 : (Cond.methodLink RX9 36 yX9_isLetter) ∈ TT := tin_TT8 _ (List.mem_of_getElem? (i := 21) rfl)
theorem tw214 : (Cond.static yX9_isLetter) ∈ TT := tin_TT8 _ (List.mem_of_getElem? (i := 22) rfl)
theorem tw215 : (Cond.code yX9_isLetter cX9_isLetter 1 (some .boolean)) ∈ TT := tin_TT8 _ (List.mem_of_getElem? (i := 23) rfl)
theorem tw216 : (Cond.methodLink RX9 40 yX9_takeLetters) ∈ TT := tin_TT9 _ (List.mem_of_getElem? (i := 0) rfl)
theorem tw217 : (Cond.instanceMethod yX9_takeLetters) ∈ TT := tin_TT9 _ (List.mem_of_getElem? (i := 1) rfl)
theorem tw218 : (Cond.selects RX9 yX9_takeLetters yX9_takeLetters) ∈ TT := tin_TT9 _ (List.mem_of_getElem? (i := 2) rfl)
theorem tw219 : (Cond.code yX9_takeLetters cX9_takeLetters 5 none) ∈ TT := tin_TT9 _ (List.mem_of_getElem? (i := 3) rfl)
theorem tw220 : (Cond.methodLink RX9 58 yX9_withLetter) ∈ TT := tin_TT9 _ (List.mem_of_getElem? (i := 4) rfl)
theorem tw221 : (Cond.static yX9_withLetter) ∈ TT := tin_TT9 _ (List.mem_of_getElem? (i := 5) rfl)
theorem tw222 : (Cond.code yX9_withLetter cX9_withLetter 3 (some .long)) ∈ TT := tin_TT9 _ (List.mem_of_getElem? (i := 6) rfl)
theorem tw223 : (Cond.methodLink RX9 43 yX9_isDigit) ∈ TT := tin_TT9 _ (List.mem_of_getElem? (i := 7) rfl)
theorem tw224 : (Cond.static yX9_isDigit) ∈ TT := tin_TT9 _ (List.mem_of_getElem? (i := 8) rfl)
theorem tw225 : (Cond.code yX9_isDigit cX9_isDigit 1 (some .boolean)) ∈ TT := tin_TT9 _ (List.mem_of_getElem? (i := 9) rfl)
theorem tw226 : (Cond.methodLink RX9 62 yX9_takeRegister) ∈ TT := tin_TT9 _ (List.mem_of_getElem? (i := 10) rfl)
theorem tw227 : (Cond.instanceMethod yX9_takeRegister) ∈ TT := tin_TT9 _ (List.mem_of_getElem? (i := 11) rfl)
theorem tw228 : (Cond.selects RX9 yX9_takeRegister yX9_takeRegister) ∈ TT := tin_TT9 _ (List.mem_of_getElem? (i := 12) rfl)
theorem tw229 : (Cond.code yX9_takeRegister cX9_takeRegister 4 none) ∈ TT := tin_TT9 _ (List.mem_of_getElem? (i := 13) rfl)
theorem tw230 : (Cond.constantLong RX9 69 (16)) ∈ TT := tin_TT9 _ (List.mem_of_getElem? (i := 14) rfl)
theorem tw231 : (Cond.methodLink RX9 65 yX9_takeDigits) ∈ TT := tin_TT9 _ (List.mem_of_getElem? (i := 15) rfl)
theorem tw232 : (Cond.instanceMethod yX9_takeDigits) ∈ TT := tin_TT9 _ (List.mem_of_getElem? (i := 16) rfl)
theorem tw233 : (Cond.selects RX9 yX9_takeDigits yX9_takeDigits) ∈ TT := tin_TT9 _ (List.mem_of_getElem? (i := 17) rfl)
theorem tw234 : (Cond.code yX9_takeDigits cX9_takeDigits 4 (some .long)) ∈ TT := tin_TT9 _ (List.mem_of_getElem? (i := 18) rfl)
theorem tw235 : (Cond.constantLong RX9 71 (10)) ∈ TT := tin_TT9 _ (List.mem_of_getElem? (i := 19) rfl)
theorem tw236 : (Cond.constantLong RX9 73 (1099511627776)) ∈ TT := tin_TT9 _ (List.mem_of_getElem? (i := 20) rfl)
theorem tw237 : (Cond.methodLink RX9 54 yX9_add) ∈ TT := tin_TT9 _ (List.mem_of_getElem? (i := 21) rfl)
theorem tw238 : (Cond.instanceMethod yX9_add) ∈ TT := tin_TT9 _ (List.mem_of_getElem? (i := 22) rfl)
theorem tw239 : (Cond.selects RX9 yX9_add yX9_add) ∈ TT := tin_TT9 _ (List.mem_of_getElem? (i := 23) rfl)
theorem tw240 : (Cond.code yX9_add cX9_add 4 none) ∈ TT := tin_TT10 _ (List.mem_of_getElem? (i := 0) rfl)
theorem tw241 : (Cond.methodLink RX9 46 yX9_takeNumber) ∈ TT := tin_TT10 _ (List.mem_of_getElem? (i := 1) rfl)
theorem tw242 : (Cond.instanceMethod yX9_takeNumber) ∈ TT := tin_TT10 _ (List.mem_of_getElem? (i := 2) rfl)
theorem tw243 : (Cond.selects RX9 yX9_takeNumber yX9_takeNumber) ∈ TT := tin_TT10 _ (List.mem_of_getElem? (i := 3) rfl)
theorem tw244 : (Cond.code yX9_takeNumber cX9_takeNumber 5 none) ∈ TT := tin_TT10 _ (List.mem_of_getElem? (i := 4) rfl)
theorem tw245 : (Cond.methodLink RX9 50 yX9_takeMark) ∈ TT := tin_TT10 _ (List.mem_of_getElem? (i := 5) rfl)
theorem tw246 : (Cond.instanceMethod yX9_takeMark) ∈ TT := tin_TT10 _ (List.mem_of_getElem? (i := 6) rfl)
theorem tw247 : (Cond.selects RX9 yX9_takeMark yX9_takeMark) ∈ TT := tin_TT10 _ (List.mem_of_getElem? (i := 7) rfl)
theorem tw248 : (Cond.code yX9_takeMark cX9_takeMark 2 none) ∈ TT := tin_TT10 _ (List.mem_of_getElem? (i := 8) rfl)
theorem tw249 : (Cond.methodLink RX0 54 yX9_size) ∈ TT := tin_TT10 _ (List.mem_of_getElem? (i := 9) rfl)
theorem tw250 : (Cond.instanceMethod yX9_size) ∈ TT := tin_TT10 _ (List.mem_of_getElem? (i := 10) rfl)
theorem tw251 : (Cond.selects RX9 yX9_size yX9_size) ∈ TT := tin_TT10 _ (List.mem_of_getElem? (i := 11) rfl)
theorem tw252 : (Cond.code yX9_size cX9_size 1 (some .int)) ∈ TT := tin_TT10 _ (List.mem_of_getElem? (i := 12) rfl)
theorem tw253 : (Cond.methodLink RX0 58 yX0_readLine) ∈ TT := tin_TT10 _ (List.mem_of_getElem? (i := 13) rfl)
theorem tw254 : (Cond.instanceMethod yX0_readLine) ∈ TT := tin_TT10 _ (List.mem_of_getElem? (i := 14) rfl)
theorem tw255 : (Cond.selects RX0 yX0_readLine yX0_readLine) ∈ TT := tin_TT10 _ (List.mem_of_getElem? (i := 15) rfl)
theorem tw256 : (Cond.code yX0_readLine cX0_readLine 1 none) ∈ TT := tin_TT10 _ (List.mem_of_getElem? (i := 16) rfl)
theorem tw257 : (Cond.fieldLink RX0 76 "TimedThreads$Assembler" "label" "J") ∈ TT := tin_TT10 _ (List.mem_of_getElem? (i := 17) rfl)
theorem tw258 : (Cond.fieldLink RX0 80 "TimedThreads$Assembler" "hasWord" "Z") ∈ TT := tin_TT10 _ (List.mem_of_getElem? (i := 18) rfl)
theorem tw259 : (Cond.fieldLink RX0 84 "TimedThreads$Assembler" "word" "I") ∈ TT := tin_TT10 _ (List.mem_of_getElem? (i := 19) rfl)
theorem tw260 : (Cond.fieldLink RX0 87 "TimedThreads$Assembler" "target" "J") ∈ TT := tin_TT10 _ (List.mem_of_getElem? (i := 20) rfl)
theorem tw261 : (Cond.fieldLink RX0 90 "TimedThreads$Assembler" "malformed" "Z") ∈ TT := tin_TT10 _ (List.mem_of_getElem? (i := 21) rfl)
theorem tw262 : (Cond.fieldLink RX0 93 "TimedThreads$Assembler" "misfit" "Z") ∈ TT := tin_TT10 _ (List.mem_of_getElem? (i := 22) rfl)
theorem tw263 : (Cond.methodLink RX0 96 yX9_kindAt) ∈ TT := tin_TT10 _ (List.mem_of_getElem? (i := 23) rfl)
theorem tw264 : (Cond.instanceMethod yX9_kindAt) ∈ TT := tin_TT11 _ (List.mem_of_getElem? (i := 0) rfl)
theorem tw265 : (Cond.selects RX9 yX9_kindAt yX9_kindAt) ∈ TT := tin_TT11 _ (List.mem_of_getElem? (i := 1) rfl)
theorem tw266 : (Cond.code yX9_kindAt cX9_kindAt 2 (some .char)) ∈ TT := tin_TT11 _ (List.mem_of_getElem? (i := 2) rfl)
theorem tw267 : (Cond.methodLink RX0 100 yX9_valueAt) ∈ TT := tin_TT11 _ (List.mem_of_getElem? (i := 3) rfl)
theorem tw268 : (Cond.instanceMethod yX9_valueAt) ∈ TT := tin_TT11 _ (List.mem_of_getElem? (i := 4) rfl)
theorem tw269 : (Cond.selects RX9 yX9_valueAt yX9_valueAt) ∈ TT := tin_TT11 _ (List.mem_of_getElem? (i := 5) rfl)
theorem tw270 : (Cond.code yX9_valueAt cX9_valueAt 2 (some .long)) ∈ TT := tin_TT11 _ (List.mem_of_getElem? (i := 6) rfl)
theorem tw271 : (Cond.methodLink RX0 104 yX0_mnemonicOf) ∈ TT := tin_TT11 _ (List.mem_of_getElem? (i := 7) rfl)
theorem tw272 : (Cond.static yX0_mnemonicOf) ∈ TT := tin_TT11 _ (List.mem_of_getElem? (i := 8) rfl)
theorem tw273 : (Cond.code yX0_mnemonicOf cX0_mnemonicOf 3 (some .int)) ∈ TT := tin_TT11 _ (List.mem_of_getElem? (i := 9) rfl)
theorem tw274 : (Cond.fieldLink RX0 122 "TimedThreads$Mnemonic" "key" "J") ∈ TT := tin_TT11 _ (List.mem_of_getElem? (i := 10) rfl)
theorem tw275 : (Cond.methodLink RX0 108 yX0_readInstruction) ∈ TT := tin_TT11 _ (List.mem_of_getElem? (i := 11) rfl)
theorem tw276 : (Cond.instanceMethod yX0_readInstruction) ∈ TT := tin_TT11 _ (List.mem_of_getElem? (i := 12) rfl)
theorem tw277 : (Cond.selects RX0 yX0_readInstruction yX0_readInstruction) ∈ TT := tin_TT11 _ (List.mem_of_getElem? (i := 13) rfl)
theorem tw278 : (Cond.code yX0_readInstruction cX0_readInstruction 4 none) ∈ TT := tin_TT11 _ (List.mem_of_getElem? (i := 14) rfl)
theorem tw279 : (Cond.fieldLink RX0 127 "TimedThreads$Mnemonic" "bits" "I") ∈ TT := tin_TT11 _ (List.mem_of_getElem? (i := 15) rfl)
theorem tw280 : (Cond.fieldLink RX0 130 "TimedThreads$Mnemonic" "pieces" "Ljava/lang/String;") ∈ TT := tin_TT11 _ (List.mem_of_getElem? (i := 16) rfl)
theorem tw281 : (Cond.methodLink RX0 134 yJ0_length_8abf5) ∈ TT := tin_TT11 _ (List.mem_of_getElem? (i := 17) rfl)
theorem tw282 : (Cond.instanceMethod yJ0_length_8abf5) ∈ TT := tin_TT11 _ (List.mem_of_getElem? (i := 18) rfl)
theorem tw283 : (Cond.selects RJ0 yJ0_length_8abf5 yJ0_length_8abf5) ∈ TT := tin_TT11 _ (List.mem_of_getElem? (i := 19) rfl)
theorem tw284 : (Cond.initialized RJ0) ∈ TT := tin_TT11 _ (List.mem_of_getElem? (i := 20) rfl)
theorem tw285 : (Cond.code yJ0_length_8abf5 cJ0_length_8abf5 1 (some .int)) ∈ TT := tin_TT11 _ (List.mem_of_getElem? (i := 21) rfl)
theorem tw286 : (Cond.fieldLink RJ0 9 "java/lang/String" "value" "[B") ∈ TT := tin_TT11 _ (List.mem_of_getElem? (i := 22) rfl)
theorem tw287 : (Cond.methodLink RJ0 335 yJ0_coder_7d493) ∈ TT := tin_TT11 _ (List.mem_of_getElem? (i := 23) rfl)
theorem tw288 : (Cond.instanceMethod yJ0_coder_7d493) ∈ TT := tin_TT12 _ (List.mem_of_getElem? (i := 0) rfl)
theorem tw289 : (Cond.selects RJ0 yJ0_coder_7d493 yJ0_coder_7d493) ∈ TT := tin_TT12 _ (List.mem_of_getElem? (i := 1) rfl)
theorem tw290 : (Cond.code yJ0_coder_7d493 cJ0_coder_7d493 1 (some .byte)) ∈ TT := tin_TT12 _ (List.mem_of_getElem? (i := 2) rfl)
theorem tw291 : (Cond.fieldLink RJ0 38 "java/lang/String" "COMPACT_STRINGS" "Z") ∈ TT := tin_TT12 _ (List.mem_of_getElem? (i := 3) rfl)
theorem tw292 : (Cond.fieldLink RJ0 15 "java/lang/String" "coder" "B") ∈ TT := tin_TT12 _ (List.mem_of_getElem? (i := 4) rfl)
theorem tw293 : (Cond.methodLink RX0 139 yJ0_charAt_5068e) ∈ TT := tin_TT12 _ (List.mem_of_getElem? (i := 5) rfl)
theorem tw294 : (Cond.instanceMethod yJ0_charAt_5068e) ∈ TT := tin_TT12 _ (List.mem_of_getElem? (i := 6) rfl)
theorem tw295 : (Cond.selects RJ0 yJ0_charAt_5068e yJ0_charAt_5068e) ∈ TT := tin_TT12 _ (List.mem_of_getElem? (i := 7) rfl)
theorem tw296 : (Cond.code yJ0_charAt_5068e cJ0_charAt_5068e 2 (some .char)) ∈ TT := tin_TT12 _ (List.mem_of_getElem? (i := 8) rfl)
theorem tw297 : (Cond.methodLink RJ0 492 yJ0_isLatin1_aae02) ∈ TT := tin_TT12 _ (List.mem_of_getElem? (i := 9) rfl)
theorem tw298 : (Cond.instanceMethod yJ0_isLatin1_aae02) ∈ TT := tin_TT12 _ (List.mem_of_getElem? (i := 10) rfl)
theorem tw299 : (Cond.selects RJ0 yJ0_isLatin1_aae02 yJ0_isLatin1_aae02) ∈ TT := tin_TT12 _ (List.mem_of_getElem? (i := 11) rfl)
theorem tw300 : (Cond.code yJ0_isLatin1_aae02 cJ0_isLatin1_aae02 1 (some .boolean)) ∈ TT := tin_TT12 _ (List.mem_of_getElem? (i := 12) rfl)
theorem tw301 : (Cond.methodLink RJ0 495 yJ1_charAt_3b067) ∈ TT := tin_TT12 _ (List.mem_of_getElem? (i := 13) rfl)
theorem tw302 : (Cond.static yJ1_charAt_3b067) ∈ TT := tin_TT12 _ (List.mem_of_getElem? (i := 14) rfl)
theorem tw303 : (Cond.initialized RJ1) ∈ TT := tin_TT12 _ (List.mem_of_getElem? (i := 15) rfl)
theorem tw304 : (Cond.code yJ1_charAt_3b067 cJ1_charAt_3b067 2 (some .char)) ∈ TT := tin_TT12 _ (List.mem_of_getElem? (i := 16) rfl)
theorem tw305 : (Cond.methodLink RJ1 9 yJ0_checkIndex_df160) ∈ TT := tin_TT12 _ (List.mem_of_getElem? (i := 17) rfl)
theorem tw306 : (Cond.static yJ0_checkIndex_df160) ∈ TT := tin_TT12 _ (List.mem_of_getElem? (i := 18) rfl)
theorem tw307 : (Cond.code yJ0_checkIndex_df160 cJ0_checkIndex_df160 2 none) ∈ TT := tin_TT12 _ (List.mem_of_getElem? (i := 19) rfl)
theorem tw308 : (Cond.fieldLink RJ0 1053 "jdk/internal/util/Preconditions" "SIOOBE_FORMATTER" "Ljava/util/function/BiFunction;") ∈ TT := tin_TT12 _ (List.mem_of_getElem? (i := 20) rfl)
theorem tw309 : (Cond.methodLink RJ0 1059 yJ3_checkIndex_8e157) ∈ TT := tin_TT12 _ (List.mem_of_getElem? (i := 21) rfl)
theorem tw310 : (Cond.static yJ3_checkIndex_8e157) ∈ TT := tin_TT12 _ (List.mem_of_getElem? (i := 22) rfl)
theorem tw311 : (Cond.initialized RJ3) ∈ TT := tin_TT12 _ (List.mem_of_getElem? (i := 23) rfl)
theorem tw312 : (Cond.code yJ3_checkIndex_8e157 cJ3_checkIndex_8e157 3 (some .int)) ∈ TT := tin_TT13 _ (List.mem_of_getElem? (i := 0) rfl)
theorem tw313 : (Cond.methodLink RJ0 498 yJ2_charAt_3b067) ∈ TT := tin_TT13 _ (List.mem_of_getElem? (i := 1) rfl)
theorem tw314 : (Cond.static yJ2_charAt_3b067) ∈ TT := tin_TT13 _ (List.mem_of_getElem? (i := 2) rfl)
theorem tw315 : (Cond.initialized RJ2) ∈ TT := tin_TT13 _ (List.mem_of_getElem? (i := 3) rfl)
theorem tw316 : (Cond.code yJ2_charAt_3b067 cJ2_charAt_3b067 2 (some .char)) ∈ TT := tin_TT13 _ (List.mem_of_getElem? (i := 4) rfl)
theorem tw317 : (Cond.methodLink RJ2 67 yJ2_checkIndex_2214a) ∈ TT := tin_TT13 _ (List.mem_of_getElem? (i := 5) rfl)
theorem tw318 : (Cond.static yJ2_checkIndex_2214a) ∈ TT := tin_TT13 _ (List.mem_of_getElem? (i := 6) rfl)
theorem tw319 : (Cond.code yJ2_checkIndex_2214a cJ2_checkIndex_2214a 2 none) ∈ TT := tin_TT13 _ (List.mem_of_getElem? (i := 7) rfl)
theorem tw320 : (Cond.methodLink RJ2 48 yJ2_length_9d52b) ∈ TT := tin_TT13 _ (List.mem_of_getElem? (i := 8) rfl)
theorem tw321 : (Cond.static yJ2_length_9d52b) ∈ TT := tin_TT13 _ (List.mem_of_getElem? (i := 9) rfl)
theorem tw322 : (Cond.code yJ2_length_9d52b cJ2_length_9d52b 1 (some .int)) ∈ TT := tin_TT13 _ (List.mem_of_getElem? (i := 10) rfl)
theorem tw323 : (Cond.methodLink RJ2 414 yJ0_checkIndex_df160) ∈ TT := tin_TT13 _ (List.mem_of_getElem? (i := 11) rfl)
theorem tw324 : (Cond.methodLink RJ2 71 yJ2_getChar_3b067) ∈ TT := tin_TT13 _ (List.mem_of_getElem? (i := 12) rfl)
theorem tw325 : (Cond.static yJ2_getChar_3b067) ∈ TT := tin_TT13 _ (List.mem_of_getElem? (i := 13) rfl)
theorem tw326 : (Cond.code yJ2_getChar_3b067 cJ2_getChar_3b067 2 (some .char)) ∈ TT := tin_TT13 _ (List.mem_of_getElem? (i := 14) rfl)
theorem tw327 : (Cond.fieldLink RJ2 44 "java/lang/StringUTF16" "$assertionsDisabled" "Z") ∈ TT := tin_TT13 _ (List.mem_of_getElem? (i := 15) rfl)
theorem tw328 : (Cond.fieldLink RJ2 59 "java/lang/StringUTF16" "HI_BYTE_SHIFT" "I") ∈ TT := tin_TT13 _ (List.mem_of_getElem? (i := 16) rfl)
theorem tw329 : (Cond.fieldLink RJ2 63 "java/lang/StringUTF16" "LO_BYTE_SHIFT" "I") ∈ TT := tin_TT13 _ (List.mem_of_getElem? (i := 17) rfl)
theorem tw330 : (Cond.methodLink RX0 142 yX0_readPiece) ∈ TT := tin_TT13 _ (List.mem_of_getElem? (i := 18) rfl)
theorem tw331 : (Cond.instanceMethod yX0_readPiece) ∈ TT := tin_TT13 _ (List.mem_of_getElem? (i := 19) rfl)
theorem tw332 : (Cond.selects RX0 yX0_readPiece yX0_readPiece) ∈ TT := tin_TT13 _ (List.mem_of_getElem? (i := 20) rfl)
theorem tw333 : (Cond.code yX0_readPiece cX0_readPiece 5 none) ∈ TT := tin_TT13 _ (List.mem_of_getElem? (i := 21) rfl)
theorem tw334 : (Cond.methodLink RX0 146 yX0_kindOf) ∈ TT := tin_TT13 _ (List.mem_of_getElem? (i := 22) rfl)
theorem tw335 : (Cond.static yX0_kindOf) ∈ TT := tin_TT13 _ (List.mem_of_getElem? (i := 23) rfl)
theorem tw336 : (Cond.code yX0_kindOf cX0_kindOf 1 (some .char)) ∈ TT := tin_TT14 _ (List.mem_of_getElem? (i := 0) rfl)
theorem tw337 : (Cond.methodLink RX0 150 yX0_putPiece) ∈ TT := tin_TT14 _ (List.mem_of_getElem? (i := 1) rfl)
theorem tw338 : (Cond.instanceMethod yX0_putPiece) ∈ TT := tin_TT14 _ (List.mem_of_getElem? (i := 2) rfl)
theorem tw339 : (Cond.selects RX0 yX0_putPiece yX0_putPiece) ∈ TT := tin_TT14 _ (List.mem_of_getElem? (i := 3) rfl)
theorem tw340 : (Cond.code yX0_putPiece cX0_putPiece 4 none) ∈ TT := tin_TT14 _ (List.mem_of_getElem? (i := 4) rfl)
theorem tw341 : (Cond.constantLong RX0 154 (-2048)) ∈ TT := tin_TT14 _ (List.mem_of_getElem? (i := 5) rfl)
theorem tw342 : (Cond.constantLong RX0 156 (2047)) ∈ TT := tin_TT14 _ (List.mem_of_getElem? (i := 6) rfl)
theorem tw343 : (Cond.constantLong RX0 167 (31)) ∈ TT := tin_TT14 _ (List.mem_of_getElem? (i := 7) rfl)
theorem tw344 : (Cond.constantLong RX0 169 (1048575)) ∈ TT := tin_TT14 _ (List.mem_of_getElem? (i := 8) rfl)
theorem tw345 : (Cond.constantLong RX0 171 (3)) ∈ TT := tin_TT14 _ (List.mem_of_getElem? (i := 9) rfl)
theorem tw346 : (Cond.constantLong RX0 173 (-2147483648)) ∈ TT := tin_TT14 _ (List.mem_of_getElem? (i := 10) rfl)
theorem tw347 : (Cond.constantLong RX0 175 (4294967295)) ∈ TT := tin_TT14 _ (List.mem_of_getElem? (i := 11) rfl)
theorem tw348 : (Cond.constantLong RX0 181 (-4096)) ∈ TT := tin_TT14 _ (List.mem_of_getElem? (i := 12) rfl)
theorem tw349 : (Cond.constantLong RX0 183 (4094)) ∈ TT := tin_TT14 _ (List.mem_of_getElem? (i := 13) rfl)
theorem tw350 : (Cond.constantLong RX0 188 (-1048576)) ∈ TT := tin_TT14 _ (List.mem_of_getElem? (i := 14) rfl)
theorem tw351 : (Cond.constantLong RX0 190 (1048574)) ∈ TT := tin_TT14 _ (List.mem_of_getElem? (i := 15) rfl)
theorem tw352 : (Cond.methodLink RX0 158 yX0_fitted) ∈ TT := tin_TT14 _ (List.mem_of_getElem? (i := 16) rfl)
theorem tw353 : (Cond.instanceMethod yX0_fitted) ∈ TT := tin_TT14 _ (List.mem_of_getElem? (i := 17) rfl)
theorem tw354 : (Cond.selects RX0 yX0_fitted yX0_fitted) ∈ TT := tin_TT14 _ (List.mem_of_getElem? (i := 18) rfl)
theorem tw355 : (Cond.code yX0_fitted cX0_fitted 7 (some .int)) ∈ TT := tin_TT14 _ (List.mem_of_getElem? (i := 19) rfl)
theorem tw356 : (Cond.methodLink RX0 162 yX1_bitsOfS) ∈ TT := tin_TT14 _ (List.mem_of_getElem? (i := 20) rfl)
theorem tw357 : (Cond.static yX1_bitsOfS) ∈ TT := tin_TT14 _ (List.mem_of_getElem? (i := 21) rfl)
theorem tw358 : (Cond.initialized RX1) ∈ TT := tin_TT14 _ (List.mem_of_getElem? (i := 22) rfl)
theorem tw359 : (Cond.code yX1_bitsOfS cX1_bitsOfS 1 (some .int)) ∈ TT := tin_TT14 _ (List.mem_of_getElem? (i := 23) rfl)
theorem tw360 : (Cond.methodLink RX0 177 yX0_noteOdd) ∈ TT := tin_TT15 _ (List.mem_of_getElem? (i := 0) rfl)
theorem tw361 : (Cond.instanceMethod yX0_noteOdd) ∈ TT := tin_TT15 _ (List.mem_of_getElem? (i := 1) rfl)
theorem tw362 : (Cond.selects RX0 yX0_noteOdd yX0_noteOdd) ∈ TT := tin_TT15 _ (List.mem_of_getElem? (i := 2) rfl)
theorem tw363 : (Cond.code yX0_noteOdd cX0_noteOdd 3 none) ∈ TT := tin_TT15 _ (List.mem_of_getElem? (i := 3) rfl)
theorem tw364 : (Cond.methodLink RX0 185 yX1_bitsOfB) ∈ TT := tin_TT15 _ (List.mem_of_getElem? (i := 4) rfl)
theorem tw365 : (Cond.static yX1_bitsOfB) ∈ TT := tin_TT15 _ (List.mem_of_getElem? (i := 5) rfl)
theorem tw366 : (Cond.code yX1_bitsOfB cX1_bitsOfB 1 (some .int)) ∈ TT := tin_TT15 _ (List.mem_of_getElem? (i := 6) rfl)
theorem tw367 : (Cond.methodLink RX0 192 yX1_bitsOfJ) ∈ TT := tin_TT15 _ (List.mem_of_getElem? (i := 7) rfl)
theorem tw368 : (Cond.static yX1_bitsOfJ) ∈ TT := tin_TT15 _ (List.mem_of_getElem? (i := 8) rfl)
theorem tw369 : (Cond.code yX1_bitsOfJ cX1_bitsOfJ 1 (some .int)) ∈ TT := tin_TT15 _ (List.mem_of_getElem? (i := 9) rfl)
theorem tw370 : (Cond.constant RX1 15 (1044480)) ∈ TT := tin_TT15 _ (List.mem_of_getElem? (i := 10) rfl)
theorem tw371 : (Cond.methodLink RX0 61 yX0_faultOfLine) ∈ TT := tin_TT15 _ (List.mem_of_getElem? (i := 11) rfl)
theorem tw372 : (Cond.instanceMethod yX0_faultOfLine) ∈ TT := tin_TT15 _ (List.mem_of_getElem? (i := 12) rfl)
theorem tw373 : (Cond.selects RX0 yX0_faultOfLine yX0_faultOfLine) ∈ TT := tin_TT15 _ (List.mem_of_getElem? (i := 13) rfl)
theorem tw374 : (Cond.code yX0_faultOfLine cX0_faultOfLine 2 (some .int)) ∈ TT := tin_TT15 _ (List.mem_of_getElem? (i := 14) rfl)
theorem tw375 : (Cond.methodLink RX0 111 yX3_find) ∈ TT := tin_TT15 _ (List.mem_of_getElem? (i := 15) rfl)
theorem tw376 : (Cond.instanceMethod yX3_find) ∈ TT := tin_TT15 _ (List.mem_of_getElem? (i := 16) rfl)
theorem tw377 : (Cond.selects RX3 yX3_find yX3_find) ∈ TT := tin_TT15 _ (List.mem_of_getElem? (i := 17) rfl)
theorem tw378 : (Cond.code yX3_find cX3_find 4 (some .int)) ∈ TT := tin_TT15 _ (List.mem_of_getElem? (i := 18) rfl)
theorem tw379 : (Cond.fieldLink RX3 19 "TimedThreads$Labels" "count" "I") ∈ TT := tin_TT15 _ (List.mem_of_getElem? (i := 19) rfl)
theorem tw380 : (Cond.methodLink RX0 65 yX0_setFault) ∈ TT := tin_TT15 _ (List.mem_of_getElem? (i := 20) rfl)
theorem tw381 : (Cond.instanceMethod yX0_setFault) ∈ TT := tin_TT15 _ (List.mem_of_getElem? (i := 21) rfl)
theorem tw382 : (Cond.selects RX0 yX0_setFault yX0_setFault) ∈ TT := tin_TT15 _ (List.mem_of_getElem? (i := 22) rfl)
theorem tw383 : (Cond.code yX0_setFault cX0_setFault 3 none) ∈ TT := tin_TT15 _ (List.mem_of_getElem? (i := 23) rfl)
theorem tw384 : (Cond.methodLink RX0 69 yX0_keepLine) ∈ TT := tin_TT16 _ (List.mem_of_getElem? (i := 0) rfl)
theorem tw385 : (Cond.instanceMethod yX0_keepLine) ∈ TT := tin_TT16 _ (List.mem_of_getElem? (i := 1) rfl)
theorem tw386 : (Cond.selects RX0 yX0_keepLine yX0_keepLine) ∈ TT := tin_TT16 _ (List.mem_of_getElem? (i := 2) rfl)
theorem tw387 : (Cond.code yX0_keepLine cX0_keepLine 2 none) ∈ TT := tin_TT16 _ (List.mem_of_getElem? (i := 3) rfl)
theorem tw388 : (Cond.methodLink RX0 114 yX3_add) ∈ TT := tin_TT16 _ (List.mem_of_getElem? (i := 4) rfl)
theorem tw389 : (Cond.instanceMethod yX3_add) ∈ TT := tin_TT16 _ (List.mem_of_getElem? (i := 5) rfl)
theorem tw390 : (Cond.selects RX3 yX3_add yX3_add) ∈ TT := tin_TT16 _ (List.mem_of_getElem? (i := 6) rfl)
theorem tw391 : (Cond.code yX3_add cX3_add 4 none) ∈ TT := tin_TT16 _ (List.mem_of_getElem? (i := 7) rfl)
theorem tw392 : (Cond.methodLink RX0 73 yX0_resolveTargets) ∈ TT := tin_TT16 _ (List.mem_of_getElem? (i := 8) rfl)
theorem tw393 : (Cond.instanceMethod yX0_resolveTargets) ∈ TT := tin_TT16 _ (List.mem_of_getElem? (i := 9) rfl)
theorem tw394 : (Cond.selects RX0 yX0_resolveTargets yX0_resolveTargets) ∈ TT := tin_TT16 _ (List.mem_of_getElem? (i := 10) rfl)
theorem tw395 : (Cond.code yX0_resolveTargets cX0_resolveTargets 5 none) ∈ TT := tin_TT16 _ (List.mem_of_getElem? (i := 11) rfl)
theorem tw396 : (Cond.methodLink RX0 195 yX1_op) ∈ TT := tin_TT16 _ (List.mem_of_getElem? (i := 12) rfl)
theorem tw397 : (Cond.static yX1_op) ∈ TT := tin_TT16 _ (List.mem_of_getElem? (i := 13) rfl)
theorem tw398 : (Cond.code yX1_op cX1_op 1 (some .int)) ∈ TT := tin_TT16 _ (List.mem_of_getElem? (i := 14) rfl)
theorem tw399 : (Cond.methodLink RL 52 yX11_assemble) ∈ TT := tin_TT16 _ (List.mem_of_getElem? (i := 15) rfl)
theorem tw400 : (Cond.instanceMethod yX11_assemble) ∈ TT := tin_TT16 _ (List.mem_of_getElem? (i := 16) rfl)
theorem tw401 : (Cond.selects RX11 yX11_assemble yX11_assemble) ∈ TT := tin_TT16 _ (List.mem_of_getElem? (i := 17) rfl)
theorem tw402 : (Cond.code yX11_assemble cX11_assemble 5 (some .int)) ∈ TT := tin_TT16 _ (List.mem_of_getElem? (i := 18) rfl)
theorem tw403 : (Cond.fieldLink RX11 88 "TimedThreadsModel" "at" "I") ∈ TT := tin_TT16 _ (List.mem_of_getElem? (i := 19) rfl)
theorem tw404 : (Cond.fieldLink RX11 205 "TimedThreadsModel" "line" "I") ∈ TT := tin_TT16 _ (List.mem_of_getElem? (i := 20) rfl)
theorem tw405 : (Cond.fieldLink RX11 202 "TimedThreadsModel" "words" "I") ∈ TT := tin_TT16 _ (List.mem_of_getElem? (i := 21) rfl)
theorem tw406 : (Cond.fieldLink RX11 256 "TimedThreadsModel" "labels" "I") ∈ TT := tin_TT16 _ (List.mem_of_getElem? (i := 22) rfl)
theorem tw407 : (Cond.fieldLink RX11 199 "TimedThreadsModel" "targets" "I") ∈ TT := tin_TT16 _ (List.mem_of_getElem? (i := 23) rfl)
theorem tw408 : (Cond.fieldLink RX11 273 "TimedThreadsModel" "fault" "I") ∈ TT := tin_TT17 _ (List.mem_of_getElem? (i := 0) rfl)
theorem tw409 : (Cond.fieldLink RX11 276 "TimedThreadsModel" "faultLine" "I") ∈ TT := tin_TT17 _ (List.mem_of_getElem? (i := 1) rfl)
theorem tw410 : (Cond.methodLink RX11 279 yX11_refuse) ∈ TT := tin_TT17 _ (List.mem_of_getElem? (i := 2) rfl)
theorem tw411 : (Cond.instanceMethod yX11_refuse) ∈ TT := tin_TT17 _ (List.mem_of_getElem? (i := 3) rfl)
theorem tw412 : (Cond.selects RX11 yX11_refuse yX11_refuse) ∈ TT := tin_TT17 _ (List.mem_of_getElem? (i := 4) rfl)
theorem tw413 : (Cond.code yX11_refuse cX11_refuse 2 (some .int)) ∈ TT := tin_TT17 _ (List.mem_of_getElem? (i := 5) rfl)
theorem tw414 : (Cond.methodLink RX11 282 yX11_takeLine) ∈ TT := tin_TT17 _ (List.mem_of_getElem? (i := 6) rfl)
theorem tw415 : (Cond.instanceMethod yX11_takeLine) ∈ TT := tin_TT17 _ (List.mem_of_getElem? (i := 7) rfl)
theorem tw416 : (Cond.selects RX11 yX11_takeLine yX11_takeLine) ∈ TT := tin_TT17 _ (List.mem_of_getElem? (i := 8) rfl)
theorem tw417 : (Cond.code yX11_takeLine cX11_takeLine 10 none) ∈ TT := tin_TT17 _ (List.mem_of_getElem? (i := 9) rfl)
theorem tw418 : (Cond.fieldLink RX11 102 "TimedThreadsModel" "wrong" "Z") ∈ TT := tin_TT17 _ (List.mem_of_getElem? (i := 10) rfl)
theorem tw419 : (Cond.fieldLink RX11 111 "TimedThreadsModel" "unfit" "Z") ∈ TT := tin_TT17 _ (List.mem_of_getElem? (i := 11) rfl)
theorem tw420 : (Cond.methodLink RX11 95 yX11_skip) ∈ TT := tin_TT17 _ (List.mem_of_getElem? (i := 12) rfl)
theorem tw421 : (Cond.instanceMethod yX11_skip) ∈ TT := tin_TT17 _ (List.mem_of_getElem? (i := 13) rfl)
theorem tw422 : (Cond.selects RX11 yX11_skip yX11_skip) ∈ TT := tin_TT17 _ (List.mem_of_getElem? (i := 14) rfl)
theorem tw423 : (Cond.code yX11_skip cX11_skip 1 none) ∈ TT := tin_TT17 _ (List.mem_of_getElem? (i := 15) rfl)
theorem tw424 : (Cond.methodLink RX11 91 yX11_character) ∈ TT := tin_TT17 _ (List.mem_of_getElem? (i := 16) rfl)
theorem tw425 : (Cond.instanceMethod yX11_character) ∈ TT := tin_TT17 _ (List.mem_of_getElem? (i := 17) rfl)
theorem tw426 : (Cond.selects RX11 yX11_character yX11_character) ∈ TT := tin_TT17 _ (List.mem_of_getElem? (i := 18) rfl)
theorem tw427 : (Cond.code yX11_character cX11_character 2 (some .int)) ∈ TT := tin_TT17 _ (List.mem_of_getElem? (i := 19) rfl)
theorem tw428 : (Cond.methodLink RX11 195 yX11_letters) ∈ TT := tin_TT17 _ (List.mem_of_getElem? (i := 20) rfl)
theorem tw429 : (Cond.instanceMethod yX11_letters) ∈ TT := tin_TT17 _ (List.mem_of_getElem? (i := 21) rfl)
theorem tw430 : (Cond.selects RX11 yX11_letters yX11_letters) ∈ TT := tin_TT17 _ (List.mem_of_getElem? (i := 22) rfl)
theorem tw431 : (Cond.code yX11_letters cX11_letters 4 (some .long)) ∈ TT := tin_TT17 _ (List.mem_of_getElem? (i := 23) rfl)
theorem tw432 : (Cond.methodLink RX11 98 yX11_isLetter) ∈ TT := tin_TT18 _ (List.mem_of_getElem? (i := 0) rfl)
theorem tw433 : (Cond.static yX11_isLetter) ∈ TT := tin_TT18 _ (List.mem_of_getElem? (i := 1) rfl)
theorem tw434 : (Cond.code yX11_isLetter cX11_isLetter 1 (some .boolean)) ∈ TT := tin_TT18 _ (List.mem_of_getElem? (i := 2) rfl)
theorem tw435 : (Cond.methodLink RX11 259 yX11_labelOf) ∈ TT := tin_TT18 _ (List.mem_of_getElem? (i := 3) rfl)
theorem tw436 : (Cond.instanceMethod yX11_labelOf) ∈ TT := tin_TT18 _ (List.mem_of_getElem? (i := 4) rfl)
theorem tw437 : (Cond.selects RX11 yX11_labelOf yX11_labelOf) ∈ TT := tin_TT18 _ (List.mem_of_getElem? (i := 5) rfl)
theorem tw438 : (Cond.code yX11_labelOf cX11_labelOf 5 (some .int)) ∈ TT := tin_TT18 _ (List.mem_of_getElem? (i := 6) rfl)
theorem tw439 : (Cond.methodLink RX11 263 yX11_lookup) ∈ TT := tin_TT18 _ (List.mem_of_getElem? (i := 7) rfl)
theorem tw440 : (Cond.static yX11_lookup) ∈ TT := tin_TT18 _ (List.mem_of_getElem? (i := 8) rfl)
theorem tw441 : (Cond.code yX11_lookup cX11_lookup 2 (some .int)) ∈ TT := tin_TT18 _ (List.mem_of_getElem? (i := 9) rfl)
theorem tw442 : (Cond.constantLong RX11 114 (6911340)) ∈ TT := tin_TT18 _ (List.mem_of_getElem? (i := 10) rfl)
theorem tw443 : (Cond.constantLong RX11 116 (7102826)) ∈ TT := tin_TT18 _ (List.mem_of_getElem? (i := 11) rfl)
theorem tw444 : (Cond.constantLong RX11 118 (1919705450)) ∈ TT := tin_TT18 _ (List.mem_of_getElem? (i := 12) rfl)
theorem tw445 : (Cond.constantLong RX11 120 (7431522)) ∈ TT := tin_TT18 _ (List.mem_of_getElem? (i := 13) rfl)
theorem tw446 : (Cond.constantLong RX11 122 (6647394)) ∈ TT := tin_TT18 _ (List.mem_of_getElem? (i := 14) rfl)
theorem tw447 : (Cond.constantLong RX11 124 (7629922)) ∈ TT := tin_TT18 _ (List.mem_of_getElem? (i := 15) rfl)
theorem tw448 : (Cond.constantLong RX11 126 (6645602)) ∈ TT := tin_TT18 _ (List.mem_of_getElem? (i := 16) rfl)
theorem tw449 : (Cond.constantLong RX11 128 (1970564194)) ∈ TT := tin_TT18 _ (List.mem_of_getElem? (i := 17) rfl)
theorem tw450 : (Cond.constantLong RX11 130 (1969579874)) ∈ TT := tin_TT18 _ (List.mem_of_getElem? (i := 18) rfl)
theorem tw451 : (Cond.constantLong RX11 132 (30572)) ∈ TT := tin_TT18 _ (List.mem_of_getElem? (i := 19) rfl)
theorem tw452 : (Cond.constantLong RX11 134 (25196)) ∈ TT := tin_TT18 _ (List.mem_of_getElem? (i := 20) rfl)
theorem tw453 : (Cond.constantLong RX11 136 (7692908)) ∈ TT := tin_TT18 _ (List.mem_of_getElem? (i := 21) rfl)
theorem tw454 : (Cond.constantLong RX11 138 (30579)) ∈ TT := tin_TT18 _ (List.mem_of_getElem? (i := 22) rfl)
theorem tw455 : (Cond.constantLong RX11 140 (25203)) ∈ TT := tin_TT18 _ (List.mem_of_getElem? (i := 23) rfl)
theorem tw456 : (Cond.constantLong RX11 142 (1768186977)) ∈ TT := tin_TT19 _ (List.mem_of_getElem? (i := 0) rfl)
theorem tw457 : (Cond.constantLong RX11 144 (1769237619)) ∈ TT := tin_TT19 _ (List.mem_of_getElem? (i := 1) rfl)
theorem tw458 : (Cond.constantLong RX11 146 (504280411251)) ∈ TT := tin_TT19 _ (List.mem_of_getElem? (i := 2) rfl)
theorem tw459 : (Cond.constantLong RX11 148 (1769107320)) ∈ TT := tin_TT19 _ (List.mem_of_getElem? (i := 3) rfl)
theorem tw460 : (Cond.constantLong RX11 150 (6910575)) ∈ TT := tin_TT19 _ (List.mem_of_getElem? (i := 4) rfl)
theorem tw461 : (Cond.constantLong RX11 152 (1768189537)) ∈ TT := tin_TT19 _ (List.mem_of_getElem? (i := 5) rfl)
theorem tw462 : (Cond.constantLong RX11 154 (1768713331)) ∈ TT := tin_TT19 _ (List.mem_of_getElem? (i := 6) rfl)
theorem tw463 : (Cond.constantLong RX11 156 (1768714867)) ∈ TT := tin_TT19 _ (List.mem_of_getElem? (i := 7) rfl)
theorem tw464 : (Cond.constantLong RX11 158 (1767993971)) ∈ TT := tin_TT19 _ (List.mem_of_getElem? (i := 8) rfl)
theorem tw465 : (Cond.constant RX11 160 (534840)) ∈ TT := tin_TT19 _ (List.mem_of_getElem? (i := 9) rfl)
theorem tw466 : (Cond.constantLong RX11 161 (6579297)) ∈ TT := tin_TT19 _ (List.mem_of_getElem? (i := 10) rfl)
theorem tw467 : (Cond.constantLong RX11 163 (7105651)) ∈ TT := tin_TT19 _ (List.mem_of_getElem? (i := 11) rfl)
theorem tw468 : (Cond.constantLong RX11 165 (7629939)) ∈ TT := tin_TT19 _ (List.mem_of_getElem? (i := 12) rfl)
theorem tw469 : (Cond.constantLong RX11 167 (1970564211)) ∈ TT := tin_TT19 _ (List.mem_of_getElem? (i := 13) rfl)
theorem tw470 : (Cond.constantLong RX11 169 (7499640)) ∈ TT := tin_TT19 _ (List.mem_of_getElem? (i := 14) rfl)
theorem tw471 : (Cond.constantLong RX11 171 (7107187)) ∈ TT := tin_TT19 _ (List.mem_of_getElem? (i := 15) rfl)
theorem tw472 : (Cond.constantLong RX11 173 (29295)) ∈ TT := tin_TT19 _ (List.mem_of_getElem? (i := 16) rfl)
theorem tw473 : (Cond.constantLong RX11 175 (6581857)) ∈ TT := tin_TT19 _ (List.mem_of_getElem? (i := 17) rfl)
theorem tw474 : (Cond.constantLong RX11 177 (6452595)) ∈ TT := tin_TT19 _ (List.mem_of_getElem? (i := 18) rfl)
theorem tw475 : (Cond.constant RX11 179 (525105)) ∈ TT := tin_TT19 _ (List.mem_of_getElem? (i := 19) rfl)
theorem tw476 : (Cond.constantLong RX11 180 (6386291)) ∈ TT := tin_TT19 _ (List.mem_of_getElem? (i := 20) rfl)
theorem tw477 : (Cond.constant RX11 182 (535345)) ∈ TT := tin_TT19 _ (List.mem_of_getElem? (i := 21) rfl)
theorem tw478 : (Cond.constantLong RX11 183 (1684104548)) ∈ TT := tin_TT19 _ (List.mem_of_getElem? (i := 22) rfl)
theorem tw479 : (Cond.constantLong RX11 185 (435610155363)) ∈ TT := tin_TT19 _ (List.mem_of_getElem? (i := 23) rfl)
theorem tw480 : (Cond.constantLong RX11 187 (1953259880)) ∈ TT := tin_TT20 _ (List.mem_of_getElem? (i := 0) rfl)
theorem tw481 : (Cond.constantLong RX11 189 (1685221239)) ∈ TT := tin_TT20 _ (List.mem_of_getElem? (i := 1) rfl)
theorem tw482 : (Cond.methodLink RX11 266 yX11_operands) ∈ TT := tin_TT20 _ (List.mem_of_getElem? (i := 2) rfl)
theorem tw483 : (Cond.instanceMethod yX11_operands) ∈ TT := tin_TT20 _ (List.mem_of_getElem? (i := 3) rfl)
theorem tw484 : (Cond.selects RX11 yX11_operands yX11_operands) ∈ TT := tin_TT20 _ (List.mem_of_getElem? (i := 4) rfl)
theorem tw485 : (Cond.code yX11_operands cX11_operands 6 (some .int)) ∈ TT := tin_TT20 _ (List.mem_of_getElem? (i := 5) rfl)
theorem tw486 : (Cond.constantLong RX11 232 (31)) ∈ TT := tin_TT20 _ (List.mem_of_getElem? (i := 6) rfl)
theorem tw487 : (Cond.constantLong RX11 234 (-2048)) ∈ TT := tin_TT20 _ (List.mem_of_getElem? (i := 7) rfl)
theorem tw488 : (Cond.constantLong RX11 236 (2047)) ∈ TT := tin_TT20 _ (List.mem_of_getElem? (i := 8) rfl)
theorem tw489 : (Cond.constantLong RX11 248 (1048575)) ∈ TT := tin_TT20 _ (List.mem_of_getElem? (i := 9) rfl)
theorem tw490 : (Cond.constantLong RX11 250 (3)) ∈ TT := tin_TT20 _ (List.mem_of_getElem? (i := 10) rfl)
theorem tw491 : (Cond.constantLong RX11 252 (-2147483648)) ∈ TT := tin_TT20 _ (List.mem_of_getElem? (i := 11) rfl)
theorem tw492 : (Cond.constantLong RX11 254 (4294967295)) ∈ TT := tin_TT20 _ (List.mem_of_getElem? (i := 12) rfl)
theorem tw493 : (Cond.methodLink RX11 228 yX11_pair) ∈ TT := tin_TT20 _ (List.mem_of_getElem? (i := 13) rfl)
theorem tw494 : (Cond.instanceMethod yX11_pair) ∈ TT := tin_TT20 _ (List.mem_of_getElem? (i := 14) rfl)
theorem tw495 : (Cond.selects RX11 yX11_pair yX11_pair) ∈ TT := tin_TT20 _ (List.mem_of_getElem? (i := 15) rfl)
theorem tw496 : (Cond.code yX11_pair cX11_pair 5 (some .int)) ∈ TT := tin_TT20 _ (List.mem_of_getElem? (i := 16) rfl)
theorem tw497 : (Cond.methodLink RX11 220 yX11_takeRegister) ∈ TT := tin_TT20 _ (List.mem_of_getElem? (i := 17) rfl)
theorem tw498 : (Cond.instanceMethod yX11_takeRegister) ∈ TT := tin_TT20 _ (List.mem_of_getElem? (i := 18) rfl)
theorem tw499 : (Cond.selects RX11 yX11_takeRegister yX11_takeRegister) ∈ TT := tin_TT20 _ (List.mem_of_getElem? (i := 19) rfl)
theorem tw500 : (Cond.code yX11_takeRegister cX11_takeRegister 2 (some .int)) ∈ TT := tin_TT20 _ (List.mem_of_getElem? (i := 20) rfl)
theorem tw501 : (Cond.methodLink RX11 106 yX11_isDigit) ∈ TT := tin_TT20 _ (List.mem_of_getElem? (i := 21) rfl)
theorem tw502 : (Cond.static yX11_isDigit) ∈ TT := tin_TT20 _ (List.mem_of_getElem? (i := 22) rfl)
theorem tw503 : (Cond.code yX11_isDigit cX11_isDigit 1 (some .boolean)) ∈ TT := tin_TT20 _ (List.mem_of_getElem? (i := 23) rfl)
theorem tw504 : (Cond.methodLink RX11 224 yX11_need) ∈ TT := tin_TT21 _ (List.mem_of_getElem? (i := 0) rfl)
theorem tw505 : (Cond.instanceMethod yX11_need) ∈ TT := tin_TT21 _ (List.mem_of_getElem? (i := 1) rfl)
theorem tw506 : (Cond.selects RX11 yX11_need yX11_need) ∈ TT := tin_TT21 _ (List.mem_of_getElem? (i := 2) rfl)
theorem tw507 : (Cond.code yX11_need cX11_need 2 none) ∈ TT := tin_TT21 _ (List.mem_of_getElem? (i := 3) rfl)
theorem tw508 : (Cond.methodLink RX11 210 yX11_number) ∈ TT := tin_TT21 _ (List.mem_of_getElem? (i := 4) rfl)
theorem tw509 : (Cond.instanceMethod yX11_number) ∈ TT := tin_TT21 _ (List.mem_of_getElem? (i := 5) rfl)
theorem tw510 : (Cond.selects RX11 yX11_number yX11_number) ∈ TT := tin_TT21 _ (List.mem_of_getElem? (i := 6) rfl)
theorem tw511 : (Cond.code yX11_number cX11_number 10 (some .long)) ∈ TT := tin_TT21 _ (List.mem_of_getElem? (i := 7) rfl)
theorem tw512 : (Cond.constantLong RX11 109 (48)) ∈ TT := tin_TT21 _ (List.mem_of_getElem? (i := 8) rfl)
theorem tw513 : (Cond.methodLink RX11 238 yX11_immediate) ∈ TT := tin_TT21 _ (List.mem_of_getElem? (i := 9) rfl)
theorem tw514 : (Cond.static yX11_immediate) ∈ TT := tin_TT21 _ (List.mem_of_getElem? (i := 10) rfl)
theorem tw515 : (Cond.code yX11_immediate cX11_immediate 1 (some .int)) ∈ TT := tin_TT21 _ (List.mem_of_getElem? (i := 11) rfl)
theorem tw516 : (Cond.methodLink RX11 241 yX11_storing) ∈ TT := tin_TT21 _ (List.mem_of_getElem? (i := 12) rfl)
theorem tw517 : (Cond.static yX11_storing) ∈ TT := tin_TT21 _ (List.mem_of_getElem? (i := 13) rfl)
theorem tw518 : (Cond.code yX11_storing cX11_storing 1 (some .int)) ∈ TT := tin_TT21 _ (List.mem_of_getElem? (i := 14) rfl)
theorem tw519 : (Cond.methodLink RX11 244 yX11_distance) ∈ TT := tin_TT21 _ (List.mem_of_getElem? (i := 15) rfl)
theorem tw520 : (Cond.instanceMethod yX11_distance) ∈ TT := tin_TT21 _ (List.mem_of_getElem? (i := 16) rfl)
theorem tw521 : (Cond.selects RX11 yX11_distance yX11_distance) ∈ TT := tin_TT21 _ (List.mem_of_getElem? (i := 17) rfl)
theorem tw522 : (Cond.code yX11_distance cX11_distance 6 (some .int)) ∈ TT := tin_TT21 _ (List.mem_of_getElem? (i := 18) rfl)
theorem tw523 : (Cond.constantLong RX11 191 (1048574)) ∈ TT := tin_TT21 _ (List.mem_of_getElem? (i := 19) rfl)
theorem tw524 : (Cond.constantLong RX11 193 (4094)) ∈ TT := tin_TT21 _ (List.mem_of_getElem? (i := 20) rfl)
theorem tw525 : (Cond.constantLong RX11 208 (2)) ∈ TT := tin_TT21 _ (List.mem_of_getElem? (i := 21) rfl)
theorem tw526 : (Cond.methodLink RX11 214 yX11_jumping) ∈ TT := tin_TT21 _ (List.mem_of_getElem? (i := 22) rfl)
theorem tw527 : (Cond.static yX11_jumping) ∈ TT := tin_TT21 _ (List.mem_of_getElem? (i := 23) rfl)
theorem tw528 : (Cond.code yX11_jumping cX11_jumping 1 (some .int)) ∈ TT := tin_TT22 _ (List.mem_of_getElem? (i := 0) rfl)
theorem tw529 : (Cond.methodLink RX11 217 yX11_branching) ∈ TT := tin_TT22 _ (List.mem_of_getElem? (i := 1) rfl)
theorem tw530 : (Cond.static yX11_branching) ∈ TT := tin_TT22 _ (List.mem_of_getElem? (i := 2) rfl)
theorem tw531 : (Cond.code yX11_branching cX11_branching 1 (some .int)) ∈ TT := tin_TT22 _ (List.mem_of_getElem? (i := 3) rfl)
theorem tw532 : (Cond.methodLink RX11 269 yX11_isEnd) ∈ TT := tin_TT22 _ (List.mem_of_getElem? (i := 4) rfl)
theorem tw533 : (Cond.instanceMethod yX11_isEnd) ∈ TT := tin_TT22 _ (List.mem_of_getElem? (i := 5) rfl)
theorem tw534 : (Cond.selects RX11 yX11_isEnd yX11_isEnd) ∈ TT := tin_TT22 _ (List.mem_of_getElem? (i := 6) rfl)
theorem tw535 : (Cond.code yX11_isEnd cX11_isEnd 1 (some .boolean)) ∈ TT := tin_TT22 _ (List.mem_of_getElem? (i := 7) rfl)
theorem tw536 : (Cond.methodLink RX11 285 yX11_link) ∈ TT := tin_TT22 _ (List.mem_of_getElem? (i := 8) rfl)
theorem tw537 : (Cond.instanceMethod yX11_link) ∈ TT := tin_TT22 _ (List.mem_of_getElem? (i := 9) rfl)
theorem tw538 : (Cond.selects RX11 yX11_link yX11_link) ∈ TT := tin_TT22 _ (List.mem_of_getElem? (i := 10) rfl)
theorem tw539 : (Cond.code yX11_link cX11_link 7 none) ∈ TT := tin_TT22 _ (List.mem_of_getElem? (i := 11) rfl)
theorem tw540 : (Cond.methodLink RL 53 yX10_fault) ∈ TT := tin_TT22 _ (List.mem_of_getElem? (i := 12) rfl)
theorem tw541 : (Cond.instanceMethod yX10_fault) ∈ TT := tin_TT22 _ (List.mem_of_getElem? (i := 13) rfl)
theorem tw542 : (Cond.selects RX10 yX10_fault yX10_fault) ∈ TT := tin_TT22 _ (List.mem_of_getElem? (i := 14) rfl)
theorem tw543 : (Cond.code yX10_fault cX10_fault 2 (some .int)) ∈ TT := tin_TT22 _ (List.mem_of_getElem? (i := 15) rfl)
theorem tw544 : (Cond.fieldLink RX10 96 "TimedThreads$Assembler" "faultLine" "I") ∈ TT := tin_TT22 _ (List.mem_of_getElem? (i := 16) rfl)
theorem tw545 : (Cond.methodLink RL 57 yX11_fault) ∈ TT := tin_TT22 _ (List.mem_of_getElem? (i := 17) rfl)
theorem tw546 : (Cond.instanceMethod yX11_fault) ∈ TT := tin_TT22 _ (List.mem_of_getElem? (i := 18) rfl)
theorem tw547 : (Cond.selects RX11 yX11_fault yX11_fault) ∈ TT := tin_TT22 _ (List.mem_of_getElem? (i := 19) rfl)
theorem tw548 : (Cond.code yX11_fault cX11_fault 2 (some .int)) ∈ TT := tin_TT22 _ (List.mem_of_getElem? (i := 20) rfl)
theorem tw549 : (Cond.methodLink RL 58 yX10_peek) ∈ TT := tin_TT22 _ (List.mem_of_getElem? (i := 21) rfl)
theorem tw550 : (Cond.instanceMethod yX10_peek) ∈ TT := tin_TT22 _ (List.mem_of_getElem? (i := 22) rfl)
theorem tw551 : (Cond.selects RX10 yX10_peek yX10_peek) ∈ TT := tin_TT22 _ (List.mem_of_getElem? (i := 23) rfl)
theorem tw552 : (Cond.code yX10_peek cX10_peek 3 (some .int)) ∈ TT := tin_TT23 _ (List.mem_of_getElem? (i := 0) rfl)
theorem tw553 : (Cond.methodLink RL 61 yX11_peek) ∈ TT := tin_TT23 _ (List.mem_of_getElem? (i := 1) rfl)
theorem tw554 : (Cond.instanceMethod yX11_peek) ∈ TT := tin_TT23 _ (List.mem_of_getElem? (i := 2) rfl)
theorem tw555 : (Cond.selects RX11 yX11_peek yX11_peek) ∈ TT := tin_TT23 _ (List.mem_of_getElem? (i := 3) rfl)
theorem tw556 : (Cond.code yX11_peek cX11_peek 3 (some .int)) ∈ TT := tin_TT23 _ (List.mem_of_getElem? (i := 4) rfl)
theorem tw557 : (Cond.methodLink RL 62 yX10_poke) ∈ TT := tin_TT23 _ (List.mem_of_getElem? (i := 5) rfl)
theorem tw558 : (Cond.instanceMethod yX10_poke) ∈ TT := tin_TT23 _ (List.mem_of_getElem? (i := 6) rfl)
theorem tw559 : (Cond.selects RX10 yX10_poke yX10_poke) ∈ TT := tin_TT23 _ (List.mem_of_getElem? (i := 7) rfl)
theorem tw560 : (Cond.code yX10_poke cX10_poke 4 (some .boolean)) ∈ TT := tin_TT23 _ (List.mem_of_getElem? (i := 8) rfl)
theorem tw561 : (Cond.methodLink RL 66 yX11_poke) ∈ TT := tin_TT23 _ (List.mem_of_getElem? (i := 9) rfl)
theorem tw562 : (Cond.instanceMethod yX11_poke) ∈ TT := tin_TT23 _ (List.mem_of_getElem? (i := 10) rfl)
theorem tw563 : (Cond.selects RX11 yX11_poke yX11_poke) ∈ TT := tin_TT23 _ (List.mem_of_getElem? (i := 11) rfl)
theorem tw564 : (Cond.code yX11_poke cX11_poke 4 (some .boolean)) ∈ TT := tin_TT23 _ (List.mem_of_getElem? (i := 12) rfl)
theorem tw565 : (Cond.methodLink RL 67 yX10_shared) ∈ TT := tin_TT23 _ (List.mem_of_getElem? (i := 13) rfl)
theorem tw566 : (Cond.instanceMethod yX10_shared) ∈ TT := tin_TT23 _ (List.mem_of_getElem? (i := 14) rfl)
theorem tw567 : (Cond.selects RX10 yX10_shared yX10_shared) ∈ TT := tin_TT23 _ (List.mem_of_getElem? (i := 15) rfl)
theorem tw568 : (Cond.code yX10_shared cX10_shared 2 (some .int)) ∈ TT := tin_TT23 _ (List.mem_of_getElem? (i := 16) rfl)
theorem tw569 : (Cond.fieldLink RX10 99 "TimedThreads$SharedMemory" "words" "[I") ∈ TT := tin_TT23 _ (List.mem_of_getElem? (i := 17) rfl)
theorem tw570 : (Cond.methodLink RL 70 yX11_shared) ∈ TT := tin_TT23 _ (List.mem_of_getElem? (i := 18) rfl)
theorem tw571 : (Cond.instanceMethod yX11_shared) ∈ TT := tin_TT23 _ (List.mem_of_getElem? (i := 19) rfl)
theorem tw572 : (Cond.selects RX11 yX11_shared yX11_shared) ∈ TT := tin_TT23 _ (List.mem_of_getElem? (i := 20) rfl)
theorem tw573 : (Cond.code yX11_shared cX11_shared 2 (some .int)) ∈ TT := tin_TT23 _ (List.mem_of_getElem? (i := 21) rfl)
theorem tw574 : (Cond.methodLink RL 71 yX10_part) ∈ TT := tin_TT23 _ (List.mem_of_getElem? (i := 22) rfl)
theorem tw575 : (Cond.instanceMethod yX10_part) ∈ TT := tin_TT23 _ (List.mem_of_getElem? (i := 23) rfl)
theorem tw576 : (Cond.selects RX10 yX10_part yX10_part) ∈ TT := tin_TT24 _ (List.mem_of_getElem? (i := 0) rfl)
theorem tw577 : (Cond.code yX10_part cX10_part 4 (some .boolean)) ∈ TT := tin_TT24 _ (List.mem_of_getElem? (i := 1) rfl)
theorem tw578 : (Cond.fieldLink RX10 104 "TimedThreads$TimedThread" "low" "I") ∈ TT := tin_TT24 _ (List.mem_of_getElem? (i := 2) rfl)
theorem tw579 : (Cond.fieldLink RX10 107 "TimedThreads$TimedThread" "high" "I") ∈ TT := tin_TT24 _ (List.mem_of_getElem? (i := 3) rfl)
theorem tw580 : (Cond.methodLink RL 74 yX11_part) ∈ TT := tin_TT24 _ (List.mem_of_getElem? (i := 4) rfl)
theorem tw581 : (Cond.instanceMethod yX11_part) ∈ TT := tin_TT24 _ (List.mem_of_getElem? (i := 5) rfl)
theorem tw582 : (Cond.selects RX11 yX11_part yX11_part) ∈ TT := tin_TT24 _ (List.mem_of_getElem? (i := 6) rfl)
theorem tw583 : (Cond.code yX11_part cX11_part 4 (some .boolean)) ∈ TT := tin_TT24 _ (List.mem_of_getElem? (i := 7) rfl)
theorem tw584 : (Cond.methodLink RL 75 yX10_start) ∈ TT := tin_TT24 _ (List.mem_of_getElem? (i := 8) rfl)
theorem tw585 : (Cond.instanceMethod yX10_start) ∈ TT := tin_TT24 _ (List.mem_of_getElem? (i := 9) rfl)
theorem tw586 : (Cond.selects RX10 yX10_start yX10_start) ∈ TT := tin_TT24 _ (List.mem_of_getElem? (i := 10) rfl)
theorem tw587 : (Cond.code yX10_start cX10_start 3 (some .boolean)) ∈ TT := tin_TT24 _ (List.mem_of_getElem? (i := 11) rfl)
theorem tw588 : (Cond.fieldLink RX10 110 "TimedThreads" "cycle" "I") ∈ TT := tin_TT24 _ (List.mem_of_getElem? (i := 12) rfl)
theorem tw589 : (Cond.methodLink RX10 113 yX8_begin) ∈ TT := tin_TT24 _ (List.mem_of_getElem? (i := 13) rfl)
theorem tw590 : (Cond.instanceMethod yX8_begin) ∈ TT := tin_TT24 _ (List.mem_of_getElem? (i := 14) rfl)
theorem tw591 : (Cond.selects RX8 yX8_begin yX8_begin) ∈ TT := tin_TT24 _ (List.mem_of_getElem? (i := 15) rfl)
theorem tw592 : (Cond.code yX8_begin cX8_begin 3 none) ∈ TT := tin_TT24 _ (List.mem_of_getElem? (i := 16) rfl)
theorem tw593 : (Cond.fieldLink RX8 35 "TimedThreads$TimedThread" "address" "I") ∈ TT := tin_TT24 _ (List.mem_of_getElem? (i := 17) rfl)
theorem tw594 : (Cond.fieldLink RX8 38 "TimedThreads$TimedThread" "ready" "I") ∈ TT := tin_TT24 _ (List.mem_of_getElem? (i := 18) rfl)
theorem tw595 : (Cond.methodLink RL 79 yX11_start) ∈ TT := tin_TT24 _ (List.mem_of_getElem? (i := 19) rfl)
theorem tw596 : (Cond.instanceMethod yX11_start) ∈ TT := tin_TT24 _ (List.mem_of_getElem? (i := 20) rfl)
theorem tw597 : (Cond.selects RX11 yX11_start yX11_start) ∈ TT := tin_TT24 _ (List.mem_of_getElem? (i := 21) rfl)
theorem tw598 : (Cond.code yX11_start cX11_start 3 (some .boolean)) ∈ TT := tin_TT24 _ (List.mem_of_getElem? (i := 22) rfl)
theorem tw599 : (Cond.fieldLink RX11 291 "TimedThreadsModel" "now" "I") ∈ TT := tin_TT24 _ (List.mem_of_getElem? (i := 23) rfl)
theorem tw600 : (Cond.methodLink RL 80 yX10_run) ∈ TT := tin_TT25 _ (List.mem_of_getElem? (i := 0) rfl)
theorem tw601 : (Cond.instanceMethod yX10_run) ∈ TT := tin_TT25 _ (List.mem_of_getElem? (i := 1) rfl)
theorem tw602 : (Cond.selects RX10 yX10_run yX10_run) ∈ TT := tin_TT25 _ (List.mem_of_getElem? (i := 2) rfl)
theorem tw603 : (Cond.code yX10_run cX10_run 4 (some .int)) ∈ TT := tin_TT25 _ (List.mem_of_getElem? (i := 3) rfl)
theorem tw604 : (Cond.methodLink RX10 117 yJ9_floorMod_7cf53) ∈ TT := tin_TT25 _ (List.mem_of_getElem? (i := 4) rfl)
theorem tw605 : (Cond.static yJ9_floorMod_7cf53) ∈ TT := tin_TT25 _ (List.mem_of_getElem? (i := 5) rfl)
theorem tw606 : (Cond.initialized RJ9) ∈ TT := tin_TT25 _ (List.mem_of_getElem? (i := 6) rfl)
theorem tw607 : (Cond.code yJ9_floorMod_7cf53 cJ9_floorMod_7cf53 3 (some .int)) ∈ TT := tin_TT25 _ (List.mem_of_getElem? (i := 7) rfl)
theorem tw608 : (Cond.methodLink RX10 120 yX8_takeTurn) ∈ TT := tin_TT25 _ (List.mem_of_getElem? (i := 8) rfl)
theorem tw609 : (Cond.instanceMethod yX8_takeTurn) ∈ TT := tin_TT25 _ (List.mem_of_getElem? (i := 9) rfl)
theorem tw610 : (Cond.selects RX8 yX8_takeTurn yX8_takeTurn) ∈ TT := tin_TT25 _ (List.mem_of_getElem? (i := 10) rfl)
theorem tw611 : (Cond.code yX8_takeTurn cX8_takeTurn 4 (some .boolean)) ∈ TT := tin_TT25 _ (List.mem_of_getElem? (i := 11) rfl)
theorem tw612 : (Cond.fieldLink RX8 48 "TimedThreads$Outcome" "FAULT" "LTimedThreads$Outcome;") ∈ TT := tin_TT25 _ (List.mem_of_getElem? (i := 12) rfl)
theorem tw613 : (Cond.fieldLink RX8 54 "TimedThreads$Outcome" "DONE" "LTimedThreads$Outcome;") ∈ TT := tin_TT25 _ (List.mem_of_getElem? (i := 13) rfl)
theorem tw614 : (Cond.fieldLink RX8 57 "TimedThreads$TimedThread" "retirement" "I") ∈ TT := tin_TT25 _ (List.mem_of_getElem? (i := 14) rfl)
theorem tw615 : (Cond.fieldLink RX8 64 "TimedThreads$TimedThread" "nextAddress" "I") ∈ TT := tin_TT25 _ (List.mem_of_getElem? (i := 15) rfl)
theorem tw616 : (Cond.methodLink RX8 44 yX8_attempt) ∈ TT := tin_TT25 _ (List.mem_of_getElem? (i := 16) rfl)
theorem tw617 : (Cond.instanceMethod yX8_attempt) ∈ TT := tin_TT25 _ (List.mem_of_getElem? (i := 17) rfl)
theorem tw618 : (Cond.selects RX8 yX8_attempt yX8_attempt) ∈ TT := tin_TT25 _ (List.mem_of_getElem? (i := 18) rfl)
theorem tw619 : (Cond.code yX8_attempt cX8_attempt 4 (some (.object "TimedThreads$Outcome"))) ∈ TT := tin_TT25 _ (List.mem_of_getElem? (i := 19) rfl)
theorem tw620 : (Cond.methodLink RX8 67 yX8_isInStore) ∈ TT := tin_TT25 _ (List.mem_of_getElem? (i := 20) rfl)
theorem tw621 : (Cond.static yX8_isInStore) ∈ TT := tin_TT25 _ (List.mem_of_getElem? (i := 21) rfl)
theorem tw622 : (Cond.code yX8_isInStore cX8_isInStore 1 (some .boolean)) ∈ TT := tin_TT25 _ (List.mem_of_getElem? (i := 22) rfl)
theorem tw623 : (Cond.methodLink RX8 71 yX8_isAligned) ∈ TT := tin_TT25 _ (List.mem_of_getElem? (i := 23) rfl)
theorem tw624 : (Cond.static yX8_isAligned) ∈ TT := tin_TT26 _ (List.mem_of_getElem? (i := 0) rfl)
theorem tw625 : (Cond.code yX8_isAligned cX8_isAligned 1 (some .boolean)) ∈ TT := tin_TT26 _ (List.mem_of_getElem? (i := 1) rfl)
theorem tw626 : (Cond.methodLink RX8 74 yX1_op) ∈ TT := tin_TT26 _ (List.mem_of_getElem? (i := 2) rfl)
theorem tw627 : (Cond.methodLink RX8 80 yX8_loadUpper) ∈ TT := tin_TT26 _ (List.mem_of_getElem? (i := 3) rfl)
theorem tw628 : (Cond.instanceMethod yX8_loadUpper) ∈ TT := tin_TT26 _ (List.mem_of_getElem? (i := 4) rfl)
theorem tw629 : (Cond.selects RX8 yX8_loadUpper yX8_loadUpper) ∈ TT := tin_TT26 _ (List.mem_of_getElem? (i := 5) rfl)
theorem tw630 : (Cond.code yX8_loadUpper cX8_loadUpper 3 (some (.object "TimedThreads$Outcome"))) ∈ TT := tin_TT26 _ (List.mem_of_getElem? (i := 6) rfl)
theorem tw631 : (Cond.methodLink RX8 113 yX1_rd) ∈ TT := tin_TT26 _ (List.mem_of_getElem? (i := 7) rfl)
theorem tw632 : (Cond.static yX1_rd) ∈ TT := tin_TT26 _ (List.mem_of_getElem? (i := 8) rfl)
theorem tw633 : (Cond.code yX1_rd cX1_rd 1 (some .int)) ∈ TT := tin_TT26 _ (List.mem_of_getElem? (i := 9) rfl)
theorem tw634 : (Cond.static yX10_isRegister) ∈ TT := tin_TT26 _ (List.mem_of_getElem? (i := 10) rfl)
theorem tw635 : (Cond.code yX10_isRegister cX10_isRegister 1 (some .boolean)) ∈ TT := tin_TT26 _ (List.mem_of_getElem? (i := 11) rfl)
theorem tw636 : (Cond.methodLink RX8 119 yX1_numberU) ∈ TT := tin_TT26 _ (List.mem_of_getElem? (i := 12) rfl)
theorem tw637 : (Cond.static yX1_numberU) ∈ TT := tin_TT26 _ (List.mem_of_getElem? (i := 13) rfl)
theorem tw638 : (Cond.code yX1_numberU cX1_numberU 1 (some .int)) ∈ TT := tin_TT26 _ (List.mem_of_getElem? (i := 14) rfl)
theorem tw639 : (Cond.methodLink RX8 122 yX8_setRegister) ∈ TT := tin_TT26 _ (List.mem_of_getElem? (i := 15) rfl)
theorem tw640 : (Cond.instanceMethod yX8_setRegister) ∈ TT := tin_TT26 _ (List.mem_of_getElem? (i := 16) rfl)
theorem tw641 : (Cond.selects RX8 yX8_setRegister yX8_setRegister) ∈ TT := tin_TT26 _ (List.mem_of_getElem? (i := 17) rfl)
theorem tw642 : (Cond.code yX8_setRegister cX8_setRegister 3 none) ∈ TT := tin_TT26 _ (List.mem_of_getElem? (i := 18) rfl)
theorem tw643 : (Cond.methodLink RX8 84 yX8_jump) ∈ TT := tin_TT26 _ (List.mem_of_getElem? (i := 19) rfl)
theorem tw644 : (Cond.instanceMethod yX8_jump) ∈ TT := tin_TT26 _ (List.mem_of_getElem? (i := 20) rfl)
theorem tw645 : (Cond.selects RX8 yX8_jump yX8_jump) ∈ TT := tin_TT26 _ (List.mem_of_getElem? (i := 21) rfl)
theorem tw646 : (Cond.code yX8_jump cX8_jump 3 (some (.object "TimedThreads$Outcome"))) ∈ TT := tin_TT26 _ (List.mem_of_getElem? (i := 22) rfl)
theorem tw647 : (Cond.methodLink RX8 126 yX1_numberJ) ∈ TT := tin_TT26 _ (List.mem_of_getElem? (i := 23) rfl)
theorem tw648 : (Cond.static yX1_numberJ) ∈ TT := tin_TT27 _ (List.mem_of_getElem? (i := 0) rfl)
theorem tw649 : (Cond.code yX1_numberJ cX1_numberJ 1 (some .int)) ∈ TT := tin_TT27 _ (List.mem_of_getElem? (i := 1) rfl)
theorem tw650 : (Cond.methodLink RX8 87 yX8_jumpToRegister) ∈ TT := tin_TT27 _ (List.mem_of_getElem? (i := 2) rfl)
theorem tw651 : (Cond.instanceMethod yX8_jumpToRegister) ∈ TT := tin_TT27 _ (List.mem_of_getElem? (i := 3) rfl)
theorem tw652 : (Cond.selects RX8 yX8_jumpToRegister yX8_jumpToRegister) ∈ TT := tin_TT27 _ (List.mem_of_getElem? (i := 4) rfl)
theorem tw653 : (Cond.code yX8_jumpToRegister cX8_jumpToRegister 5 (some (.object "TimedThreads$Outcome"))) ∈ TT := tin_TT27 _ (List.mem_of_getElem? (i := 5) rfl)
theorem tw654 : (Cond.methodLink RX8 129 yX1_rs) ∈ TT := tin_TT27 _ (List.mem_of_getElem? (i := 6) rfl)
theorem tw655 : (Cond.static yX1_rs) ∈ TT := tin_TT27 _ (List.mem_of_getElem? (i := 7) rfl)
theorem tw656 : (Cond.code yX1_rs cX1_rs 1 (some .int)) ∈ TT := tin_TT27 _ (List.mem_of_getElem? (i := 8) rfl)
theorem tw657 : (Cond.methodLink RX8 132 yX1_f) ∈ TT := tin_TT27 _ (List.mem_of_getElem? (i := 9) rfl)
theorem tw658 : (Cond.static yX1_f) ∈ TT := tin_TT27 _ (List.mem_of_getElem? (i := 10) rfl)
theorem tw659 : (Cond.code yX1_f cX1_f 1 (some .int)) ∈ TT := tin_TT27 _ (List.mem_of_getElem? (i := 11) rfl)
theorem tw660 : (Cond.methodLink RX8 135 yX1_numberI) ∈ TT := tin_TT27 _ (List.mem_of_getElem? (i := 12) rfl)
theorem tw661 : (Cond.static yX1_numberI) ∈ TT := tin_TT27 _ (List.mem_of_getElem? (i := 13) rfl)
theorem tw662 : (Cond.code yX1_numberI cX1_numberI 1 (some .int)) ∈ TT := tin_TT27 _ (List.mem_of_getElem? (i := 14) rfl)
theorem tw663 : (Cond.methodLink RX8 90 yX8_branch) ∈ TT := tin_TT27 _ (List.mem_of_getElem? (i := 15) rfl)
theorem tw664 : (Cond.instanceMethod yX8_branch) ∈ TT := tin_TT27 _ (List.mem_of_getElem? (i := 16) rfl)
theorem tw665 : (Cond.selects RX8 yX8_branch yX8_branch) ∈ TT := tin_TT27 _ (List.mem_of_getElem? (i := 17) rfl)
theorem tw666 : (Cond.code yX8_branch cX8_branch 5 (some (.object "TimedThreads$Outcome"))) ∈ TT := tin_TT27 _ (List.mem_of_getElem? (i := 18) rfl)
theorem tw667 : (Cond.methodLink RX8 138 yX1_rt) ∈ TT := tin_TT27 _ (List.mem_of_getElem? (i := 19) rfl)
theorem tw668 : (Cond.static yX1_rt) ∈ TT := tin_TT27 _ (List.mem_of_getElem? (i := 20) rfl)
theorem tw669 : (Cond.code yX1_rt cX1_rt 1 (some .int)) ∈ TT := tin_TT27 _ (List.mem_of_getElem? (i := 21) rfl)
theorem tw670 : (Cond.methodLink RX8 141 yX8_isSo) ∈ TT := tin_TT27 _ (List.mem_of_getElem? (i := 22) rfl)
theorem tw671 : (Cond.static yX8_isSo) ∈ TT := tin_TT27 _ (List.mem_of_getElem? (i := 23) rfl)
theorem tw672 : (Cond.code yX8_isSo cX8_isSo 3 (some .boolean)) ∈ TT := tin_TT28 _ (List.mem_of_getElem? (i := 0) rfl)
theorem tw673 : (Cond.methodLink RX8 148 yX8_isBelowUnsigned) ∈ TT := tin_TT28 _ (List.mem_of_getElem? (i := 1) rfl)
theorem tw674 : (Cond.static yX8_isBelowUnsigned) ∈ TT := tin_TT28 _ (List.mem_of_getElem? (i := 2) rfl)
theorem tw675 : (Cond.code yX8_isBelowUnsigned cX8_isBelowUnsigned 2 (some .boolean)) ∈ TT := tin_TT28 _ (List.mem_of_getElem? (i := 3) rfl)
theorem tw676 : (Cond.constantLong RX8 152 (4294967295)) ∈ TT := tin_TT28 _ (List.mem_of_getElem? (i := 4) rfl)
theorem tw677 : (Cond.methodLink RX8 145 yX1_numberB) ∈ TT := tin_TT28 _ (List.mem_of_getElem? (i := 5) rfl)
theorem tw678 : (Cond.static yX1_numberB) ∈ TT := tin_TT28 _ (List.mem_of_getElem? (i := 6) rfl)
theorem tw679 : (Cond.code yX1_numberB cX1_numberB 1 (some .int)) ∈ TT := tin_TT28 _ (List.mem_of_getElem? (i := 7) rfl)
theorem tw680 : (Cond.methodLink RX8 93 yX8_load) ∈ TT := tin_TT28 _ (List.mem_of_getElem? (i := 8) rfl)
theorem tw681 : (Cond.instanceMethod yX8_load) ∈ TT := tin_TT28 _ (List.mem_of_getElem? (i := 9) rfl)
theorem tw682 : (Cond.selects RX8 yX8_load yX8_load) ∈ TT := tin_TT28 _ (List.mem_of_getElem? (i := 10) rfl)
theorem tw683 : (Cond.code yX8_load cX8_load 11 (some (.object "TimedThreads$Outcome"))) ∈ TT := tin_TT28 _ (List.mem_of_getElem? (i := 11) rfl)
theorem tw684 : (Cond.methodLink RX8 154 yX8_canReach) ∈ TT := tin_TT28 _ (List.mem_of_getElem? (i := 12) rfl)
theorem tw685 : (Cond.instanceMethod yX8_canReach) ∈ TT := tin_TT28 _ (List.mem_of_getElem? (i := 13) rfl)
theorem tw686 : (Cond.selects RX8 yX8_canReach yX8_canReach) ∈ TT := tin_TT28 _ (List.mem_of_getElem? (i := 14) rfl)
theorem tw687 : (Cond.code yX8_canReach cX8_canReach 4 (some .boolean)) ∈ TT := tin_TT28 _ (List.mem_of_getElem? (i := 15) rfl)
theorem tw688 : (Cond.fieldLink RX8 174 "TimedThreads$TimedThread" "low" "I") ∈ TT := tin_TT28 _ (List.mem_of_getElem? (i := 16) rfl)
theorem tw689 : (Cond.fieldLink RX8 177 "TimedThreads$TimedThread" "high" "I") ∈ TT := tin_TT28 _ (List.mem_of_getElem? (i := 17) rfl)
theorem tw690 : (Cond.methodLink RX8 157 yX8_rowOf) ∈ TT := tin_TT28 _ (List.mem_of_getElem? (i := 18) rfl)
theorem tw691 : (Cond.instanceMethod yX8_rowOf) ∈ TT := tin_TT28 _ (List.mem_of_getElem? (i := 19) rfl)
theorem tw692 : (Cond.selects RX8 yX8_rowOf yX8_rowOf) ∈ TT := tin_TT28 _ (List.mem_of_getElem? (i := 20) rfl)
theorem tw693 : (Cond.code yX8_rowOf cX8_rowOf 3 (some (.array .int))) ∈ TT := tin_TT28 _ (List.mem_of_getElem? (i := 21) rfl)
theorem tw694 : (Cond.fieldLink RX8 180 "TimedThreads$SharedMemory" "words" "[I") ∈ TT := tin_TT28 _ (List.mem_of_getElem? (i := 22) rfl)
theorem tw695 : (Cond.methodLink RX8 161 yX8_placeOf) ∈ TT := tin_TT28 _ (List.mem_of_getElem? (i := 23) rfl)
theorem tw696 : (Cond.static yX8_placeOf) ∈ TT := tin_TT29 _ (List.mem_of_getElem? (i := 0) rfl)
theorem tw697 : (Cond.code yX8_placeOf cX8_placeOf 1 (some .int)) ∈ TT := tin_TT29 _ (List.mem_of_getElem? (i := 1) rfl)
theorem tw698 : (Cond.methodLink RX8 164 yX8_bitOf) ∈ TT := tin_TT29 _ (List.mem_of_getElem? (i := 2) rfl)
theorem tw699 : (Cond.static yX8_bitOf) ∈ TT := tin_TT29 _ (List.mem_of_getElem? (i := 3) rfl)
theorem tw700 : (Cond.code yX8_bitOf cX8_bitOf 1 (some .int)) ∈ TT := tin_TT29 _ (List.mem_of_getElem? (i := 4) rfl)
theorem tw701 : (Cond.methodLink RX8 167 yX8_setRetirement) ∈ TT := tin_TT29 _ (List.mem_of_getElem? (i := 5) rfl)
theorem tw702 : (Cond.instanceMethod yX8_setRetirement) ∈ TT := tin_TT29 _ (List.mem_of_getElem? (i := 6) rfl)
theorem tw703 : (Cond.selects RX8 yX8_setRetirement yX8_setRetirement) ∈ TT := tin_TT29 _ (List.mem_of_getElem? (i := 7) rfl)
theorem tw704 : (Cond.code yX8_setRetirement cX8_setRetirement 4 none) ∈ TT := tin_TT29 _ (List.mem_of_getElem? (i := 8) rfl)
theorem tw705 : (Cond.methodLink RX8 185 yX6_retirement) ∈ TT := tin_TT29 _ (List.mem_of_getElem? (i := 9) rfl)
theorem tw706 : (Cond.instanceMethod yX6_retirement) ∈ TT := tin_TT29 _ (List.mem_of_getElem? (i := 10) rfl)
theorem tw707 : (Cond.selects RX6 yX6_retirement yX6_retirement) ∈ TT := tin_TT29 _ (List.mem_of_getElem? (i := 11) rfl)
theorem tw708 : (Cond.code yX6_retirement cX6_retirement 4 (some .int)) ∈ TT := tin_TT29 _ (List.mem_of_getElem? (i := 12) rfl)
theorem tw709 : (Cond.methodLink RX6 19 yJ9_floorMod_7cf53) ∈ TT := tin_TT29 _ (List.mem_of_getElem? (i := 13) rfl)
theorem tw710 : (Cond.methodLink RX8 97 yX8_save) ∈ TT := tin_TT29 _ (List.mem_of_getElem? (i := 14) rfl)
theorem tw711 : (Cond.instanceMethod yX8_save) ∈ TT := tin_TT29 _ (List.mem_of_getElem? (i := 15) rfl)
theorem tw712 : (Cond.selects RX8 yX8_save yX8_save) ∈ TT := tin_TT29 _ (List.mem_of_getElem? (i := 16) rfl)
theorem tw713 : (Cond.code yX8_save cX8_save 13 (some (.object "TimedThreads$Outcome"))) ∈ TT := tin_TT29 _ (List.mem_of_getElem? (i := 17) rfl)
theorem tw714 : (Cond.methodLink RX8 171 yX1_numberS) ∈ TT := tin_TT29 _ (List.mem_of_getElem? (i := 18) rfl)
theorem tw715 : (Cond.static yX1_numberS) ∈ TT := tin_TT29 _ (List.mem_of_getElem? (i := 19) rfl)
theorem tw716 : (Cond.code yX1_numberS cX1_numberS 1 (some .int)) ∈ TT := tin_TT29 _ (List.mem_of_getElem? (i := 20) rfl)
theorem tw717 : (Cond.methodLink RX1 9 yX1_rd) ∈ TT := tin_TT29 _ (List.mem_of_getElem? (i := 21) rfl)
theorem tw718 : (Cond.methodLink RX8 100 yX8_computeWithNumber) ∈ TT := tin_TT29 _ (List.mem_of_getElem? (i := 22) rfl)
theorem tw719 : (Cond.instanceMethod yX8_computeWithNumber) ∈ TT := tin_TT29 _ (List.mem_of_getElem? (i := 23) rfl)
theorem tw720 : (Cond.selects RX8 yX8_computeWithNumber yX8_computeWithNumber) ∈ TT := tin_TT30 _ (List.mem_of_getElem? (i := 0) rfl)
theorem tw721 : (Cond.code yX8_computeWithNumber cX8_computeWithNumber 8 (some (.object "TimedThreads$Outcome"))) ∈ TT := tin_TT30 _ (List.mem_of_getElem? (i := 1) rfl)
theorem tw722 : (Cond.methodLink RX8 188 yX1_g) ∈ TT := tin_TT30 _ (List.mem_of_getElem? (i := 2) rfl)
theorem tw723 : (Cond.static yX1_g) ∈ TT := tin_TT30 _ (List.mem_of_getElem? (i := 3) rfl)
theorem tw724 : (Cond.code yX1_g cX1_g 1 (some .int)) ∈ TT := tin_TT30 _ (List.mem_of_getElem? (i := 4) rfl)
theorem tw725 : (Cond.methodLink RX8 191 yX8_compute) ∈ TT := tin_TT30 _ (List.mem_of_getElem? (i := 5) rfl)
theorem tw726 : (Cond.static yX8_compute) ∈ TT := tin_TT30 _ (List.mem_of_getElem? (i := 6) rfl)
theorem tw727 : (Cond.code yX8_compute cX8_compute 4 (some .int)) ∈ TT := tin_TT30 _ (List.mem_of_getElem? (i := 7) rfl)
theorem tw728 : (Cond.methodLink RX8 103 yX8_computeWithRegister) ∈ TT := tin_TT30 _ (List.mem_of_getElem? (i := 8) rfl)
theorem tw729 : (Cond.instanceMethod yX8_computeWithRegister) ∈ TT := tin_TT30 _ (List.mem_of_getElem? (i := 9) rfl)
theorem tw730 : (Cond.selects RX8 yX8_computeWithRegister yX8_computeWithRegister) ∈ TT := tin_TT30 _ (List.mem_of_getElem? (i := 10) rfl)
theorem tw731 : (Cond.code yX8_computeWithRegister cX8_computeWithRegister 8 (some (.object "TimedThreads$Outcome"))) ∈ TT := tin_TT30 _ (List.mem_of_getElem? (i := 11) rfl)
theorem tw732 : (Cond.methodLink RX8 106 yX8_timed) ∈ TT := tin_TT30 _ (List.mem_of_getElem? (i := 12) rfl)
theorem tw733 : (Cond.instanceMethod yX8_timed) ∈ TT := tin_TT30 _ (List.mem_of_getElem? (i := 13) rfl)
theorem tw734 : (Cond.selects RX8 yX8_timed yX8_timed) ∈ TT := tin_TT30 _ (List.mem_of_getElem? (i := 14) rfl)
theorem tw735 : (Cond.code yX8_timed cX8_timed 5 (some (.object "TimedThreads$Outcome"))) ∈ TT := tin_TT30 _ (List.mem_of_getElem? (i := 15) rfl)
theorem tw736 : (Cond.methodLink RX8 195 yX8_setTimer) ∈ TT := tin_TT30 _ (List.mem_of_getElem? (i := 16) rfl)
theorem tw737 : (Cond.instanceMethod yX8_setTimer) ∈ TT := tin_TT30 _ (List.mem_of_getElem? (i := 17) rfl)
theorem tw738 : (Cond.selects RX8 yX8_setTimer yX8_setTimer) ∈ TT := tin_TT30 _ (List.mem_of_getElem? (i := 18) rfl)
theorem tw739 : (Cond.code yX8_setTimer cX8_setTimer 7 (some (.object "TimedThreads$Outcome"))) ∈ TT := tin_TT30 _ (List.mem_of_getElem? (i := 19) rfl)
theorem tw740 : (Cond.fieldLink RX8 199 "TimedThreads$Outcome" "TRY_AGAIN" "LTimedThreads$Outcome;") ∈ TT := tin_TT30 _ (List.mem_of_getElem? (i := 20) rfl)
theorem tw741 : (Cond.constantLong RX8 202 (2147483647)) ∈ TT := tin_TT30 _ (List.mem_of_getElem? (i := 21) rfl)
theorem tw742 : (Cond.methodLink RX8 204 Lib.MathLoose.max_long.x) ∈ TT := tin_TT30 _ (List.mem_of_getElem? (i := 22) rfl)
theorem tw743 : (Cond.static Lib.MathLoose.max_long.x) ∈ TT := tin_TT30 _ (List.mem_of_getElem? (i := 23) rfl)
theorem tw744 : (Cond.code Lib.MathLoose.max_long.x Lib.MathLoose.max_long.code 4 (some .long)) ∈ TT := tin_TT31 _ (List.mem_of_getElem? (i := 0) rfl)
theorem tw745 : (Cond.methodLink RX8 210 Lib.MathLoose.min_long.x) ∈ TT := tin_TT31 _ (List.mem_of_getElem? (i := 1) rfl)
theorem tw746 : (Cond.static Lib.MathLoose.min_long.x) ∈ TT := tin_TT31 _ (List.mem_of_getElem? (i := 2) rfl)
theorem tw747 : (Cond.code Lib.MathLoose.min_long.x Lib.MathLoose.min_long.code 4 (some .long)) ∈ TT := tin_TT31 _ (List.mem_of_getElem? (i := 3) rfl)
theorem tw748 : (Cond.methodLink RX8 110 yX8_halt) ∈ TT := tin_TT31 _ (List.mem_of_getElem? (i := 4) rfl)
theorem tw749 : (Cond.instanceMethod yX8_halt) ∈ TT := tin_TT31 _ (List.mem_of_getElem? (i := 5) rfl)
theorem tw750 : (Cond.selects RX8 yX8_halt yX8_halt) ∈ TT := tin_TT31 _ (List.mem_of_getElem? (i := 6) rfl)
theorem tw751 : (Cond.code yX8_halt cX8_halt 2 (some (.object "TimedThreads$Outcome"))) ∈ TT := tin_TT31 _ (List.mem_of_getElem? (i := 7) rfl)
theorem tw752 : (Cond.methodLink RX8 60 yX2_add) ∈ TT := tin_TT31 _ (List.mem_of_getElem? (i := 8) rfl)
theorem tw753 : (Cond.instanceMethod yX2_add) ∈ TT := tin_TT31 _ (List.mem_of_getElem? (i := 9) rfl)
theorem tw754 : (Cond.selects RX2 yX2_add yX2_add) ∈ TT := tin_TT31 _ (List.mem_of_getElem? (i := 10) rfl)
theorem tw755 : (Cond.code yX2_add cX2_add 5 none) ∈ TT := tin_TT31 _ (List.mem_of_getElem? (i := 11) rfl)
theorem tw756 : (Cond.fieldLink RX2 21 "TimedThreads$History" "count" "I") ∈ TT := tin_TT31 _ (List.mem_of_getElem? (i := 12) rfl)
theorem tw757 : (Cond.methodLink RX2 25 yX2_placeOf) ∈ TT := tin_TT31 _ (List.mem_of_getElem? (i := 13) rfl)
theorem tw758 : (Cond.static yX2_placeOf) ∈ TT := tin_TT31 _ (List.mem_of_getElem? (i := 14) rfl)
theorem tw759 : (Cond.code yX2_placeOf cX2_placeOf 1 (some .int)) ∈ TT := tin_TT31 _ (List.mem_of_getElem? (i := 15) rfl)
theorem tw760 : (Cond.methodLink RX2 29 yJ9_floorMod_7cf53) ∈ TT := tin_TT31 _ (List.mem_of_getElem? (i := 16) rfl)
theorem tw761 : (Cond.methodLink RL 83 yX11_run) ∈ TT := tin_TT31 _ (List.mem_of_getElem? (i := 17) rfl)
theorem tw762 : (Cond.instanceMethod yX11_run) ∈ TT := tin_TT31 _ (List.mem_of_getElem? (i := 18) rfl)
theorem tw763 : (Cond.selects RX11 yX11_run yX11_run) ∈ TT := tin_TT31 _ (List.mem_of_getElem? (i := 19) rfl)
theorem tw764 : (Cond.code yX11_run cX11_run 4 (some .int)) ∈ TT := tin_TT31 _ (List.mem_of_getElem? (i := 20) rfl)
theorem tw765 : (Cond.methodLink RX11 349 yX11_turn) ∈ TT := tin_TT31 _ (List.mem_of_getElem? (i := 21) rfl)
theorem tw766 : (Cond.instanceMethod yX11_turn) ∈ TT := tin_TT31 _ (List.mem_of_getElem? (i := 22) rfl)
theorem tw767 : (Cond.selects RX11 yX11_turn yX11_turn) ∈ TT := tin_TT31 _ (List.mem_of_getElem? (i := 23) rfl)
theorem tw768 : (Cond.code yX11_turn cX11_turn 4 (some .int)) ∈ TT := tin_TT32 _ (List.mem_of_getElem? (i := 0) rfl)
theorem tw769 : (Cond.methodLink RX11 288 yX11_isOwn) ∈ TT := tin_TT32 _ (List.mem_of_getElem? (i := 1) rfl)
theorem tw770 : (Cond.static yX11_isOwn) ∈ TT := tin_TT32 _ (List.mem_of_getElem? (i := 2) rfl)
theorem tw771 : (Cond.code yX11_isOwn cX11_isOwn 1 (some .boolean)) ∈ TT := tin_TT32 _ (List.mem_of_getElem? (i := 3) rfl)
theorem tw772 : (Cond.methodLink RX11 299 yX11_stop) ∈ TT := tin_TT32 _ (List.mem_of_getElem? (i := 4) rfl)
theorem tw773 : (Cond.instanceMethod yX11_stop) ∈ TT := tin_TT32 _ (List.mem_of_getElem? (i := 5) rfl)
theorem tw774 : (Cond.selects RX11 yX11_stop yX11_stop) ∈ TT := tin_TT32 _ (List.mem_of_getElem? (i := 6) rfl)
theorem tw775 : (Cond.code yX11_stop cX11_stop 2 (some .int)) ∈ TT := tin_TT32 _ (List.mem_of_getElem? (i := 7) rfl)
theorem tw776 : (Cond.methodLink RX11 313 yX11_set) ∈ TT := tin_TT32 _ (List.mem_of_getElem? (i := 8) rfl)
theorem tw777 : (Cond.instanceMethod yX11_set) ∈ TT := tin_TT32 _ (List.mem_of_getElem? (i := 9) rfl)
theorem tw778 : (Cond.selects RX11 yX11_set yX11_set) ∈ TT := tin_TT32 _ (List.mem_of_getElem? (i := 10) rfl)
theorem tw779 : (Cond.code yX11_set cX11_set 4 none) ∈ TT := tin_TT32 _ (List.mem_of_getElem? (i := 11) rfl)
theorem tw780 : (Cond.methodLink RX11 319 yX11_done) ∈ TT := tin_TT32 _ (List.mem_of_getElem? (i := 12) rfl)
theorem tw781 : (Cond.instanceMethod yX11_done) ∈ TT := tin_TT32 _ (List.mem_of_getElem? (i := 13) rfl)
theorem tw782 : (Cond.selects RX11 yX11_done yX11_done) ∈ TT := tin_TT32 _ (List.mem_of_getElem? (i := 14) rfl)
theorem tw783 : (Cond.code yX11_done cX11_done 5 (some .int)) ∈ TT := tin_TT32 _ (List.mem_of_getElem? (i := 15) rfl)
theorem tw784 : (Cond.methodLink RX11 333 yX11_jump) ∈ TT := tin_TT32 _ (List.mem_of_getElem? (i := 16) rfl)
theorem tw785 : (Cond.instanceMethod yX11_jump) ∈ TT := tin_TT32 _ (List.mem_of_getElem? (i := 17) rfl)
theorem tw786 : (Cond.selects RX11 yX11_jump yX11_jump) ∈ TT := tin_TT32 _ (List.mem_of_getElem? (i := 18) rfl)
theorem tw787 : (Cond.code yX11_jump cX11_jump 8 (some .int)) ∈ TT := tin_TT32 _ (List.mem_of_getElem? (i := 19) rfl)
theorem tw788 : (Cond.methodLink RX11 337 yX11_branch) ∈ TT := tin_TT32 _ (List.mem_of_getElem? (i := 20) rfl)
theorem tw789 : (Cond.instanceMethod yX11_branch) ∈ TT := tin_TT32 _ (List.mem_of_getElem? (i := 21) rfl)
theorem tw790 : (Cond.selects RX11 yX11_branch yX11_branch) ∈ TT := tin_TT32 _ (List.mem_of_getElem? (i := 22) rfl)
theorem tw791 : (Cond.code yX11_branch cX11_branch 8 (some .int)) ∈ TT := tin_TT32 _ (List.mem_of_getElem? (i := 23) rfl)
theorem tw792 : (Cond.methodLink RX11 327 yX11_goes) ∈ TT := tin_TT33 _ (List.mem_of_getElem? (i := 0) rfl)
theorem tw793 : (Cond.static yX11_goes) ∈ TT := tin_TT33 _ (List.mem_of_getElem? (i := 1) rfl)
theorem tw794 : (Cond.code yX11_goes cX11_goes 4 (some .boolean)) ∈ TT := tin_TT33 _ (List.mem_of_getElem? (i := 2) rfl)
theorem tw795 : (Cond.methodLink RX11 295 yX11_isLess) ∈ TT := tin_TT33 _ (List.mem_of_getElem? (i := 3) rfl)
theorem tw796 : (Cond.static yX11_isLess) ∈ TT := tin_TT33 _ (List.mem_of_getElem? (i := 4) rfl)
theorem tw797 : (Cond.code yX11_isLess cX11_isLess 2 (some .boolean)) ∈ TT := tin_TT33 _ (List.mem_of_getElem? (i := 5) rfl)
theorem tw798 : (Cond.constant RX11 294 (-2147483648)) ∈ TT := tin_TT33 _ (List.mem_of_getElem? (i := 6) rfl)
theorem tw799 : (Cond.methodLink RX11 340 yX11_moveWord) ∈ TT := tin_TT33 _ (List.mem_of_getElem? (i := 7) rfl)
theorem tw800 : (Cond.instanceMethod yX11_moveWord) ∈ TT := tin_TT33 _ (List.mem_of_getElem? (i := 8) rfl)
theorem tw801 : (Cond.selects RX11 yX11_moveWord yX11_moveWord) ∈ TT := tin_TT33 _ (List.mem_of_getElem? (i := 9) rfl)
theorem tw802 : (Cond.code yX11_moveWord cX11_moveWord 13 (some .int)) ∈ TT := tin_TT33 _ (List.mem_of_getElem? (i := 10) rfl)
theorem tw803 : (Cond.methodLink RX11 302 yX11_isThere) ∈ TT := tin_TT33 _ (List.mem_of_getElem? (i := 11) rfl)
theorem tw804 : (Cond.instanceMethod yX11_isThere) ∈ TT := tin_TT33 _ (List.mem_of_getElem? (i := 12) rfl)
theorem tw805 : (Cond.selects RX11 yX11_isThere yX11_isThere) ∈ TT := tin_TT33 _ (List.mem_of_getElem? (i := 13) rfl)
theorem tw806 : (Cond.code yX11_isThere cX11_isThere 4 (some .boolean)) ∈ TT := tin_TT33 _ (List.mem_of_getElem? (i := 14) rfl)
theorem tw807 : (Cond.methodLink RX11 306 yX11_wordAt) ∈ TT := tin_TT33 _ (List.mem_of_getElem? (i := 15) rfl)
theorem tw808 : (Cond.instanceMethod yX11_wordAt) ∈ TT := tin_TT33 _ (List.mem_of_getElem? (i := 16) rfl)
theorem tw809 : (Cond.selects RX11 yX11_wordAt yX11_wordAt) ∈ TT := tin_TT33 _ (List.mem_of_getElem? (i := 17) rfl)
theorem tw810 : (Cond.code yX11_wordAt cX11_wordAt 3 (some .int)) ∈ TT := tin_TT33 _ (List.mem_of_getElem? (i := 18) rfl)
theorem tw811 : (Cond.methodLink RX11 309 yX11_put) ∈ TT := tin_TT33 _ (List.mem_of_getElem? (i := 19) rfl)
theorem tw812 : (Cond.instanceMethod yX11_put) ∈ TT := tin_TT33 _ (List.mem_of_getElem? (i := 20) rfl)
theorem tw813 : (Cond.selects RX11 yX11_put yX11_put) ∈ TT := tin_TT33 _ (List.mem_of_getElem? (i := 21) rfl)
theorem tw814 : (Cond.code yX11_put cX11_put 4 none) ∈ TT := tin_TT33 _ (List.mem_of_getElem? (i := 22) rfl)
theorem tw815 : (Cond.methodLink RX11 316 yX11_first) ∈ TT := tin_TT33 _ (List.mem_of_getElem? (i := 23) rfl)
theorem tw816 : (Cond.instanceMethod yX11_first) ∈ TT := tin_TT34 _ (List.mem_of_getElem? (i := 0) rfl)
theorem tw817 : (Cond.selects RX11 yX11_first yX11_first) ∈ TT := tin_TT34 _ (List.mem_of_getElem? (i := 1) rfl)
theorem tw818 : (Cond.code yX11_first cX11_first 3 (some .int)) ∈ TT := tin_TT34 _ (List.mem_of_getElem? (i := 2) rfl)
theorem tw819 : (Cond.methodLink RX11 343 yX11_calculate) ∈ TT := tin_TT34 _ (List.mem_of_getElem? (i := 3) rfl)
theorem tw820 : (Cond.instanceMethod yX11_calculate) ∈ TT := tin_TT34 _ (List.mem_of_getElem? (i := 4) rfl)
theorem tw821 : (Cond.selects RX11 yX11_calculate yX11_calculate) ∈ TT := tin_TT34 _ (List.mem_of_getElem? (i := 5) rfl)
theorem tw822 : (Cond.code yX11_calculate cX11_calculate 13 (some .int)) ∈ TT := tin_TT34 _ (List.mem_of_getElem? (i := 6) rfl)
theorem tw823 : (Cond.methodLink RX11 323 yX11_worked) ∈ TT := tin_TT34 _ (List.mem_of_getElem? (i := 7) rfl)
theorem tw824 : (Cond.static yX11_worked) ∈ TT := tin_TT34 _ (List.mem_of_getElem? (i := 8) rfl)
theorem tw825 : (Cond.code yX11_worked cX11_worked 4 (some .int)) ∈ TT := tin_TT34 _ (List.mem_of_getElem? (i := 9) rfl)
theorem tw826 : (Cond.methodLink RX11 346 yX11_clock) ∈ TT := tin_TT34 _ (List.mem_of_getElem? (i := 10) rfl)
theorem tw827 : (Cond.instanceMethod yX11_clock) ∈ TT := tin_TT34 _ (List.mem_of_getElem? (i := 11) rfl)
theorem tw828 : (Cond.selects RX11 yX11_clock yX11_clock) ∈ TT := tin_TT34 _ (List.mem_of_getElem? (i := 12) rfl)
theorem tw829 : (Cond.code yX11_clock cX11_clock 8 (some .int)) ∈ TT := tin_TT34 _ (List.mem_of_getElem? (i := 13) rfl)
theorem tw830 : (Cond.constantLong RX11 330 (2147483647)) ∈ TT := tin_TT34 _ (List.mem_of_getElem? (i := 14) rfl)
theorem tw831 : (Cond.constant RX11 332 (2147483647)) ∈ TT := tin_TT34 _ (List.mem_of_getElem? (i := 15) rfl)
theorem tw832 : (Cond.methodLink RL 84 yX10_now) ∈ TT := tin_TT34 _ (List.mem_of_getElem? (i := 16) rfl)
theorem tw833 : (Cond.instanceMethod yX10_now) ∈ TT := tin_TT34 _ (List.mem_of_getElem? (i := 17) rfl)
theorem tw834 : (Cond.selects RX10 yX10_now yX10_now) ∈ TT := tin_TT34 _ (List.mem_of_getElem? (i := 18) rfl)
theorem tw835 : (Cond.code yX10_now cX10_now 1 (some .int)) ∈ TT := tin_TT34 _ (List.mem_of_getElem? (i := 19) rfl)
theorem tw836 : (Cond.methodLink RL 87 yX11_now) ∈ TT := tin_TT34 _ (List.mem_of_getElem? (i := 20) rfl)
theorem tw837 : (Cond.instanceMethod yX11_now) ∈ TT := tin_TT34 _ (List.mem_of_getElem? (i := 21) rfl)
theorem tw838 : (Cond.selects RX11 yX11_now yX11_now) ∈ TT := tin_TT34 _ (List.mem_of_getElem? (i := 22) rfl)
theorem tw839 : (Cond.code yX11_now cX11_now 1 (some .int)) ∈ TT := tin_TT34 _ (List.mem_of_getElem? (i := 23) rfl)
theorem tw840 : (Cond.methodLink RL 88 yX10_register) ∈ TT := tin_TT35 _ (List.mem_of_getElem? (i := 0) rfl)
theorem tw841 : (Cond.instanceMethod yX10_register) ∈ TT := tin_TT35 _ (List.mem_of_getElem? (i := 1) rfl)
theorem tw842 : (Cond.selects RX10 yX10_register yX10_register) ∈ TT := tin_TT35 _ (List.mem_of_getElem? (i := 2) rfl)
theorem tw843 : (Cond.code yX10_register cX10_register 3 (some .int)) ∈ TT := tin_TT35 _ (List.mem_of_getElem? (i := 3) rfl)
theorem tw844 : (Cond.fieldLink RX10 127 "TimedThreads$TimedThread" "registers" "[I") ∈ TT := tin_TT35 _ (List.mem_of_getElem? (i := 4) rfl)
theorem tw845 : (Cond.methodLink RX10 124 yX10_isRegister) ∈ TT := tin_TT35 _ (List.mem_of_getElem? (i := 5) rfl)
theorem tw846 : (Cond.methodLink RL 91 yX11_register) ∈ TT := tin_TT35 _ (List.mem_of_getElem? (i := 6) rfl)
theorem tw847 : (Cond.instanceMethod yX11_register) ∈ TT := tin_TT35 _ (List.mem_of_getElem? (i := 7) rfl)
theorem tw848 : (Cond.selects RX11 yX11_register yX11_register) ∈ TT := tin_TT35 _ (List.mem_of_getElem? (i := 8) rfl)
theorem tw849 : (Cond.code yX11_register cX11_register 3 (some .int)) ∈ TT := tin_TT35 _ (List.mem_of_getElem? (i := 9) rfl)
theorem tw850 : (Cond.methodLink RL 92 yX10_state) ∈ TT := tin_TT35 _ (List.mem_of_getElem? (i := 10) rfl)
theorem tw851 : (Cond.instanceMethod yX10_state) ∈ TT := tin_TT35 _ (List.mem_of_getElem? (i := 11) rfl)
theorem tw852 : (Cond.selects RX10 yX10_state yX10_state) ∈ TT := tin_TT35 _ (List.mem_of_getElem? (i := 12) rfl)
theorem tw853 : (Cond.code yX10_state cX10_state 3 (some .int)) ∈ TT := tin_TT35 _ (List.mem_of_getElem? (i := 13) rfl)
theorem tw854 : (Cond.methodLink RX10 130 yX8_condition) ∈ TT := tin_TT35 _ (List.mem_of_getElem? (i := 14) rfl)
theorem tw855 : (Cond.instanceMethod yX8_condition) ∈ TT := tin_TT35 _ (List.mem_of_getElem? (i := 15) rfl)
theorem tw856 : (Cond.selects RX8 yX8_condition yX8_condition) ∈ TT := tin_TT35 _ (List.mem_of_getElem? (i := 16) rfl)
theorem tw857 : (Cond.code yX8_condition cX8_condition 2 (some .int)) ∈ TT := tin_TT35 _ (List.mem_of_getElem? (i := 17) rfl)
theorem tw858 : (Cond.fieldLink RX8 41 "TimedThreads$History" "count" "I") ∈ TT := tin_TT35 _ (List.mem_of_getElem? (i := 18) rfl)
theorem tw859 : (Cond.methodLink RL 95 yX11_state) ∈ TT := tin_TT35 _ (List.mem_of_getElem? (i := 19) rfl)
theorem tw860 : (Cond.instanceMethod yX11_state) ∈ TT := tin_TT35 _ (List.mem_of_getElem? (i := 20) rfl)
theorem tw861 : (Cond.selects RX11 yX11_state yX11_state) ∈ TT := tin_TT35 _ (List.mem_of_getElem? (i := 21) rfl)
theorem tw862 : (Cond.code yX11_state cX11_state 3 (some .int)) ∈ TT := tin_TT35 _ (List.mem_of_getElem? (i := 22) rfl)
theorem tw863 : (Cond.methodLink RL 96 yX10_trace) ∈ TT := tin_TT35 _ (List.mem_of_getElem? (i := 23) rfl)
theorem tw864 : (Cond.instanceMethod yX10_trace) ∈ TT := tin_TT36 _ (List.mem_of_getElem? (i := 0) rfl)
theorem tw865 : (Cond.selects RX10 yX10_trace yX10_trace) ∈ TT := tin_TT36 _ (List.mem_of_getElem? (i := 1) rfl)
theorem tw866 : (Cond.code yX10_trace cX10_trace 4 (some .int)) ∈ TT := tin_TT36 _ (List.mem_of_getElem? (i := 2) rfl)
theorem tw867 : (Cond.fieldLink RX10 134 "TimedThreads$TimedThread" "history" "LTimedThreads$History;") ∈ TT := tin_TT36 _ (List.mem_of_getElem? (i := 3) rfl)
theorem tw868 : (Cond.methodLink RX10 138 yX2_entry) ∈ TT := tin_TT36 _ (List.mem_of_getElem? (i := 4) rfl)
theorem tw869 : (Cond.instanceMethod yX2_entry) ∈ TT := tin_TT36 _ (List.mem_of_getElem? (i := 5) rfl)
theorem tw870 : (Cond.selects RX2 yX2_entry yX2_entry) ∈ TT := tin_TT36 _ (List.mem_of_getElem? (i := 6) rfl)
theorem tw871 : (Cond.code yX2_entry cX2_entry 4 (some .int)) ∈ TT := tin_TT36 _ (List.mem_of_getElem? (i := 7) rfl)
theorem tw872 : (Cond.methodLink RL 100 yX11_trace) ∈ TT := tin_TT36 _ (List.mem_of_getElem? (i := 8) rfl)
theorem tw873 : (Cond.instanceMethod yX11_trace) ∈ TT := tin_TT36 _ (List.mem_of_getElem? (i := 9) rfl)
theorem tw874 : (Cond.selects RX11 yX11_trace yX11_trace) ∈ TT := tin_TT36 _ (List.mem_of_getElem? (i := 10) rfl)
theorem tw875 : (Cond.code yX11_trace cX11_trace 4 (some .int)) ∈ TT := tin_TT36 _ (List.mem_of_getElem? (i := 11) rfl)
end
section
theorem dX0_init_0 : decode cX0_init 0 = .ok (.aload_n 0, 1) := by decide +kernel
theorem dX0_init_1 : decode cX0_init 1 = .ok (.invokespecial 3, 3) := by decide +kernel
theorem dX0_init_4 : decode cX0_init 4 = .ok (.aload_n 0, 1) := by decide +kernel
theorem dX0_init_5 : decode cX0_init 5 = .ok (.sipush 128, 3) := by decide +kernel
theorem dX0_init_8 : decode cX0_init 8 = .ok (.newarray .int, 2) := by decide +kernel
theorem dX0_init_10 : decode cX0_init 10 = .ok (.putfield 9, 3) := by decide +kernel
theorem dX0_init_13 : decode cX0_init 13 = .ok (.aload_n 0, 1) := by decide +kernel
theorem dX0_init_14 : decode cX0_init 14 = .ok (.sipush 128, 3) := by decide +kernel
theorem dX0_init_17 : decode cX0_init 17 = .ok (.newarray .long, 2) := by decide +kernel
theorem dX0_init_19 : decode cX0_init 19 = .ok (.putfield 15, 3) := by decide +kernel
theorem dX0_init_22 : decode cX0_init 22 = .ok (.aload_n 0, 1) := by decide +kernel
theorem dX0_init_23 : decode cX0_init 23 = .ok (.sipush 128, 3) := by decide +kernel
theorem dX0_init_26 : decode cX0_init 26 = .ok (.newarray .int, 2) := by decide +kernel
theorem dX0_init_28 : decode cX0_init 28 = .ok (.putfield 19, 3) := by decide +kernel
theorem dX0_init_31 : decode cX0_init 31 = .ok (.aload_n 0, 1) := by decide +kernel
theorem dX0_init_32 : decode cX0_init 32 = .ok (.new 22, 3) := by decide +kernel
theorem dX0_init_35 : decode cX0_init 35 = .ok (.dup, 1) := by decide +kernel
theorem dX0_init_36 : decode cX0_init 36 = .ok (.invokespecial 24, 3) := by decide +kernel
theorem dX0_init_39 : decode cX0_init 39 = .ok (.putfield 25, 3) := by decide +kernel
theorem dX0_init_42 : decode cX0_init 42 = .ok (.aload_n 0, 1) := by decide +kernel
theorem dX0_init_43 : decode cX0_init 43 = .ok (.new 29, 3) := by decide +kernel
theorem dX0_init_46 : decode cX0_init 46 = .ok (.dup, 1) := by decide +kernel
theorem dX0_init_47 : decode cX0_init 47 = .ok (.invokespecial 31, 3) := by decide +kernel
theorem dX0_init_50 : decode cX0_init 50 = .ok (.putfield 32, 3) := by decide +kernel
theorem dX0_init_53 : decode cX0_init 53 = .ok (.return_, 1) := by decide +kernel
theorem dX0_read_0 : decode cX0_read 0 = .ok (.aload_n 0, 1) := by decide +kernel
theorem dX0_read_1 : decode cX0_read 1 = .ok (.getfield 32, 3) := by decide +kernel
theorem dX0_read_4 : decode cX0_read 4 = .ok (.aload_n 1, 1) := by decide +kernel
theorem dX0_read_5 : decode cX0_read 5 = .ok (.invokevirtual 36, 3) := by decide +kernel
theorem dX0_read_8 : decode cX0_read 8 = .ok (.aload_n 0, 1) := by decide +kernel
theorem dX0_read_9 : decode cX0_read 9 = .ok (.iconst 0, 1) := by decide +kernel
theorem dX0_read_10 : decode cX0_read 10 = .ok (.putfield 40, 3) := by decide +kernel
theorem dX0_read_13 : decode cX0_read 13 = .ok (.aload_n 0, 1) := by decide +kernel
theorem dX0_read_14 : decode cX0_read 14 = .ok (.iconst 0, 1) := by decide +kernel
theorem dX0_read_15 : decode cX0_read 15 = .ok (.putfield 44, 3) := by decide +kernel
theorem dX0_read_18 : decode cX0_read 18 = .ok (.aload_n 0, 1) := by decide +kernel
theorem dX0_read_19 : decode cX0_read 19 = .ok (.getfield 25, 3) := by decide +kernel
theorem dX0_read_22 : decode cX0_read 22 = .ok (.iconst 0, 1) := by decide +kernel
theorem dX0_read_23 : decode cX0_read 23 = .ok (.putfield 47, 3) := by decide +kernel
theorem dX0_read_26 : decode cX0_read 26 = .ok (.aload_n 0, 1) := by decide +kernel
theorem dX0_read_27 : decode cX0_read 27 = .ok (.iconst 0, 1) := by decide +kernel
theorem dX0_read_28 : decode cX0_read 28 = .ok (.putfield 48, 3) := by decide +kernel
theorem dX0_read_31 : decode cX0_read 31 = .ok (.aload_n 0, 1) := by decide +kernel
theorem dX0_read_32 : decode cX0_read 32 = .ok (.iconst 0, 1) := by decide +kernel
theorem dX0_read_33 : decode cX0_read 33 = .ok (.putfield 51, 3) := by decide +kernel
theorem dX0_read_36 : decode cX0_read 36 = .ok (.iconst 0, 1) := by decide +kernel
theorem dX0_read_37 : decode cX0_read 37 = .ok (.istore_n 3, 1) := by decide +kernel
theorem dX0_read_38 : decode cX0_read 38 = .ok (.aload_n 0, 1) := by decide +kernel
theorem dX0_read_39 : decode cX0_read 39 = .ok (.getfield 40, 3) := by decide +kernel
theorem dX0_read_42 : decode cX0_read 42 = .ok (.aload_n 0, 1) := by decide +kernel
theorem dX0_read_43 : decode cX0_read 43 = .ok (.getfield 32, 3) := by decide +kernel
theorem dX0_read_46 : decode cX0_read 46 = .ok (.invokevirtual 54, 3) := by decide +kernel
theorem dX0_read_49 : decode cX0_read 49 = .ok (.if_icmp .ge 49, 3) := by decide +kernel
theorem dX0_read_52 : decode cX0_read 52 = .ok (.iload_n 3, 1) := by decide +kernel
theorem dX0_read_53 : decode cX0_read 53 = .ok (.sipush 400, 3) := by decide +kernel
theorem dX0_read_56 : decode cX0_read 56 = .ok (.if_icmp .gt 42, 3) := by decide +kernel
theorem dX0_read_59 : decode cX0_read 59 = .ok (.aload_n 0, 1) := by decide +kernel
theorem dX0_read_60 : decode cX0_read 60 = .ok (.invokevirtual 58, 3) := by decide +kernel
theorem dX0_read_63 : decode cX0_read 63 = .ok (.aload_n 0, 1) := by decide +kernel
theorem dX0_read_64 : decode cX0_read 64 = .ok (.sipush 128, 3) := by decide +kernel
theorem dX0_read_67 : decode cX0_read 67 = .ok (.iload_n 2, 1) := by decide +kernel
theorem dX0_read_68 : decode cX0_read 68 = .ok (.isub, 1) := by decide +kernel
theorem dX0_read_69 : decode cX0_read 69 = .ok (.invokevirtual 61, 3) := by decide +kernel
theorem dX0_read_72 : decode cX0_read 72 = .ok (.istore 4, 2) := by decide +kernel
theorem dX0_read_74 : decode cX0_read 74 = .ok (.iload 4, 2) := by decide +kernel
theorem dX0_read_76 : decode cX0_read 76 = .ok (.ifCond .eq 11, 3) := by decide +kernel
theorem dX0_read_79 : decode cX0_read 79 = .ok (.aload_n 0, 1) := by decide +kernel
theorem dX0_read_80 : decode cX0_read 80 = .ok (.iload 4, 2) := by decide +kernel
theorem dX0_read_82 : decode cX0_read 82 = .ok (.iload_n 3, 1) := by decide +kernel
theorem dX0_read_83 : decode cX0_read 83 = .ok (.invokevirtual 65, 3) := by decide +kernel
theorem dX0_read_86 : decode cX0_read 86 = .ok (.return_, 1) := by decide +kernel
theorem dX0_read_87 : decode cX0_read 87 = .ok (.aload_n 0, 1) := by decide +kernel
theorem dX0_read_88 : decode cX0_read 88 = .ok (.iload_n 3, 1) := by decide +kernel
theorem dX0_read_89 : decode cX0_read 89 = .ok (.invokevirtual 69, 3) := by decide +kernel
theorem dX0_read_92 : decode cX0_read 92 = .ok (.iinc 3 1, 3) := by decide +kernel
theorem dX0_read_95 : decode cX0_read 95 = .ok (.goto (-57), 3) := by decide +kernel
theorem dX0_read_98 : decode cX0_read 98 = .ok (.aload_n 0, 1) := by decide +kernel
theorem dX0_read_99 : decode cX0_read 99 = .ok (.invokevirtual 73, 3) := by decide +kernel
theorem dX0_read_102 : decode cX0_read 102 = .ok (.return_, 1) := by decide +kernel
theorem dX0_readLine_0 : decode cX0_readLine 0 = .ok (.aload_n 0, 1) := by decide +kernel
theorem dX0_readLine_1 : decode cX0_readLine 1 = .ok (.lconst 0, 1) := by decide +kernel
theorem dX0_readLine_2 : decode cX0_readLine 2 = .ok (.putfield 76, 3) := by decide +kernel
theorem dX0_readLine_5 : decode cX0_readLine 5 = .ok (.aload_n 0, 1) := by decide +kernel
theorem dX0_readLine_6 : decode cX0_readLine 6 = .ok (.iconst 0, 1) := by decide +kernel
theorem dX0_readLine_7 : decode cX0_readLine 7 = .ok (.putfield 80, 3) := by decide +kernel
theorem dX0_readLine_10 : decode cX0_readLine 10 = .ok (.aload_n 0, 1) := by decide +kernel
theorem dX0_readLine_11 : decode cX0_readLine 11 = .ok (.iconst 0, 1) := by decide +kernel
theorem dX0_readLine_12 : decode cX0_readLine 12 = .ok (.putfield 84, 3) := by decide +kernel
theorem dX0_readLine_15 : decode cX0_readLine 15 = .ok (.aload_n 0, 1) := by decide +kernel
theorem dX0_readLine_16 : decode cX0_readLine 16 = .ok (.lconst 0, 1) := by decide +kernel
theorem dX0_readLine_17 : decode cX0_readLine 17 = .ok (.putfield 87, 3) := by decide +kernel
theorem dX0_readLine_20 : decode cX0_readLine 20 = .ok (.aload_n 0, 1) := by decide +kernel
theorem dX0_readLine_21 : decode cX0_readLine 21 = .ok (.iconst 0, 1) := by decide +kernel
theorem dX0_readLine_22 : decode cX0_readLine 22 = .ok (.putfield 90, 3) := by decide +kernel
theorem dX0_readLine_25 : decode cX0_readLine 25 = .ok (.aload_n 0, 1) := by decide +kernel
theorem dX0_readLine_26 : decode cX0_readLine 26 = .ok (.iconst 0, 1) := by decide +kernel
theorem dX0_readLine_27 : decode cX0_readLine 27 = .ok (.putfield 93, 3) := by decide +kernel
theorem dX0_readLine_30 : decode cX0_readLine 30 = .ok (.aload_n 0, 1) := by decide +kernel
theorem dX0_readLine_31 : decode cX0_readLine 31 = .ok (.getfield 32, 3) := by decide +kernel
theorem dX0_readLine_34 : decode cX0_readLine 34 = .ok (.aload_n 0, 1) := by decide +kernel
theorem dX0_readLine_35 : decode cX0_readLine 35 = .ok (.getfield 40, 3) := by decide +kernel
theorem dX0_readLine_38 : decode cX0_readLine 38 = .ok (.invokevirtual 96, 3) := by decide +kernel
theorem dX0_readLine_41 : decode cX0_readLine 41 = .ok (.bipush 97, 2) := by decide +kernel
theorem dX0_readLine_43 : decode cX0_readLine 43 = .ok (.if_icmp .ne 46, 3) := by decide +kernel
theorem dX0_readLine_46 : decode cX0_readLine 46 = .ok (.aload_n 0, 1) := by decide +kernel
theorem dX0_readLine_47 : decode cX0_readLine 47 = .ok (.getfield 32, 3) := by decide +kernel
theorem dX0_readLine_50 : decode cX0_readLine 50 = .ok (.aload_n 0, 1) := by decide +kernel
theorem dX0_readLine_51 : decode cX0_readLine 51 = .ok (.getfield 40, 3) := by decide +kernel
theorem dX0_readLine_54 : decode cX0_readLine 54 = .ok (.iconst 1, 1) := by decide +kernel
theorem dX0_readLine_55 : decode cX0_readLine 55 = .ok (.iadd, 1) := by decide +kernel
theorem dX0_readLine_56 : decode cX0_readLine 56 = .ok (.invokevirtual 96, 3) := by decide +kernel
theorem dX0_readLine_59 : decode cX0_readLine 59 = .ok (.bipush 58, 2) := by decide +kernel
theorem dX0_readLine_61 : decode cX0_readLine 61 = .ok (.if_icmp .ne 28, 3) := by decide +kernel
theorem dX0_readLine_64 : decode cX0_readLine 64 = .ok (.aload_n 0, 1) := by decide +kernel
theorem dX0_readLine_65 : decode cX0_readLine 65 = .ok (.aload_n 0, 1) := by decide +kernel
theorem dX0_readLine_66 : decode cX0_readLine 66 = .ok (.getfield 32, 3) := by decide +kernel
theorem dX0_readLine_69 : decode cX0_readLine 69 = .ok (.aload_n 0, 1) := by decide +kernel
theorem dX0_readLine_70 : decode cX0_readLine 70 = .ok (.getfield 40, 3) := by decide +kernel
theorem dX0_readLine_73 : decode cX0_readLine 73 = .ok (.invokevirtual 100, 3) := by decide +kernel
theorem dX0_readLine_76 : decode cX0_readLine 76 = .ok (.putfield 76, 3) := by decide +kernel
theorem dX0_readLine_79 : decode cX0_readLine 79 = .ok (.aload_n 0, 1) := by decide +kernel
theorem dX0_readLine_80 : decode cX0_readLine 80 = .ok (.dup, 1) := by decide +kernel
theorem dX0_readLine_81 : decode cX0_readLine 81 = .ok (.getfield 40, 3) := by decide +kernel
theorem dX0_readLine_84 : decode cX0_readLine 84 = .ok (.iconst 2, 1) := by decide +kernel
theorem dX0_readLine_85 : decode cX0_readLine 85 = .ok (.iadd, 1) := by decide +kernel
theorem dX0_readLine_86 : decode cX0_readLine 86 = .ok (.putfield 40, 3) := by decide +kernel
theorem dX0_readLine_89 : decode cX0_readLine 89 = .ok (.aload_n 0, 1) := by decide +kernel
theorem dX0_readLine_90 : decode cX0_readLine 90 = .ok (.getfield 32, 3) := by decide +kernel
theorem dX0_readLine_93 : decode cX0_readLine 93 = .ok (.aload_n 0, 1) := by decide +kernel
theorem dX0_readLine_94 : decode cX0_readLine 94 = .ok (.getfield 40, 3) := by decide +kernel
theorem dX0_readLine_97 : decode cX0_readLine 97 = .ok (.invokevirtual 96, 3) := by decide +kernel
theorem dX0_readLine_100 : decode cX0_readLine 100 = .ok (.bipush 97, 2) := by decide +kernel
theorem dX0_readLine_102 : decode cX0_readLine 102 = .ok (.if_icmp .ne 21, 3) := by decide +kernel
theorem dX0_readLine_105 : decode cX0_readLine 105 = .ok (.aload_n 0, 1) := by decide +kernel
theorem dX0_readLine_106 : decode cX0_readLine 106 = .ok (.aload_n 0, 1) := by decide +kernel
theorem dX0_readLine_107 : decode cX0_readLine 107 = .ok (.getfield 32, 3) := by decide +kernel
theorem dX0_readLine_110 : decode cX0_readLine 110 = .ok (.aload_n 0, 1) := by decide +kernel
theorem dX0_readLine_111 : decode cX0_readLine 111 = .ok (.getfield 40, 3) := by decide +kernel
theorem dX0_readLine_114 : decode cX0_readLine 114 = .ok (.invokevirtual 100, 3) := by decide +kernel
theorem dX0_readLine_117 : decode cX0_readLine 117 = .ok (.invokestatic 104, 3) := by decide +kernel
theorem dX0_readLine_120 : decode cX0_readLine 120 = .ok (.invokevirtual 108, 3) := by decide +kernel
theorem dX0_readLine_123 : decode cX0_readLine 123 = .ok (.aload_n 0, 1) := by decide +kernel
theorem dX0_readLine_124 : decode cX0_readLine 124 = .ok (.getfield 32, 3) := by decide +kernel
theorem dX0_readLine_127 : decode cX0_readLine 127 = .ok (.aload_n 0, 1) := by decide +kernel
theorem dX0_readLine_128 : decode cX0_readLine 128 = .ok (.getfield 40, 3) := by decide +kernel
theorem dX0_readLine_131 : decode cX0_readLine 131 = .ok (.invokevirtual 96, 3) := by decide +kernel
theorem dX0_readLine_134 : decode cX0_readLine 134 = .ok (.bipush 10, 2) := by decide +kernel
theorem dX0_readLine_136 : decode cX0_readLine 136 = .ok (.if_icmp .eq 8, 3) := by decide +kernel
theorem dX0_readLine_139 : decode cX0_readLine 139 = .ok (.aload_n 0, 1) := by decide +kernel
theorem dX0_readLine_140 : decode cX0_readLine 140 = .ok (.iconst 1, 1) := by decide +kernel
theorem dX0_readLine_141 : decode cX0_readLine 141 = .ok (.putfield 90, 3) := by decide +kernel
theorem dX0_readLine_144 : decode cX0_readLine 144 = .ok (.aload_n 0, 1) := by decide +kernel
theorem dX0_readLine_145 : decode cX0_readLine 145 = .ok (.dup, 1) := by decide +kernel
theorem dX0_readLine_146 : decode cX0_readLine 146 = .ok (.getfield 40, 3) := by decide +kernel
theorem dX0_readLine_149 : decode cX0_readLine 149 = .ok (.iconst 1, 1) := by decide +kernel
theorem dX0_readLine_150 : decode cX0_readLine 150 = .ok (.iadd, 1) := by decide +kernel
theorem dX0_readLine_151 : decode cX0_readLine 151 = .ok (.putfield 40, 3) := by decide +kernel
theorem dX0_readLine_154 : decode cX0_readLine 154 = .ok (.return_, 1) := by decide +kernel
theorem dX0_faultOfLine_0 : decode cX0_faultOfLine 0 = .ok (.aload_n 0, 1) := by decide +kernel
theorem dX0_faultOfLine_1 : decode cX0_faultOfLine 1 = .ok (.getfield 90, 3) := by decide +kernel
theorem dX0_faultOfLine_4 : decode cX0_faultOfLine 4 = .ok (.ifCond .eq 5, 3) := by decide +kernel
theorem dX0_faultOfLine_7 : decode cX0_faultOfLine 7 = .ok (.iconst 1, 1) := by decide +kernel
theorem dX0_faultOfLine_8 : decode cX0_faultOfLine 8 = .ok (.ireturn, 1) := by decide +kernel
theorem dX0_faultOfLine_9 : decode cX0_faultOfLine 9 = .ok (.aload_n 0, 1) := by decide +kernel
theorem dX0_faultOfLine_10 : decode cX0_faultOfLine 10 = .ok (.getfield 93, 3) := by decide +kernel
theorem dX0_faultOfLine_13 : decode cX0_faultOfLine 13 = .ok (.ifCond .eq 5, 3) := by decide +kernel
theorem dX0_faultOfLine_16 : decode cX0_faultOfLine 16 = .ok (.iconst 2, 1) := by decide +kernel
theorem dX0_faultOfLine_17 : decode cX0_faultOfLine 17 = .ok (.ireturn, 1) := by decide +kernel
theorem dX0_faultOfLine_18 : decode cX0_faultOfLine 18 = .ok (.aload_n 0, 1) := by decide +kernel
theorem dX0_faultOfLine_19 : decode cX0_faultOfLine 19 = .ok (.getfield 76, 3) := by decide +kernel
theorem dX0_faultOfLine_22 : decode cX0_faultOfLine 22 = .ok (.lconst 0, 1) := by decide +kernel
theorem dX0_faultOfLine_23 : decode cX0_faultOfLine 23 = .ok (.lcmp, 1) := by decide +kernel
theorem dX0_faultOfLine_24 : decode cX0_faultOfLine 24 = .ok (.ifCond .eq 15, 3) := by decide +kernel
theorem dX0_faultOfLine_27 : decode cX0_faultOfLine 27 = .ok (.aload_n 0, 1) := by decide +kernel
theorem dX0_faultOfLine_28 : decode cX0_faultOfLine 28 = .ok (.getfield 25, 3) := by decide +kernel
theorem dX0_faultOfLine_31 : decode cX0_faultOfLine 31 = .ok (.getfield 47, 3) := by decide +kernel
theorem dX0_faultOfLine_34 : decode cX0_faultOfLine 34 = .ok (.bipush 16, 2) := by decide +kernel
theorem dX0_faultOfLine_36 : decode cX0_faultOfLine 36 = .ok (.if_icmp .ge 18, 3) := by decide +kernel
theorem dX0_faultOfLine_39 : decode cX0_faultOfLine 39 = .ok (.aload_n 0, 1) := by decide +kernel
theorem dX0_faultOfLine_40 : decode cX0_faultOfLine 40 = .ok (.getfield 80, 3) := by decide +kernel
theorem dX0_faultOfLine_43 : decode cX0_faultOfLine 43 = .ok (.ifCond .eq 13, 3) := by decide +kernel
theorem dX0_faultOfLine_46 : decode cX0_faultOfLine 46 = .ok (.aload_n 0, 1) := by decide +kernel
theorem dX0_faultOfLine_47 : decode cX0_faultOfLine 47 = .ok (.getfield 44, 3) := by decide +kernel
theorem dX0_faultOfLine_50 : decode cX0_faultOfLine 50 = .ok (.iload_n 1, 1) := by decide +kernel
theorem dX0_faultOfLine_51 : decode cX0_faultOfLine 51 = .ok (.if_icmp .lt 5, 3) := by decide +kernel
theorem dX0_faultOfLine_54 : decode cX0_faultOfLine 54 = .ok (.iconst 4, 1) := by decide +kernel
theorem dX0_faultOfLine_55 : decode cX0_faultOfLine 55 = .ok (.ireturn, 1) := by decide +kernel
theorem dX0_faultOfLine_56 : decode cX0_faultOfLine 56 = .ok (.aload_n 0, 1) := by decide +kernel
theorem dX0_faultOfLine_57 : decode cX0_faultOfLine 57 = .ok (.getfield 76, 3) := by decide +kernel
theorem dX0_faultOfLine_60 : decode cX0_faultOfLine 60 = .ok (.lconst 0, 1) := by decide +kernel
theorem dX0_faultOfLine_61 : decode cX0_faultOfLine 61 = .ok (.lcmp, 1) := by decide +kernel
theorem dX0_faultOfLine_62 : decode cX0_faultOfLine 62 = .ok (.ifCond .eq 21, 3) := by decide +kernel
theorem dX0_faultOfLine_65 : decode cX0_faultOfLine 65 = .ok (.aload_n 0, 1) := by decide +kernel
theorem dX0_faultOfLine_66 : decode cX0_faultOfLine 66 = .ok (.getfield 25, 3) := by decide +kernel
theorem dX0_faultOfLine_69 : decode cX0_faultOfLine 69 = .ok (.aload_n 0, 1) := by decide +kernel
theorem dX0_faultOfLine_70 : decode cX0_faultOfLine 70 = .ok (.getfield 76, 3) := by decide +kernel
theorem dX0_faultOfLine_73 : decode cX0_faultOfLine 73 = .ok (.invokevirtual 111, 3) := by decide +kernel
theorem dX0_faultOfLine_76 : decode cX0_faultOfLine 76 = .ok (.ifCond .lt 7, 3) := by decide +kernel
theorem dX0_faultOfLine_79 : decode cX0_faultOfLine 79 = .ok (.iconst 3, 1) := by decide +kernel
theorem dX0_faultOfLine_80 : decode cX0_faultOfLine 80 = .ok (.goto 4, 3) := by decide +kernel
theorem dX0_faultOfLine_83 : decode cX0_faultOfLine 83 = .ok (.iconst 0, 1) := by decide +kernel
theorem dX0_faultOfLine_84 : decode cX0_faultOfLine 84 = .ok (.ireturn, 1) := by decide +kernel
theorem dX0_keepLine_0 : decode cX0_keepLine 0 = .ok (.aload_n 0, 1) := by decide +kernel
theorem dX0_keepLine_1 : decode cX0_keepLine 1 = .ok (.getfield 76, 3) := by decide +kernel
theorem dX0_keepLine_4 : decode cX0_keepLine 4 = .ok (.lconst 0, 1) := by decide +kernel
theorem dX0_keepLine_5 : decode cX0_keepLine 5 = .ok (.lcmp, 1) := by decide +kernel
theorem dX0_keepLine_6 : decode cX0_keepLine 6 = .ok (.ifCond .eq 18, 3) := by decide +kernel
theorem dX0_keepLine_9 : decode cX0_keepLine 9 = .ok (.aload_n 0, 1) := by decide +kernel
theorem dX0_keepLine_10 : decode cX0_keepLine 10 = .ok (.getfield 25, 3) := by decide +kernel
theorem dX0_keepLine_13 : decode cX0_keepLine 13 = .ok (.aload_n 0, 1) := by decide +kernel
theorem dX0_keepLine_14 : decode cX0_keepLine 14 = .ok (.getfield 76, 3) := by decide +kernel
theorem dX0_keepLine_17 : decode cX0_keepLine 17 = .ok (.aload_n 0, 1) := by decide +kernel
theorem dX0_keepLine_18 : decode cX0_keepLine 18 = .ok (.getfield 44, 3) := by decide +kernel
theorem dX0_keepLine_21 : decode cX0_keepLine 21 = .ok (.invokevirtual 114, 3) := by decide +kernel
theorem dX0_keepLine_24 : decode cX0_keepLine 24 = .ok (.aload_n 0, 1) := by decide +kernel
theorem dX0_keepLine_25 : decode cX0_keepLine 25 = .ok (.getfield 80, 3) := by decide +kernel
theorem dX0_keepLine_28 : decode cX0_keepLine 28 = .ok (.ifCond .eq 59, 3) := by decide +kernel
theorem dX0_keepLine_31 : decode cX0_keepLine 31 = .ok (.aload_n 0, 1) := by decide +kernel
theorem dX0_keepLine_32 : decode cX0_keepLine 32 = .ok (.getfield 44, 3) := by decide +kernel
theorem dX0_keepLine_35 : decode cX0_keepLine 35 = .ok (.sipush 128, 3) := by decide +kernel
theorem dX0_keepLine_38 : decode cX0_keepLine 38 = .ok (.if_icmp .ge 49, 3) := by decide +kernel
theorem dX0_keepLine_41 : decode cX0_keepLine 41 = .ok (.aload_n 0, 1) := by decide +kernel
theorem dX0_keepLine_42 : decode cX0_keepLine 42 = .ok (.getfield 9, 3) := by decide +kernel
theorem dX0_keepLine_45 : decode cX0_keepLine 45 = .ok (.aload_n 0, 1) := by decide +kernel
theorem dX0_keepLine_46 : decode cX0_keepLine 46 = .ok (.getfield 44, 3) := by decide +kernel
theorem dX0_keepLine_49 : decode cX0_keepLine 49 = .ok (.aload_n 0, 1) := by decide +kernel
theorem dX0_keepLine_50 : decode cX0_keepLine 50 = .ok (.getfield 84, 3) := by decide +kernel
theorem dX0_keepLine_53 : decode cX0_keepLine 53 = .ok (.iastore, 1) := by decide +kernel
theorem dX0_keepLine_54 : decode cX0_keepLine 54 = .ok (.aload_n 0, 1) := by decide +kernel
theorem dX0_keepLine_55 : decode cX0_keepLine 55 = .ok (.getfield 15, 3) := by decide +kernel
theorem dX0_keepLine_58 : decode cX0_keepLine 58 = .ok (.aload_n 0, 1) := by decide +kernel
theorem dX0_keepLine_59 : decode cX0_keepLine 59 = .ok (.getfield 44, 3) := by decide +kernel
theorem dX0_keepLine_62 : decode cX0_keepLine 62 = .ok (.aload_n 0, 1) := by decide +kernel
theorem dX0_keepLine_63 : decode cX0_keepLine 63 = .ok (.getfield 87, 3) := by decide +kernel
theorem dX0_keepLine_66 : decode cX0_keepLine 66 = .ok (.lastore, 1) := by decide +kernel
theorem dX0_keepLine_67 : decode cX0_keepLine 67 = .ok (.aload_n 0, 1) := by decide +kernel
theorem dX0_keepLine_68 : decode cX0_keepLine 68 = .ok (.getfield 19, 3) := by decide +kernel
theorem dX0_keepLine_71 : decode cX0_keepLine 71 = .ok (.aload_n 0, 1) := by decide +kernel
theorem dX0_keepLine_72 : decode cX0_keepLine 72 = .ok (.getfield 44, 3) := by decide +kernel
theorem dX0_keepLine_75 : decode cX0_keepLine 75 = .ok (.iload_n 1, 1) := by decide +kernel
theorem dX0_keepLine_76 : decode cX0_keepLine 76 = .ok (.iastore, 1) := by decide +kernel
theorem dX0_keepLine_77 : decode cX0_keepLine 77 = .ok (.aload_n 0, 1) := by decide +kernel
theorem dX0_keepLine_78 : decode cX0_keepLine 78 = .ok (.dup, 1) := by decide +kernel
theorem dX0_keepLine_79 : decode cX0_keepLine 79 = .ok (.getfield 44, 3) := by decide +kernel
theorem dX0_keepLine_82 : decode cX0_keepLine 82 = .ok (.iconst 1, 1) := by decide +kernel
theorem dX0_keepLine_83 : decode cX0_keepLine 83 = .ok (.iadd, 1) := by decide +kernel
theorem dX0_keepLine_84 : decode cX0_keepLine 84 = .ok (.putfield 44, 3) := by decide +kernel
theorem dX0_keepLine_87 : decode cX0_keepLine 87 = .ok (.return_, 1) := by decide +kernel
theorem dX0_setFault_0 : decode cX0_setFault 0 = .ok (.aload_n 0, 1) := by decide +kernel
theorem dX0_setFault_1 : decode cX0_setFault 1 = .ok (.iload_n 1, 1) := by decide +kernel
theorem dX0_setFault_2 : decode cX0_setFault 2 = .ok (.putfield 48, 3) := by decide +kernel
theorem dX0_setFault_5 : decode cX0_setFault 5 = .ok (.aload_n 0, 1) := by decide +kernel
theorem dX0_setFault_6 : decode cX0_setFault 6 = .ok (.iload_n 2, 1) := by decide +kernel
theorem dX0_setFault_7 : decode cX0_setFault 7 = .ok (.putfield 51, 3) := by decide +kernel
theorem dX0_setFault_10 : decode cX0_setFault 10 = .ok (.return_, 1) := by decide +kernel
theorem dX0_mnemonicOf_0 : decode cX0_mnemonicOf 0 = .ok (.iconst 0, 1) := by decide +kernel
theorem dX0_mnemonicOf_1 : decode cX0_mnemonicOf 1 = .ok (.istore_n 2, 1) := by decide +kernel
theorem dX0_mnemonicOf_2 : decode cX0_mnemonicOf 2 = .ok (.iload_n 2, 1) := by decide +kernel
theorem dX0_mnemonicOf_3 : decode cX0_mnemonicOf 3 = .ok (.getstatic 118, 3) := by decide +kernel
theorem dX0_mnemonicOf_6 : decode cX0_mnemonicOf 6 = .ok (.arraylength, 1) := by decide +kernel
theorem dX0_mnemonicOf_7 : decode cX0_mnemonicOf 7 = .ok (.if_icmp .ge 24, 3) := by decide +kernel
theorem dX0_mnemonicOf_10 : decode cX0_mnemonicOf 10 = .ok (.getstatic 118, 3) := by decide +kernel
theorem dX0_mnemonicOf_13 : decode cX0_mnemonicOf 13 = .ok (.iload_n 2, 1) := by decide +kernel
theorem dX0_mnemonicOf_14 : decode cX0_mnemonicOf 14 = .ok (.aaload, 1) := by decide +kernel
theorem dX0_mnemonicOf_15 : decode cX0_mnemonicOf 15 = .ok (.getfield 122, 3) := by decide +kernel
theorem dX0_mnemonicOf_18 : decode cX0_mnemonicOf 18 = .ok (.lload_n 0, 1) := by decide +kernel
theorem dX0_mnemonicOf_19 : decode cX0_mnemonicOf 19 = .ok (.lcmp, 1) := by decide +kernel
theorem dX0_mnemonicOf_20 : decode cX0_mnemonicOf 20 = .ok (.ifCond .ne 5, 3) := by decide +kernel
theorem dX0_mnemonicOf_23 : decode cX0_mnemonicOf 23 = .ok (.iload_n 2, 1) := by decide +kernel
theorem dX0_mnemonicOf_24 : decode cX0_mnemonicOf 24 = .ok (.ireturn, 1) := by decide +kernel
theorem dX0_mnemonicOf_25 : decode cX0_mnemonicOf 25 = .ok (.iinc 2 1, 3) := by decide +kernel
theorem dX0_mnemonicOf_28 : decode cX0_mnemonicOf 28 = .ok (.goto (-26), 3) := by decide +kernel
theorem dX0_mnemonicOf_31 : decode cX0_mnemonicOf 31 = .ok (.iconst (-1), 1) := by decide +kernel
theorem dX0_mnemonicOf_32 : decode cX0_mnemonicOf 32 = .ok (.ireturn, 1) := by decide +kernel
theorem dX0_readInstruction_0 : decode cX0_readInstruction 0 = .ok (.iload_n 1, 1) := by decide +kernel
theorem dX0_readInstruction_1 : decode cX0_readInstruction 1 = .ok (.ifCond .ge 9, 3) := by decide +kernel
theorem dX0_readInstruction_4 : decode cX0_readInstruction 4 = .ok (.aload_n 0, 1) := by decide +kernel
theorem dX0_readInstruction_5 : decode cX0_readInstruction 5 = .ok (.iconst 1, 1) := by decide +kernel
theorem dX0_readInstruction_6 : decode cX0_readInstruction 6 = .ok (.putfield 90, 3) := by decide +kernel
theorem dX0_readInstruction_9 : decode cX0_readInstruction 9 = .ok (.return_, 1) := by decide +kernel
theorem dX0_readInstruction_10 : decode cX0_readInstruction 10 = .ok (.aload_n 0, 1) := by decide +kernel
theorem dX0_readInstruction_11 : decode cX0_readInstruction 11 = .ok (.dup, 1) := by decide +kernel
theorem dX0_readInstruction_12 : decode cX0_readInstruction 12 = .ok (.getfield 40, 3) := by decide +kernel
theorem dX0_readInstruction_15 : decode cX0_readInstruction 15 = .ok (.iconst 1, 1) := by decide +kernel
theorem dX0_readInstruction_16 : decode cX0_readInstruction 16 = .ok (.iadd, 1) := by decide +kernel
theorem dX0_readInstruction_17 : decode cX0_readInstruction 17 = .ok (.putfield 40, 3) := by decide +kernel
theorem dX0_readInstruction_20 : decode cX0_readInstruction 20 = .ok (.aload_n 0, 1) := by decide +kernel
theorem dX0_readInstruction_21 : decode cX0_readInstruction 21 = .ok (.iconst 1, 1) := by decide +kernel
theorem dX0_readInstruction_22 : decode cX0_readInstruction 22 = .ok (.putfield 80, 3) := by decide +kernel
theorem dX0_readInstruction_25 : decode cX0_readInstruction 25 = .ok (.aload_n 0, 1) := by decide +kernel
theorem dX0_readInstruction_26 : decode cX0_readInstruction 26 = .ok (.getstatic 118, 3) := by decide +kernel
theorem dX0_readInstruction_29 : decode cX0_readInstruction 29 = .ok (.iload_n 1, 1) := by decide +kernel
theorem dX0_readInstruction_30 : decode cX0_readInstruction 30 = .ok (.aaload, 1) := by decide +kernel
theorem dX0_readInstruction_31 : decode cX0_readInstruction 31 = .ok (.getfield 127, 3) := by decide +kernel
theorem dX0_readInstruction_34 : decode cX0_readInstruction 34 = .ok (.putfield 84, 3) := by decide +kernel
theorem dX0_readInstruction_37 : decode cX0_readInstruction 37 = .ok (.getstatic 118, 3) := by decide +kernel
theorem dX0_readInstruction_40 : decode cX0_readInstruction 40 = .ok (.iload_n 1, 1) := by decide +kernel
theorem dX0_readInstruction_41 : decode cX0_readInstruction 41 = .ok (.aaload, 1) := by decide +kernel
theorem dX0_readInstruction_42 : decode cX0_readInstruction 42 = .ok (.getfield 130, 3) := by decide +kernel
theorem dX0_readInstruction_45 : decode cX0_readInstruction 45 = .ok (.astore_n 2, 1) := by decide +kernel
theorem dX0_readInstruction_46 : decode cX0_readInstruction 46 = .ok (.iconst 0, 1) := by decide +kernel
theorem dX0_readInstruction_47 : decode cX0_readInstruction 47 = .ok (.istore_n 3, 1) := by decide +kernel
theorem dX0_readInstruction_48 : decode cX0_readInstruction 48 = .ok (.iload_n 3, 1) := by decide +kernel
theorem dX0_readInstruction_49 : decode cX0_readInstruction 49 = .ok (.aload_n 2, 1) := by decide +kernel
theorem dX0_readInstruction_50 : decode cX0_readInstruction 50 = .ok (.invokevirtual 134, 3) := by decide +kernel
theorem dX0_readInstruction_53 : decode cX0_readInstruction 53 = .ok (.if_icmp .ge 25, 3) := by decide +kernel
theorem dX0_readInstruction_56 : decode cX0_readInstruction 56 = .ok (.aload_n 0, 1) := by decide +kernel
theorem dX0_readInstruction_57 : decode cX0_readInstruction 57 = .ok (.getfield 90, 3) := by decide +kernel
theorem dX0_readInstruction_60 : decode cX0_readInstruction 60 = .ok (.ifCond .ne 18, 3) := by decide +kernel
theorem dX0_readInstruction_63 : decode cX0_readInstruction 63 = .ok (.aload_n 0, 1) := by decide +kernel
theorem dX0_readInstruction_64 : decode cX0_readInstruction 64 = .ok (.aload_n 2, 1) := by decide +kernel
theorem dX0_readInstruction_65 : decode cX0_readInstruction 65 = .ok (.iload_n 3, 1) := by decide +kernel
theorem dX0_readInstruction_66 : decode cX0_readInstruction 66 = .ok (.invokevirtual 139, 3) := by decide +kernel
theorem dX0_readInstruction_69 : decode cX0_readInstruction 69 = .ok (.invokevirtual 142, 3) := by decide +kernel
theorem dX0_readInstruction_72 : decode cX0_readInstruction 72 = .ok (.iinc 3 1, 3) := by decide +kernel
theorem dX0_readInstruction_75 : decode cX0_readInstruction 75 = .ok (.goto (-27), 3) := by decide +kernel
theorem dX0_readInstruction_78 : decode cX0_readInstruction 78 = .ok (.return_, 1) := by decide +kernel
theorem dX0_readPiece_0 : decode cX0_readPiece 0 = .ok (.aload_n 0, 1) := by decide +kernel
theorem dX0_readPiece_1 : decode cX0_readPiece 1 = .ok (.getfield 32, 3) := by decide +kernel
theorem dX0_readPiece_4 : decode cX0_readPiece 4 = .ok (.aload_n 0, 1) := by decide +kernel
theorem dX0_readPiece_5 : decode cX0_readPiece 5 = .ok (.getfield 40, 3) := by decide +kernel
theorem dX0_readPiece_8 : decode cX0_readPiece 8 = .ok (.invokevirtual 96, 3) := by decide +kernel
theorem dX0_readPiece_11 : decode cX0_readPiece 11 = .ok (.istore_n 2, 1) := by decide +kernel
theorem dX0_readPiece_12 : decode cX0_readPiece 12 = .ok (.aload_n 0, 1) := by decide +kernel
theorem dX0_readPiece_13 : decode cX0_readPiece 13 = .ok (.getfield 32, 3) := by decide +kernel
theorem dX0_readPiece_16 : decode cX0_readPiece 16 = .ok (.aload_n 0, 1) := by decide +kernel
theorem dX0_readPiece_17 : decode cX0_readPiece 17 = .ok (.getfield 40, 3) := by decide +kernel
theorem dX0_readPiece_20 : decode cX0_readPiece 20 = .ok (.invokevirtual 100, 3) := by decide +kernel
theorem dX0_readPiece_23 : decode cX0_readPiece 23 = .ok (.lstore_n 3, 1) := by decide +kernel
theorem dX0_readPiece_24 : decode cX0_readPiece 24 = .ok (.iload_n 1, 1) := by decide +kernel
theorem dX0_readPiece_25 : decode cX0_readPiece 25 = .ok (.bipush 98, 2) := by decide +kernel
theorem dX0_readPiece_27 : decode cX0_readPiece 27 = .ok (.if_icmp .eq 9, 3) := by decide +kernel
theorem dX0_readPiece_30 : decode cX0_readPiece 30 = .ok (.iload_n 1, 1) := by decide +kernel
theorem dX0_readPiece_31 : decode cX0_readPiece 31 = .ok (.bipush 106, 2) := by decide +kernel
theorem dX0_readPiece_33 : decode cX0_readPiece 33 = .ok (.if_icmp .ne 17, 3) := by decide +kernel
theorem dX0_readPiece_36 : decode cX0_readPiece 36 = .ok (.iload_n 2, 1) := by decide +kernel
theorem dX0_readPiece_37 : decode cX0_readPiece 37 = .ok (.bipush 97, 2) := by decide +kernel
theorem dX0_readPiece_39 : decode cX0_readPiece 39 = .ok (.if_icmp .ne 11, 3) := by decide +kernel
theorem dX0_readPiece_42 : decode cX0_readPiece 42 = .ok (.aload_n 0, 1) := by decide +kernel
theorem dX0_readPiece_43 : decode cX0_readPiece 43 = .ok (.lload_n 3, 1) := by decide +kernel
theorem dX0_readPiece_44 : decode cX0_readPiece 44 = .ok (.putfield 87, 3) := by decide +kernel
theorem dX0_readPiece_47 : decode cX0_readPiece 47 = .ok (.goto 26, 3) := by decide +kernel
theorem dX0_readPiece_50 : decode cX0_readPiece 50 = .ok (.iload_n 2, 1) := by decide +kernel
theorem dX0_readPiece_51 : decode cX0_readPiece 51 = .ok (.iload_n 1, 1) := by decide +kernel
theorem dX0_readPiece_52 : decode cX0_readPiece 52 = .ok (.invokestatic 146, 3) := by decide +kernel
theorem dX0_readPiece_55 : decode cX0_readPiece 55 = .ok (.if_icmp .ne 12, 3) := by decide +kernel
theorem dX0_readPiece_58 : decode cX0_readPiece 58 = .ok (.aload_n 0, 1) := by decide +kernel
theorem dX0_readPiece_59 : decode cX0_readPiece 59 = .ok (.iload_n 1, 1) := by decide +kernel
theorem dX0_readPiece_60 : decode cX0_readPiece 60 = .ok (.lload_n 3, 1) := by decide +kernel
theorem dX0_readPiece_61 : decode cX0_readPiece 61 = .ok (.invokevirtual 150, 3) := by decide +kernel
theorem dX0_readPiece_64 : decode cX0_readPiece 64 = .ok (.goto 9, 3) := by decide +kernel
theorem dX0_readPiece_67 : decode cX0_readPiece 67 = .ok (.aload_n 0, 1) := by decide +kernel
theorem dX0_readPiece_68 : decode cX0_readPiece 68 = .ok (.iconst 1, 1) := by decide +kernel
theorem dX0_readPiece_69 : decode cX0_readPiece 69 = .ok (.putfield 90, 3) := by decide +kernel
theorem dX0_readPiece_72 : decode cX0_readPiece 72 = .ok (.return_, 1) := by decide +kernel
theorem dX0_readPiece_73 : decode cX0_readPiece 73 = .ok (.aload_n 0, 1) := by decide +kernel
theorem dX0_readPiece_74 : decode cX0_readPiece 74 = .ok (.dup, 1) := by decide +kernel
theorem dX0_readPiece_75 : decode cX0_readPiece 75 = .ok (.getfield 40, 3) := by decide +kernel
theorem dX0_readPiece_78 : decode cX0_readPiece 78 = .ok (.iconst 1, 1) := by decide +kernel
theorem dX0_readPiece_79 : decode cX0_readPiece 79 = .ok (.iadd, 1) := by decide +kernel
theorem dX0_readPiece_80 : decode cX0_readPiece 80 = .ok (.putfield 40, 3) := by decide +kernel
theorem dX0_readPiece_83 : decode cX0_readPiece 83 = .ok (.return_, 1) := by decide +kernel
theorem dX0_kindOf_0 : decode cX0_kindOf 0 = .ok (.iload_n 0, 1) := by decide +kernel
theorem dX0_kindOf_1 : decode cX0_kindOf 1 = .ok (.lookupswitch 64 #[(40, 59), (41, 59), (44, 59), (100, 61), (115, 61), (116, 61)], 59) := by decide +kernel
theorem dX0_kindOf_60 : decode cX0_kindOf 60 = .ok (.iload_n 0, 1) := by decide +kernel
theorem dX0_kindOf_61 : decode cX0_kindOf 61 = .ok (.ireturn, 1) := by decide +kernel
theorem dX0_kindOf_62 : decode cX0_kindOf 62 = .ok (.bipush 120, 2) := by decide +kernel
theorem dX0_kindOf_64 : decode cX0_kindOf 64 = .ok (.ireturn, 1) := by decide +kernel
theorem dX0_kindOf_65 : decode cX0_kindOf 65 = .ok (.bipush 48, 2) := by decide +kernel
theorem dX0_kindOf_67 : decode cX0_kindOf 67 = .ok (.ireturn, 1) := by decide +kernel
theorem dX0_putPiece_0 : decode cX0_putPiece 0 = .ok (.iload_n 1, 1) := by decide +kernel
theorem dX0_putPiece_1 : decode cX0_putPiece 1 = .ok (.tableswitch 363 98 119 #[301, 363, 103, 363, 363, 363, 206, 154, 332, 254, 363, 180, 363, 363, 363, 363, 363, 120, 137, 230, 363, 278], 103) := by decide +kernel
theorem dX0_putPiece_104 : decode cX0_putPiece 104 = .ok (.aload_n 0, 1) := by decide +kernel
theorem dX0_putPiece_105 : decode cX0_putPiece 105 = .ok (.dup, 1) := by decide +kernel
theorem dX0_putPiece_106 : decode cX0_putPiece 106 = .ok (.getfield 84, 3) := by decide +kernel
theorem dX0_putPiece_109 : decode cX0_putPiece 109 = .ok (.lload_n 2, 1) := by decide +kernel
theorem dX0_putPiece_110 : decode cX0_putPiece 110 = .ok (.l2i, 1) := by decide +kernel
theorem dX0_putPiece_111 : decode cX0_putPiece 111 = .ok (.bipush 7, 2) := by decide +kernel
theorem dX0_putPiece_113 : decode cX0_putPiece 113 = .ok (.ishl, 1) := by decide +kernel
theorem dX0_putPiece_114 : decode cX0_putPiece 114 = .ok (.ior, 1) := by decide +kernel
theorem dX0_putPiece_115 : decode cX0_putPiece 115 = .ok (.putfield 84, 3) := by decide +kernel
theorem dX0_putPiece_118 : decode cX0_putPiece 118 = .ok (.goto 246, 3) := by decide +kernel
theorem dX0_putPiece_121 : decode cX0_putPiece 121 = .ok (.aload_n 0, 1) := by decide +kernel
theorem dX0_putPiece_122 : decode cX0_putPiece 122 = .ok (.dup, 1) := by decide +kernel
theorem dX0_putPiece_123 : decode cX0_putPiece 123 = .ok (.getfield 84, 3) := by decide +kernel
theorem dX0_putPiece_126 : decode cX0_putPiece 126 = .ok (.lload_n 2, 1) := by decide +kernel
theorem dX0_putPiece_127 : decode cX0_putPiece 127 = .ok (.l2i, 1) := by decide +kernel
theorem dX0_putPiece_128 : decode cX0_putPiece 128 = .ok (.bipush 15, 2) := by decide +kernel
theorem dX0_putPiece_130 : decode cX0_putPiece 130 = .ok (.ishl, 1) := by decide +kernel
theorem dX0_putPiece_131 : decode cX0_putPiece 131 = .ok (.ior, 1) := by decide +kernel
theorem dX0_putPiece_132 : decode cX0_putPiece 132 = .ok (.putfield 84, 3) := by decide +kernel
theorem dX0_putPiece_135 : decode cX0_putPiece 135 = .ok (.goto 229, 3) := by decide +kernel
theorem dX0_putPiece_138 : decode cX0_putPiece 138 = .ok (.aload_n 0, 1) := by decide +kernel
theorem dX0_putPiece_139 : decode cX0_putPiece 139 = .ok (.dup, 1) := by decide +kernel
theorem dX0_putPiece_140 : decode cX0_putPiece 140 = .ok (.getfield 84, 3) := by decide +kernel
theorem dX0_putPiece_143 : decode cX0_putPiece 143 = .ok (.lload_n 2, 1) := by decide +kernel
theorem dX0_putPiece_144 : decode cX0_putPiece 144 = .ok (.l2i, 1) := by decide +kernel
theorem dX0_putPiece_145 : decode cX0_putPiece 145 = .ok (.bipush 20, 2) := by decide +kernel
theorem dX0_putPiece_147 : decode cX0_putPiece 147 = .ok (.ishl, 1) := by decide +kernel
theorem dX0_putPiece_148 : decode cX0_putPiece 148 = .ok (.ior, 1) := by decide +kernel
theorem dX0_putPiece_149 : decode cX0_putPiece 149 = .ok (.putfield 84, 3) := by decide +kernel
theorem dX0_putPiece_152 : decode cX0_putPiece 152 = .ok (.goto 212, 3) := by decide +kernel
theorem dX0_putPiece_155 : decode cX0_putPiece 155 = .ok (.aload_n 0, 1) := by decide +kernel
theorem dX0_putPiece_156 : decode cX0_putPiece 156 = .ok (.dup, 1) := by decide +kernel
theorem dX0_putPiece_157 : decode cX0_putPiece 157 = .ok (.getfield 84, 3) := by decide +kernel
theorem dX0_putPiece_160 : decode cX0_putPiece 160 = .ok (.aload_n 0, 1) := by decide +kernel
theorem dX0_putPiece_161 : decode cX0_putPiece 161 = .ok (.lload_n 2, 1) := by decide +kernel
theorem dX0_putPiece_162 : decode cX0_putPiece 162 = .ok (.ldc2_w 154, 3) := by decide +kernel
theorem dX0_putPiece_165 : decode cX0_putPiece 165 = .ok (.ldc2_w 156, 3) := by decide +kernel
theorem dX0_putPiece_168 : decode cX0_putPiece 168 = .ok (.invokevirtual 158, 3) := by decide +kernel
theorem dX0_putPiece_171 : decode cX0_putPiece 171 = .ok (.bipush 20, 2) := by decide +kernel
theorem dX0_putPiece_173 : decode cX0_putPiece 173 = .ok (.ishl, 1) := by decide +kernel
theorem dX0_putPiece_174 : decode cX0_putPiece 174 = .ok (.ior, 1) := by decide +kernel
theorem dX0_putPiece_175 : decode cX0_putPiece 175 = .ok (.putfield 84, 3) := by decide +kernel
theorem dX0_putPiece_178 : decode cX0_putPiece 178 = .ok (.goto 186, 3) := by decide +kernel
theorem dX0_putPiece_181 : decode cX0_putPiece 181 = .ok (.aload_n 0, 1) := by decide +kernel
theorem dX0_putPiece_182 : decode cX0_putPiece 182 = .ok (.dup, 1) := by decide +kernel
theorem dX0_putPiece_183 : decode cX0_putPiece 183 = .ok (.getfield 84, 3) := by decide +kernel
theorem dX0_putPiece_186 : decode cX0_putPiece 186 = .ok (.aload_n 0, 1) := by decide +kernel
theorem dX0_putPiece_187 : decode cX0_putPiece 187 = .ok (.lload_n 2, 1) := by decide +kernel
theorem dX0_putPiece_188 : decode cX0_putPiece 188 = .ok (.ldc2_w 154, 3) := by decide +kernel
theorem dX0_putPiece_191 : decode cX0_putPiece 191 = .ok (.ldc2_w 156, 3) := by decide +kernel
theorem dX0_putPiece_194 : decode cX0_putPiece 194 = .ok (.invokevirtual 158, 3) := by decide +kernel
theorem dX0_putPiece_197 : decode cX0_putPiece 197 = .ok (.invokestatic 162, 3) := by decide +kernel
theorem dX0_putPiece_200 : decode cX0_putPiece 200 = .ok (.ior, 1) := by decide +kernel
theorem dX0_putPiece_201 : decode cX0_putPiece 201 = .ok (.putfield 84, 3) := by decide +kernel
theorem dX0_putPiece_204 : decode cX0_putPiece 204 = .ok (.goto 160, 3) := by decide +kernel
theorem dX0_putPiece_207 : decode cX0_putPiece 207 = .ok (.aload_n 0, 1) := by decide +kernel
theorem dX0_putPiece_208 : decode cX0_putPiece 208 = .ok (.dup, 1) := by decide +kernel
theorem dX0_putPiece_209 : decode cX0_putPiece 209 = .ok (.getfield 84, 3) := by decide +kernel
theorem dX0_putPiece_212 : decode cX0_putPiece 212 = .ok (.aload_n 0, 1) := by decide +kernel
theorem dX0_putPiece_213 : decode cX0_putPiece 213 = .ok (.lload_n 2, 1) := by decide +kernel
theorem dX0_putPiece_214 : decode cX0_putPiece 214 = .ok (.lconst 0, 1) := by decide +kernel
theorem dX0_putPiece_215 : decode cX0_putPiece 215 = .ok (.ldc2_w 167, 3) := by decide +kernel
theorem dX0_putPiece_218 : decode cX0_putPiece 218 = .ok (.invokevirtual 158, 3) := by decide +kernel
theorem dX0_putPiece_221 : decode cX0_putPiece 221 = .ok (.bipush 20, 2) := by decide +kernel
theorem dX0_putPiece_223 : decode cX0_putPiece 223 = .ok (.ishl, 1) := by decide +kernel
theorem dX0_putPiece_224 : decode cX0_putPiece 224 = .ok (.ior, 1) := by decide +kernel
theorem dX0_putPiece_225 : decode cX0_putPiece 225 = .ok (.putfield 84, 3) := by decide +kernel
theorem dX0_putPiece_228 : decode cX0_putPiece 228 = .ok (.goto 136, 3) := by decide +kernel
theorem dX0_putPiece_231 : decode cX0_putPiece 231 = .ok (.aload_n 0, 1) := by decide +kernel
theorem dX0_putPiece_232 : decode cX0_putPiece 232 = .ok (.dup, 1) := by decide +kernel
theorem dX0_putPiece_233 : decode cX0_putPiece 233 = .ok (.getfield 84, 3) := by decide +kernel
theorem dX0_putPiece_236 : decode cX0_putPiece 236 = .ok (.aload_n 0, 1) := by decide +kernel
theorem dX0_putPiece_237 : decode cX0_putPiece 237 = .ok (.lload_n 2, 1) := by decide +kernel
theorem dX0_putPiece_238 : decode cX0_putPiece 238 = .ok (.lconst 0, 1) := by decide +kernel
theorem dX0_putPiece_239 : decode cX0_putPiece 239 = .ok (.ldc2_w 169, 3) := by decide +kernel
theorem dX0_putPiece_242 : decode cX0_putPiece 242 = .ok (.invokevirtual 158, 3) := by decide +kernel
theorem dX0_putPiece_245 : decode cX0_putPiece 245 = .ok (.bipush 12, 2) := by decide +kernel
theorem dX0_putPiece_247 : decode cX0_putPiece 247 = .ok (.ishl, 1) := by decide +kernel
theorem dX0_putPiece_248 : decode cX0_putPiece 248 = .ok (.ior, 1) := by decide +kernel
theorem dX0_putPiece_249 : decode cX0_putPiece 249 = .ok (.putfield 84, 3) := by decide +kernel
theorem dX0_putPiece_252 : decode cX0_putPiece 252 = .ok (.goto 112, 3) := by decide +kernel
theorem dX0_putPiece_255 : decode cX0_putPiece 255 = .ok (.aload_n 0, 1) := by decide +kernel
theorem dX0_putPiece_256 : decode cX0_putPiece 256 = .ok (.dup, 1) := by decide +kernel
theorem dX0_putPiece_257 : decode cX0_putPiece 257 = .ok (.getfield 84, 3) := by decide +kernel
theorem dX0_putPiece_260 : decode cX0_putPiece 260 = .ok (.aload_n 0, 1) := by decide +kernel
theorem dX0_putPiece_261 : decode cX0_putPiece 261 = .ok (.lload_n 2, 1) := by decide +kernel
theorem dX0_putPiece_262 : decode cX0_putPiece 262 = .ok (.lconst 0, 1) := by decide +kernel
theorem dX0_putPiece_263 : decode cX0_putPiece 263 = .ok (.ldc2_w 171, 3) := by decide +kernel
theorem dX0_putPiece_266 : decode cX0_putPiece 266 = .ok (.invokevirtual 158, 3) := by decide +kernel
theorem dX0_putPiece_269 : decode cX0_putPiece 269 = .ok (.bipush 7, 2) := by decide +kernel
theorem dX0_putPiece_271 : decode cX0_putPiece 271 = .ok (.ishl, 1) := by decide +kernel
theorem dX0_putPiece_272 : decode cX0_putPiece 272 = .ok (.ior, 1) := by decide +kernel
theorem dX0_putPiece_273 : decode cX0_putPiece 273 = .ok (.putfield 84, 3) := by decide +kernel
theorem dX0_putPiece_276 : decode cX0_putPiece 276 = .ok (.goto 88, 3) := by decide +kernel
theorem dX0_putPiece_279 : decode cX0_putPiece 279 = .ok (.aload_n 0, 1) := by decide +kernel
theorem dX0_putPiece_280 : decode cX0_putPiece 280 = .ok (.dup, 1) := by decide +kernel
theorem dX0_putPiece_281 : decode cX0_putPiece 281 = .ok (.getfield 84, 3) := by decide +kernel
theorem dX0_putPiece_284 : decode cX0_putPiece 284 = .ok (.aload_n 0, 1) := by decide +kernel
theorem dX0_putPiece_285 : decode cX0_putPiece 285 = .ok (.lload_n 2, 1) := by decide +kernel
theorem dX0_putPiece_286 : decode cX0_putPiece 286 = .ok (.ldc2_w 173, 3) := by decide +kernel
theorem dX0_putPiece_289 : decode cX0_putPiece 289 = .ok (.ldc2_w 175, 3) := by decide +kernel
theorem dX0_putPiece_292 : decode cX0_putPiece 292 = .ok (.invokevirtual 158, 3) := by decide +kernel
theorem dX0_putPiece_295 : decode cX0_putPiece 295 = .ok (.ior, 1) := by decide +kernel
theorem dX0_putPiece_296 : decode cX0_putPiece 296 = .ok (.putfield 84, 3) := by decide +kernel
theorem dX0_putPiece_299 : decode cX0_putPiece 299 = .ok (.goto 65, 3) := by decide +kernel
theorem dX0_putPiece_302 : decode cX0_putPiece 302 = .ok (.aload_n 0, 1) := by decide +kernel
theorem dX0_putPiece_303 : decode cX0_putPiece 303 = .ok (.lload_n 2, 1) := by decide +kernel
theorem dX0_putPiece_304 : decode cX0_putPiece 304 = .ok (.invokevirtual 177, 3) := by decide +kernel
theorem dX0_putPiece_307 : decode cX0_putPiece 307 = .ok (.aload_n 0, 1) := by decide +kernel
theorem dX0_putPiece_308 : decode cX0_putPiece 308 = .ok (.dup, 1) := by decide +kernel
theorem dX0_putPiece_309 : decode cX0_putPiece 309 = .ok (.getfield 84, 3) := by decide +kernel
theorem dX0_putPiece_312 : decode cX0_putPiece 312 = .ok (.aload_n 0, 1) := by decide +kernel
theorem dX0_putPiece_313 : decode cX0_putPiece 313 = .ok (.lload_n 2, 1) := by decide +kernel
theorem dX0_putPiece_314 : decode cX0_putPiece 314 = .ok (.ldc2_w 181, 3) := by decide +kernel
theorem dX0_putPiece_317 : decode cX0_putPiece 317 = .ok (.ldc2_w 183, 3) := by decide +kernel
theorem dX0_putPiece_320 : decode cX0_putPiece 320 = .ok (.invokevirtual 158, 3) := by decide +kernel
theorem dX0_putPiece_323 : decode cX0_putPiece 323 = .ok (.invokestatic 185, 3) := by decide +kernel
theorem dX0_putPiece_326 : decode cX0_putPiece 326 = .ok (.ior, 1) := by decide +kernel
theorem dX0_putPiece_327 : decode cX0_putPiece 327 = .ok (.putfield 84, 3) := by decide +kernel
theorem dX0_putPiece_330 : decode cX0_putPiece 330 = .ok (.goto 34, 3) := by decide +kernel
theorem dX0_putPiece_333 : decode cX0_putPiece 333 = .ok (.aload_n 0, 1) := by decide +kernel
theorem dX0_putPiece_334 : decode cX0_putPiece 334 = .ok (.lload_n 2, 1) := by decide +kernel
theorem dX0_putPiece_335 : decode cX0_putPiece 335 = .ok (.invokevirtual 177, 3) := by decide +kernel
theorem dX0_putPiece_338 : decode cX0_putPiece 338 = .ok (.aload_n 0, 1) := by decide +kernel
theorem dX0_putPiece_339 : decode cX0_putPiece 339 = .ok (.dup, 1) := by decide +kernel
theorem dX0_putPiece_340 : decode cX0_putPiece 340 = .ok (.getfield 84, 3) := by decide +kernel
theorem dX0_putPiece_343 : decode cX0_putPiece 343 = .ok (.aload_n 0, 1) := by decide +kernel
theorem dX0_putPiece_344 : decode cX0_putPiece 344 = .ok (.lload_n 2, 1) := by decide +kernel
theorem dX0_putPiece_345 : decode cX0_putPiece 345 = .ok (.ldc2_w 188, 3) := by decide +kernel
theorem dX0_putPiece_348 : decode cX0_putPiece 348 = .ok (.ldc2_w 190, 3) := by decide +kernel
theorem dX0_putPiece_351 : decode cX0_putPiece 351 = .ok (.invokevirtual 158, 3) := by decide +kernel
theorem dX0_putPiece_354 : decode cX0_putPiece 354 = .ok (.invokestatic 192, 3) := by decide +kernel
theorem dX0_putPiece_357 : decode cX0_putPiece 357 = .ok (.ior, 1) := by decide +kernel
theorem dX0_putPiece_358 : decode cX0_putPiece 358 = .ok (.putfield 84, 3) := by decide +kernel
theorem dX0_putPiece_361 : decode cX0_putPiece 361 = .ok (.goto 3, 3) := by decide +kernel
theorem dX0_putPiece_364 : decode cX0_putPiece 364 = .ok (.return_, 1) := by decide +kernel
theorem dX0_fitted_0 : decode cX0_fitted 0 = .ok (.lload_n 1, 1) := by decide +kernel
theorem dX0_fitted_1 : decode cX0_fitted 1 = .ok (.lload_n 3, 1) := by decide +kernel
theorem dX0_fitted_2 : decode cX0_fitted 2 = .ok (.lcmp, 1) := by decide +kernel
theorem dX0_fitted_3 : decode cX0_fitted 3 = .ok (.ifCond .lt 10, 3) := by decide +kernel
theorem dX0_fitted_6 : decode cX0_fitted 6 = .ok (.lload_n 1, 1) := by decide +kernel
theorem dX0_fitted_7 : decode cX0_fitted 7 = .ok (.lload 5, 2) := by decide +kernel
theorem dX0_fitted_9 : decode cX0_fitted 9 = .ok (.lcmp, 1) := by decide +kernel
theorem dX0_fitted_10 : decode cX0_fitted 10 = .ok (.ifCond .le 8, 3) := by decide +kernel
theorem dX0_fitted_13 : decode cX0_fitted 13 = .ok (.aload_n 0, 1) := by decide +kernel
theorem dX0_fitted_14 : decode cX0_fitted 14 = .ok (.iconst 1, 1) := by decide +kernel
theorem dX0_fitted_15 : decode cX0_fitted 15 = .ok (.putfield 93, 3) := by decide +kernel
theorem dX0_fitted_18 : decode cX0_fitted 18 = .ok (.lload_n 1, 1) := by decide +kernel
theorem dX0_fitted_19 : decode cX0_fitted 19 = .ok (.l2i, 1) := by decide +kernel
theorem dX0_fitted_20 : decode cX0_fitted 20 = .ok (.ireturn, 1) := by decide +kernel
theorem dX0_noteOdd_0 : decode cX0_noteOdd 0 = .ok (.lload_n 1, 1) := by decide +kernel
theorem dX0_noteOdd_1 : decode cX0_noteOdd 1 = .ok (.lconst 1, 1) := by decide +kernel
theorem dX0_noteOdd_2 : decode cX0_noteOdd 2 = .ok (.land, 1) := by decide +kernel
theorem dX0_noteOdd_3 : decode cX0_noteOdd 3 = .ok (.lconst 0, 1) := by decide +kernel
theorem dX0_noteOdd_4 : decode cX0_noteOdd 4 = .ok (.lcmp, 1) := by decide +kernel
theorem dX0_noteOdd_5 : decode cX0_noteOdd 5 = .ok (.ifCond .eq 8, 3) := by decide +kernel
theorem dX0_noteOdd_8 : decode cX0_noteOdd 8 = .ok (.aload_n 0, 1) := by decide +kernel
theorem dX0_noteOdd_9 : decode cX0_noteOdd 9 = .ok (.iconst 1, 1) := by decide +kernel
theorem dX0_noteOdd_10 : decode cX0_noteOdd 10 = .ok (.putfield 93, 3) := by decide +kernel
theorem dX0_noteOdd_13 : decode cX0_noteOdd 13 = .ok (.return_, 1) := by decide +kernel
theorem dX0_resolveTargets_0 : decode cX0_resolveTargets 0 = .ok (.iconst 0, 1) := by decide +kernel
theorem dX0_resolveTargets_1 : decode cX0_resolveTargets 1 = .ok (.istore_n 1, 1) := by decide +kernel
theorem dX0_resolveTargets_2 : decode cX0_resolveTargets 2 = .ok (.iload_n 1, 1) := by decide +kernel
theorem dX0_resolveTargets_3 : decode cX0_resolveTargets 3 = .ok (.aload_n 0, 1) := by decide +kernel
theorem dX0_resolveTargets_4 : decode cX0_resolveTargets 4 = .ok (.getfield 44, 3) := by decide +kernel
theorem dX0_resolveTargets_7 : decode cX0_resolveTargets 7 = .ok (.if_icmp .ge 105, 3) := by decide +kernel
theorem dX0_resolveTargets_10 : decode cX0_resolveTargets 10 = .ok (.aload_n 0, 1) := by decide +kernel
theorem dX0_resolveTargets_11 : decode cX0_resolveTargets 11 = .ok (.getfield 15, 3) := by decide +kernel
theorem dX0_resolveTargets_14 : decode cX0_resolveTargets 14 = .ok (.iload_n 1, 1) := by decide +kernel
theorem dX0_resolveTargets_15 : decode cX0_resolveTargets 15 = .ok (.laload, 1) := by decide +kernel
theorem dX0_resolveTargets_16 : decode cX0_resolveTargets 16 = .ok (.lconst 0, 1) := by decide +kernel
theorem dX0_resolveTargets_17 : decode cX0_resolveTargets 17 = .ok (.lcmp, 1) := by decide +kernel
theorem dX0_resolveTargets_18 : decode cX0_resolveTargets 18 = .ok (.ifCond .ne 6, 3) := by decide +kernel
theorem dX0_resolveTargets_21 : decode cX0_resolveTargets 21 = .ok (.goto 85, 3) := by decide +kernel
theorem dX0_resolveTargets_24 : decode cX0_resolveTargets 24 = .ok (.aload_n 0, 1) := by decide +kernel
theorem dX0_resolveTargets_25 : decode cX0_resolveTargets 25 = .ok (.getfield 25, 3) := by decide +kernel
theorem dX0_resolveTargets_28 : decode cX0_resolveTargets 28 = .ok (.aload_n 0, 1) := by decide +kernel
theorem dX0_resolveTargets_29 : decode cX0_resolveTargets 29 = .ok (.getfield 15, 3) := by decide +kernel
theorem dX0_resolveTargets_32 : decode cX0_resolveTargets 32 = .ok (.iload_n 1, 1) := by decide +kernel
theorem dX0_resolveTargets_33 : decode cX0_resolveTargets 33 = .ok (.laload, 1) := by decide +kernel
theorem dX0_resolveTargets_34 : decode cX0_resolveTargets 34 = .ok (.invokevirtual 111, 3) := by decide +kernel
theorem dX0_resolveTargets_37 : decode cX0_resolveTargets 37 = .ok (.istore_n 2, 1) := by decide +kernel
theorem dX0_resolveTargets_38 : decode cX0_resolveTargets 38 = .ok (.iload_n 2, 1) := by decide +kernel
theorem dX0_resolveTargets_39 : decode cX0_resolveTargets 39 = .ok (.ifCond .ge 15, 3) := by decide +kernel
theorem dX0_resolveTargets_42 : decode cX0_resolveTargets 42 = .ok (.aload_n 0, 1) := by decide +kernel
theorem dX0_resolveTargets_43 : decode cX0_resolveTargets 43 = .ok (.iconst 3, 1) := by decide +kernel
theorem dX0_resolveTargets_44 : decode cX0_resolveTargets 44 = .ok (.aload_n 0, 1) := by decide +kernel
theorem dX0_resolveTargets_45 : decode cX0_resolveTargets 45 = .ok (.getfield 19, 3) := by decide +kernel
theorem dX0_resolveTargets_48 : decode cX0_resolveTargets 48 = .ok (.iload_n 1, 1) := by decide +kernel
theorem dX0_resolveTargets_49 : decode cX0_resolveTargets 49 = .ok (.iaload, 1) := by decide +kernel
theorem dX0_resolveTargets_50 : decode cX0_resolveTargets 50 = .ok (.invokevirtual 65, 3) := by decide +kernel
theorem dX0_resolveTargets_53 : decode cX0_resolveTargets 53 = .ok (.return_, 1) := by decide +kernel
theorem dX0_resolveTargets_54 : decode cX0_resolveTargets 54 = .ok (.iconst 4, 1) := by decide +kernel
theorem dX0_resolveTargets_55 : decode cX0_resolveTargets 55 = .ok (.iload_n 2, 1) := by decide +kernel
theorem dX0_resolveTargets_56 : decode cX0_resolveTargets 56 = .ok (.iload_n 1, 1) := by decide +kernel
theorem dX0_resolveTargets_57 : decode cX0_resolveTargets 57 = .ok (.isub, 1) := by decide +kernel
theorem dX0_resolveTargets_58 : decode cX0_resolveTargets 58 = .ok (.imul, 1) := by decide +kernel
theorem dX0_resolveTargets_59 : decode cX0_resolveTargets 59 = .ok (.istore_n 3, 1) := by decide +kernel
theorem dX0_resolveTargets_60 : decode cX0_resolveTargets 60 = .ok (.aload_n 0, 1) := by decide +kernel
theorem dX0_resolveTargets_61 : decode cX0_resolveTargets 61 = .ok (.getfield 9, 3) := by decide +kernel
theorem dX0_resolveTargets_64 : decode cX0_resolveTargets 64 = .ok (.iload_n 1, 1) := by decide +kernel
theorem dX0_resolveTargets_65 : decode cX0_resolveTargets 65 = .ok (.iaload, 1) := by decide +kernel
theorem dX0_resolveTargets_66 : decode cX0_resolveTargets 66 = .ok (.invokestatic 195, 3) := by decide +kernel
theorem dX0_resolveTargets_69 : decode cX0_resolveTargets 69 = .ok (.bipush 111, 2) := by decide +kernel
theorem dX0_resolveTargets_71 : decode cX0_resolveTargets 71 = .ok (.if_icmp .ne 7, 3) := by decide +kernel
theorem dX0_resolveTargets_74 : decode cX0_resolveTargets 74 = .ok (.iconst 1, 1) := by decide +kernel
theorem dX0_resolveTargets_75 : decode cX0_resolveTargets 75 = .ok (.goto 4, 3) := by decide +kernel
theorem dX0_resolveTargets_78 : decode cX0_resolveTargets 78 = .ok (.iconst 0, 1) := by decide +kernel
theorem dX0_resolveTargets_79 : decode cX0_resolveTargets 79 = .ok (.istore 4, 2) := by decide +kernel
theorem dX0_resolveTargets_81 : decode cX0_resolveTargets 81 = .ok (.aload_n 0, 1) := by decide +kernel
theorem dX0_resolveTargets_82 : decode cX0_resolveTargets 82 = .ok (.getfield 9, 3) := by decide +kernel
theorem dX0_resolveTargets_85 : decode cX0_resolveTargets 85 = .ok (.iload_n 1, 1) := by decide +kernel
theorem dX0_resolveTargets_86 : decode cX0_resolveTargets 86 = .ok (.dup2, 1) := by decide +kernel
theorem dX0_resolveTargets_87 : decode cX0_resolveTargets 87 = .ok (.iaload, 1) := by decide +kernel
theorem dX0_resolveTargets_88 : decode cX0_resolveTargets 88 = .ok (.iload 4, 2) := by decide +kernel
theorem dX0_resolveTargets_90 : decode cX0_resolveTargets 90 = .ok (.ifCond .eq 10, 3) := by decide +kernel
theorem dX0_resolveTargets_93 : decode cX0_resolveTargets 93 = .ok (.iload_n 3, 1) := by decide +kernel
theorem dX0_resolveTargets_94 : decode cX0_resolveTargets 94 = .ok (.invokestatic 192, 3) := by decide +kernel
theorem dX0_resolveTargets_97 : decode cX0_resolveTargets 97 = .ok (.goto 7, 3) := by decide +kernel
theorem dX0_resolveTargets_100 : decode cX0_resolveTargets 100 = .ok (.iload_n 3, 1) := by decide +kernel
theorem dX0_resolveTargets_101 : decode cX0_resolveTargets 101 = .ok (.invokestatic 185, 3) := by decide +kernel
theorem dX0_resolveTargets_104 : decode cX0_resolveTargets 104 = .ok (.ior, 1) := by decide +kernel
theorem dX0_resolveTargets_105 : decode cX0_resolveTargets 105 = .ok (.iastore, 1) := by decide +kernel
theorem dX0_resolveTargets_106 : decode cX0_resolveTargets 106 = .ok (.iinc 1 1, 3) := by decide +kernel
theorem dX0_resolveTargets_109 : decode cX0_resolveTargets 109 = .ok (.goto (-107), 3) := by decide +kernel
theorem dX0_resolveTargets_112 : decode cX0_resolveTargets 112 = .ok (.return_, 1) := by decide +kernel
theorem dX3_init_0 : decode cX3_init 0 = .ok (.aload_n 0, 1) := by decide +kernel
theorem dX3_init_1 : decode cX3_init 1 = .ok (.invokespecial 3, 3) := by decide +kernel
theorem dX3_init_4 : decode cX3_init 4 = .ok (.aload_n 0, 1) := by decide +kernel
theorem dX3_init_5 : decode cX3_init 5 = .ok (.bipush 16, 2) := by decide +kernel
theorem dX3_init_7 : decode cX3_init 7 = .ok (.newarray .long, 2) := by decide +kernel
theorem dX3_init_9 : decode cX3_init 9 = .ok (.putfield 9, 3) := by decide +kernel
theorem dX3_init_12 : decode cX3_init 12 = .ok (.aload_n 0, 1) := by decide +kernel
theorem dX3_init_13 : decode cX3_init 13 = .ok (.bipush 16, 2) := by decide +kernel
theorem dX3_init_15 : decode cX3_init 15 = .ok (.newarray .int, 2) := by decide +kernel
theorem dX3_init_17 : decode cX3_init 17 = .ok (.putfield 15, 3) := by decide +kernel
theorem dX3_init_20 : decode cX3_init 20 = .ok (.return_, 1) := by decide +kernel
theorem dX3_add_0 : decode cX3_add 0 = .ok (.aload_n 0, 1) := by decide +kernel
theorem dX3_add_1 : decode cX3_add 1 = .ok (.getfield 19, 3) := by decide +kernel
theorem dX3_add_4 : decode cX3_add 4 = .ok (.bipush 16, 2) := by decide +kernel
theorem dX3_add_6 : decode cX3_add 6 = .ok (.if_icmp .ge 33, 3) := by decide +kernel
theorem dX3_add_9 : decode cX3_add 9 = .ok (.aload_n 0, 1) := by decide +kernel
theorem dX3_add_10 : decode cX3_add 10 = .ok (.getfield 9, 3) := by decide +kernel
theorem dX3_add_13 : decode cX3_add 13 = .ok (.aload_n 0, 1) := by decide +kernel
theorem dX3_add_14 : decode cX3_add 14 = .ok (.getfield 19, 3) := by decide +kernel
theorem dX3_add_17 : decode cX3_add 17 = .ok (.lload_n 1, 1) := by decide +kernel
theorem dX3_add_18 : decode cX3_add 18 = .ok (.lastore, 1) := by decide +kernel
theorem dX3_add_19 : decode cX3_add 19 = .ok (.aload_n 0, 1) := by decide +kernel
theorem dX3_add_20 : decode cX3_add 20 = .ok (.getfield 15, 3) := by decide +kernel
theorem dX3_add_23 : decode cX3_add 23 = .ok (.aload_n 0, 1) := by decide +kernel
theorem dX3_add_24 : decode cX3_add 24 = .ok (.getfield 19, 3) := by decide +kernel
theorem dX3_add_27 : decode cX3_add 27 = .ok (.iload_n 3, 1) := by decide +kernel
theorem dX3_add_28 : decode cX3_add 28 = .ok (.iastore, 1) := by decide +kernel
theorem dX3_add_29 : decode cX3_add 29 = .ok (.aload_n 0, 1) := by decide +kernel
theorem dX3_add_30 : decode cX3_add 30 = .ok (.dup, 1) := by decide +kernel
theorem dX3_add_31 : decode cX3_add 31 = .ok (.getfield 19, 3) := by decide +kernel
theorem dX3_add_34 : decode cX3_add 34 = .ok (.iconst 1, 1) := by decide +kernel
theorem dX3_add_35 : decode cX3_add 35 = .ok (.iadd, 1) := by decide +kernel
theorem dX3_add_36 : decode cX3_add 36 = .ok (.putfield 19, 3) := by decide +kernel
theorem dX3_add_39 : decode cX3_add 39 = .ok (.return_, 1) := by decide +kernel
theorem dX3_find_0 : decode cX3_find 0 = .ok (.iconst 0, 1) := by decide +kernel
theorem dX3_find_1 : decode cX3_find 1 = .ok (.istore_n 3, 1) := by decide +kernel
theorem dX3_find_2 : decode cX3_find 2 = .ok (.iload_n 3, 1) := by decide +kernel
theorem dX3_find_3 : decode cX3_find 3 = .ok (.aload_n 0, 1) := by decide +kernel
theorem dX3_find_4 : decode cX3_find 4 = .ok (.getfield 19, 3) := by decide +kernel
theorem dX3_find_7 : decode cX3_find 7 = .ok (.if_icmp .ge 27, 3) := by decide +kernel
theorem dX3_find_10 : decode cX3_find 10 = .ok (.aload_n 0, 1) := by decide +kernel
theorem dX3_find_11 : decode cX3_find 11 = .ok (.getfield 9, 3) := by decide +kernel
theorem dX3_find_14 : decode cX3_find 14 = .ok (.iload_n 3, 1) := by decide +kernel
theorem dX3_find_15 : decode cX3_find 15 = .ok (.laload, 1) := by decide +kernel
theorem dX3_find_16 : decode cX3_find 16 = .ok (.lload_n 1, 1) := by decide +kernel
theorem dX3_find_17 : decode cX3_find 17 = .ok (.lcmp, 1) := by decide +kernel
theorem dX3_find_18 : decode cX3_find 18 = .ok (.ifCond .ne 10, 3) := by decide +kernel
theorem dX3_find_21 : decode cX3_find 21 = .ok (.aload_n 0, 1) := by decide +kernel
theorem dX3_find_22 : decode cX3_find 22 = .ok (.getfield 15, 3) := by decide +kernel
theorem dX3_find_25 : decode cX3_find 25 = .ok (.iload_n 3, 1) := by decide +kernel
theorem dX3_find_26 : decode cX3_find 26 = .ok (.iaload, 1) := by decide +kernel
theorem dX3_find_27 : decode cX3_find 27 = .ok (.ireturn, 1) := by decide +kernel
theorem dX3_find_28 : decode cX3_find 28 = .ok (.iinc 3 1, 3) := by decide +kernel
theorem dX3_find_31 : decode cX3_find 31 = .ok (.goto (-29), 3) := by decide +kernel
theorem dX3_find_34 : decode cX3_find 34 = .ok (.iconst (-1), 1) := by decide +kernel
theorem dX3_find_35 : decode cX3_find 35 = .ok (.ireturn, 1) := by decide +kernel
theorem dX7_init_0 : decode cX7_init 0 = .ok (.aload_n 0, 1) := by decide +kernel
theorem dX7_init_1 : decode cX7_init 1 = .ok (.invokespecial 3, 3) := by decide +kernel
theorem dX7_init_4 : decode cX7_init 4 = .ok (.aload_n 0, 1) := by decide +kernel
theorem dX7_init_5 : decode cX7_init 5 = .ok (.sipush 400, 3) := by decide +kernel
theorem dX7_init_8 : decode cX7_init 8 = .ok (.newarray .char, 2) := by decide +kernel
theorem dX7_init_10 : decode cX7_init 10 = .ok (.putfield 9, 3) := by decide +kernel
theorem dX7_init_13 : decode cX7_init 13 = .ok (.return_, 1) := by decide +kernel
theorem dX7_canBeTyped_0 : decode cX7_canBeTyped 0 = .ok (.iload_n 2, 1) := by decide +kernel
theorem dX7_canBeTyped_1 : decode cX7_canBeTyped 1 = .ok (.iconst 1, 1) := by decide +kernel
theorem dX7_canBeTyped_2 : decode cX7_canBeTyped 2 = .ok (.if_icmp .lt 9, 3) := by decide +kernel
theorem dX7_canBeTyped_5 : decode cX7_canBeTyped 5 = .ok (.iload_n 2, 1) := by decide +kernel
theorem dX7_canBeTyped_6 : decode cX7_canBeTyped 6 = .ok (.bipush 8, 2) := by decide +kernel
theorem dX7_canBeTyped_8 : decode cX7_canBeTyped 8 = .ok (.if_icmp .le 5, 3) := by decide +kernel
theorem dX7_canBeTyped_11 : decode cX7_canBeTyped 11 = .ok (.iconst 0, 1) := by decide +kernel
theorem dX7_canBeTyped_12 : decode cX7_canBeTyped 12 = .ok (.ireturn, 1) := by decide +kernel
theorem dX7_canBeTyped_13 : decode cX7_canBeTyped 13 = .ok (.iconst 0, 1) := by decide +kernel
theorem dX7_canBeTyped_14 : decode cX7_canBeTyped 14 = .ok (.istore_n 3, 1) := by decide +kernel
theorem dX7_canBeTyped_15 : decode cX7_canBeTyped 15 = .ok (.iload_n 3, 1) := by decide +kernel
theorem dX7_canBeTyped_16 : decode cX7_canBeTyped 16 = .ok (.iload_n 2, 1) := by decide +kernel
theorem dX7_canBeTyped_17 : decode cX7_canBeTyped 17 = .ok (.if_icmp .ge 39, 3) := by decide +kernel
theorem dX7_canBeTyped_20 : decode cX7_canBeTyped 20 = .ok (.lload_n 0, 1) := by decide +kernel
theorem dX7_canBeTyped_21 : decode cX7_canBeTyped 21 = .ok (.iload_n 3, 1) := by decide +kernel
theorem dX7_canBeTyped_22 : decode cX7_canBeTyped 22 = .ok (.invokestatic 15, 3) := by decide +kernel
theorem dX7_canBeTyped_25 : decode cX7_canBeTyped 25 = .ok (.istore 4, 2) := by decide +kernel
theorem dX7_canBeTyped_27 : decode cX7_canBeTyped 27 = .ok (.iload 4, 2) := by decide +kernel
theorem dX7_canBeTyped_29 : decode cX7_canBeTyped 29 = .ok (.bipush 10, 2) := by decide +kernel
theorem dX7_canBeTyped_31 : decode cX7_canBeTyped 31 = .ok (.if_icmp .eq 19, 3) := by decide +kernel
theorem dX7_canBeTyped_34 : decode cX7_canBeTyped 34 = .ok (.iload 4, 2) := by decide +kernel
theorem dX7_canBeTyped_36 : decode cX7_canBeTyped 36 = .ok (.bipush 32, 2) := by decide +kernel
theorem dX7_canBeTyped_38 : decode cX7_canBeTyped 38 = .ok (.if_icmp .lt 10, 3) := by decide +kernel
theorem dX7_canBeTyped_41 : decode cX7_canBeTyped 41 = .ok (.iload 4, 2) := by decide +kernel
theorem dX7_canBeTyped_43 : decode cX7_canBeTyped 43 = .ok (.bipush 126, 2) := by decide +kernel
theorem dX7_canBeTyped_45 : decode cX7_canBeTyped 45 = .ok (.if_icmp .le 5, 3) := by decide +kernel
theorem dX7_canBeTyped_48 : decode cX7_canBeTyped 48 = .ok (.iconst 0, 1) := by decide +kernel
theorem dX7_canBeTyped_49 : decode cX7_canBeTyped 49 = .ok (.ireturn, 1) := by decide +kernel
theorem dX7_canBeTyped_50 : decode cX7_canBeTyped 50 = .ok (.iinc 3 1, 3) := by decide +kernel
theorem dX7_canBeTyped_53 : decode cX7_canBeTyped 53 = .ok (.goto (-38), 3) := by decide +kernel
theorem dX7_canBeTyped_56 : decode cX7_canBeTyped 56 = .ok (.iconst 1, 1) := by decide +kernel
theorem dX7_canBeTyped_57 : decode cX7_canBeTyped 57 = .ok (.ireturn, 1) := by decide +kernel
theorem dX7_add_0 : decode cX7_add 0 = .ok (.iconst 0, 1) := by decide +kernel
theorem dX7_add_1 : decode cX7_add 1 = .ok (.istore 4, 2) := by decide +kernel
theorem dX7_add_3 : decode cX7_add 3 = .ok (.iload 4, 2) := by decide +kernel
theorem dX7_add_5 : decode cX7_add 5 = .ok (.iload_n 3, 1) := by decide +kernel
theorem dX7_add_6 : decode cX7_add 6 = .ok (.if_icmp .ge 44, 3) := by decide +kernel
theorem dX7_add_9 : decode cX7_add 9 = .ok (.aload_n 0, 1) := by decide +kernel
theorem dX7_add_10 : decode cX7_add 10 = .ok (.getfield 19, 3) := by decide +kernel
theorem dX7_add_13 : decode cX7_add 13 = .ok (.sipush 400, 3) := by decide +kernel
theorem dX7_add_16 : decode cX7_add 16 = .ok (.if_icmp .ge 34, 3) := by decide +kernel
theorem dX7_add_19 : decode cX7_add 19 = .ok (.aload_n 0, 1) := by decide +kernel
theorem dX7_add_20 : decode cX7_add 20 = .ok (.getfield 9, 3) := by decide +kernel
theorem dX7_add_23 : decode cX7_add 23 = .ok (.aload_n 0, 1) := by decide +kernel
theorem dX7_add_24 : decode cX7_add 24 = .ok (.getfield 19, 3) := by decide +kernel
theorem dX7_add_27 : decode cX7_add 27 = .ok (.lload_n 1, 1) := by decide +kernel
theorem dX7_add_28 : decode cX7_add 28 = .ok (.iload 4, 2) := by decide +kernel
theorem dX7_add_30 : decode cX7_add 30 = .ok (.invokestatic 15, 3) := by decide +kernel
theorem dX7_add_33 : decode cX7_add 33 = .ok (.castore, 1) := by decide +kernel
theorem dX7_add_34 : decode cX7_add 34 = .ok (.aload_n 0, 1) := by decide +kernel
theorem dX7_add_35 : decode cX7_add 35 = .ok (.dup, 1) := by decide +kernel
theorem dX7_add_36 : decode cX7_add 36 = .ok (.getfield 19, 3) := by decide +kernel
theorem dX7_add_39 : decode cX7_add 39 = .ok (.iconst 1, 1) := by decide +kernel
theorem dX7_add_40 : decode cX7_add 40 = .ok (.iadd, 1) := by decide +kernel
theorem dX7_add_41 : decode cX7_add 41 = .ok (.putfield 19, 3) := by decide +kernel
theorem dX7_add_44 : decode cX7_add 44 = .ok (.iinc 4 1, 3) := by decide +kernel
theorem dX7_add_47 : decode cX7_add 47 = .ok (.goto (-44), 3) := by decide +kernel
theorem dX7_add_50 : decode cX7_add 50 = .ok (.return_, 1) := by decide +kernel
theorem dX7_byteOf_0 : decode cX7_byteOf 0 = .ok (.lload_n 0, 1) := by decide +kernel
theorem dX7_byteOf_1 : decode cX7_byteOf 1 = .ok (.bipush 8, 2) := by decide +kernel
theorem dX7_byteOf_3 : decode cX7_byteOf 3 = .ok (.iload_n 2, 1) := by decide +kernel
theorem dX7_byteOf_4 : decode cX7_byteOf 4 = .ok (.imul, 1) := by decide +kernel
theorem dX7_byteOf_5 : decode cX7_byteOf 5 = .ok (.lushr, 1) := by decide +kernel
theorem dX7_byteOf_6 : decode cX7_byteOf 6 = .ok (.ldc2_w 23, 3) := by decide +kernel
theorem dX7_byteOf_9 : decode cX7_byteOf 9 = .ok (.land, 1) := by decide +kernel
theorem dX7_byteOf_10 : decode cX7_byteOf 10 = .ok (.l2i, 1) := by decide +kernel
theorem dX7_byteOf_11 : decode cX7_byteOf 11 = .ok (.i2c, 1) := by decide +kernel
theorem dX7_byteOf_12 : decode cX7_byteOf 12 = .ok (.ireturn, 1) := by decide +kernel
theorem dX9_init_0 : decode cX9_init 0 = .ok (.aload_n 0, 1) := by decide +kernel
theorem dX9_init_1 : decode cX9_init 1 = .ok (.invokespecial 3, 3) := by decide +kernel
theorem dX9_init_4 : decode cX9_init 4 = .ok (.aload_n 0, 1) := by decide +kernel
theorem dX9_init_5 : decode cX9_init 5 = .ok (.sipush 401, 3) := by decide +kernel
theorem dX9_init_8 : decode cX9_init 8 = .ok (.newarray .char, 2) := by decide +kernel
theorem dX9_init_10 : decode cX9_init 10 = .ok (.putfield 9, 3) := by decide +kernel
theorem dX9_init_13 : decode cX9_init 13 = .ok (.aload_n 0, 1) := by decide +kernel
theorem dX9_init_14 : decode cX9_init 14 = .ok (.sipush 401, 3) := by decide +kernel
theorem dX9_init_17 : decode cX9_init 17 = .ok (.newarray .long, 2) := by decide +kernel
theorem dX9_init_19 : decode cX9_init 19 = .ok (.putfield 15, 3) := by decide +kernel
theorem dX9_init_22 : decode cX9_init 22 = .ok (.return_, 1) := by decide +kernel
theorem dX9_withLetter_0 : decode cX9_withLetter 0 = .ok (.lload_n 0, 1) := by decide +kernel
theorem dX9_withLetter_1 : decode cX9_withLetter 1 = .ok (.iconst 5, 1) := by decide +kernel
theorem dX9_withLetter_2 : decode cX9_withLetter 2 = .ok (.lshl, 1) := by decide +kernel
theorem dX9_withLetter_3 : decode cX9_withLetter 3 = .ok (.iload_n 2, 1) := by decide +kernel
theorem dX9_withLetter_4 : decode cX9_withLetter 4 = .ok (.bipush 97, 2) := by decide +kernel
theorem dX9_withLetter_6 : decode cX9_withLetter 6 = .ok (.isub, 1) := by decide +kernel
theorem dX9_withLetter_7 : decode cX9_withLetter 7 = .ok (.iconst 1, 1) := by decide +kernel
theorem dX9_withLetter_8 : decode cX9_withLetter 8 = .ok (.iadd, 1) := by decide +kernel
theorem dX9_withLetter_9 : decode cX9_withLetter 9 = .ok (.i2l, 1) := by decide +kernel
theorem dX9_withLetter_10 : decode cX9_withLetter 10 = .ok (.lor, 1) := by decide +kernel
theorem dX9_withLetter_11 : decode cX9_withLetter 11 = .ok (.lreturn, 1) := by decide +kernel
theorem dX9_split_0 : decode cX9_split 0 = .ok (.aload_n 0, 1) := by decide +kernel
theorem dX9_split_1 : decode cX9_split 1 = .ok (.aload_n 1, 1) := by decide +kernel
theorem dX9_split_2 : decode cX9_split 2 = .ok (.getfield 19, 3) := by decide +kernel
theorem dX9_split_5 : decode cX9_split 5 = .ok (.putfield 24, 3) := by decide +kernel
theorem dX9_split_8 : decode cX9_split 8 = .ok (.aload_n 0, 1) := by decide +kernel
theorem dX9_split_9 : decode cX9_split 9 = .ok (.aload_n 1, 1) := by decide +kernel
theorem dX9_split_10 : decode cX9_split 10 = .ok (.getfield 25, 3) := by decide +kernel
theorem dX9_split_13 : decode cX9_split 13 = .ok (.putfield 29, 3) := by decide +kernel
theorem dX9_split_16 : decode cX9_split 16 = .ok (.aload_n 0, 1) := by decide +kernel
theorem dX9_split_17 : decode cX9_split 17 = .ok (.iconst 0, 1) := by decide +kernel
theorem dX9_split_18 : decode cX9_split 18 = .ok (.putfield 30, 3) := by decide +kernel
theorem dX9_split_21 : decode cX9_split 21 = .ok (.aload_n 0, 1) := by decide +kernel
theorem dX9_split_22 : decode cX9_split 22 = .ok (.iconst 0, 1) := by decide +kernel
theorem dX9_split_23 : decode cX9_split 23 = .ok (.putfield 33, 3) := by decide +kernel
theorem dX9_split_26 : decode cX9_split 26 = .ok (.iconst 0, 1) := by decide +kernel
theorem dX9_split_27 : decode cX9_split 27 = .ok (.istore_n 2, 1) := by decide +kernel
theorem dX9_split_28 : decode cX9_split 28 = .ok (.iload_n 2, 1) := by decide +kernel
theorem dX9_split_29 : decode cX9_split 29 = .ok (.sipush 400, 3) := by decide +kernel
theorem dX9_split_32 : decode cX9_split 32 = .ok (.if_icmp .ge 80, 3) := by decide +kernel
theorem dX9_split_35 : decode cX9_split 35 = .ok (.aload_n 0, 1) := by decide +kernel
theorem dX9_split_36 : decode cX9_split 36 = .ok (.getfield 33, 3) := by decide +kernel
theorem dX9_split_39 : decode cX9_split 39 = .ok (.aload_n 0, 1) := by decide +kernel
theorem dX9_split_40 : decode cX9_split 40 = .ok (.getfield 29, 3) := by decide +kernel
theorem dX9_split_43 : decode cX9_split 43 = .ok (.if_icmp .ge 69, 3) := by decide +kernel
theorem dX9_split_46 : decode cX9_split 46 = .ok (.aload_n 0, 1) := by decide +kernel
theorem dX9_split_47 : decode cX9_split 47 = .ok (.getfield 24, 3) := by decide +kernel
theorem dX9_split_50 : decode cX9_split 50 = .ok (.aload_n 0, 1) := by decide +kernel
theorem dX9_split_51 : decode cX9_split 51 = .ok (.getfield 33, 3) := by decide +kernel
theorem dX9_split_54 : decode cX9_split 54 = .ok (.caload, 1) := by decide +kernel
theorem dX9_split_55 : decode cX9_split 55 = .ok (.istore_n 3, 1) := by decide +kernel
theorem dX9_split_56 : decode cX9_split 56 = .ok (.iload_n 3, 1) := by decide +kernel
theorem dX9_split_57 : decode cX9_split 57 = .ok (.invokestatic 36, 3) := by decide +kernel
theorem dX9_split_60 : decode cX9_split 60 = .ok (.ifCond .eq 10, 3) := by decide +kernel
theorem dX9_split_63 : decode cX9_split 63 = .ok (.aload_n 0, 1) := by decide +kernel
theorem dX9_split_64 : decode cX9_split 64 = .ok (.invokevirtual 40, 3) := by decide +kernel
theorem dX9_split_67 : decode cX9_split 67 = .ok (.goto 39, 3) := by decide +kernel
theorem dX9_split_70 : decode cX9_split 70 = .ok (.iload_n 3, 1) := by decide +kernel
theorem dX9_split_71 : decode cX9_split 71 = .ok (.invokestatic 43, 3) := by decide +kernel
theorem dX9_split_74 : decode cX9_split 74 = .ok (.ifCond .ne 9, 3) := by decide +kernel
theorem dX9_split_77 : decode cX9_split 77 = .ok (.iload_n 3, 1) := by decide +kernel
theorem dX9_split_78 : decode cX9_split 78 = .ok (.bipush 45, 2) := by decide +kernel
theorem dX9_split_80 : decode cX9_split 80 = .ok (.if_icmp .ne 21, 3) := by decide +kernel
theorem dX9_split_83 : decode cX9_split 83 = .ok (.aload_n 0, 1) := by decide +kernel
theorem dX9_split_84 : decode cX9_split 84 = .ok (.iload_n 3, 1) := by decide +kernel
theorem dX9_split_85 : decode cX9_split 85 = .ok (.bipush 45, 2) := by decide +kernel
theorem dX9_split_87 : decode cX9_split 87 = .ok (.if_icmp .ne 7, 3) := by decide +kernel
theorem dX9_split_90 : decode cX9_split 90 = .ok (.iconst 1, 1) := by decide +kernel
theorem dX9_split_91 : decode cX9_split 91 = .ok (.goto 4, 3) := by decide +kernel
theorem dX9_split_94 : decode cX9_split 94 = .ok (.iconst 0, 1) := by decide +kernel
theorem dX9_split_95 : decode cX9_split 95 = .ok (.invokevirtual 46, 3) := by decide +kernel
theorem dX9_split_98 : decode cX9_split 98 = .ok (.goto 8, 3) := by decide +kernel
theorem dX9_split_101 : decode cX9_split 101 = .ok (.aload_n 0, 1) := by decide +kernel
theorem dX9_split_102 : decode cX9_split 102 = .ok (.iload_n 3, 1) := by decide +kernel
theorem dX9_split_103 : decode cX9_split 103 = .ok (.invokevirtual 50, 3) := by decide +kernel
theorem dX9_split_106 : decode cX9_split 106 = .ok (.iinc 2 1, 3) := by decide +kernel
theorem dX9_split_109 : decode cX9_split 109 = .ok (.goto (-81), 3) := by decide +kernel
theorem dX9_split_112 : decode cX9_split 112 = .ok (.aload_n 0, 1) := by decide +kernel
theorem dX9_split_113 : decode cX9_split 113 = .ok (.bipush 10, 2) := by decide +kernel
theorem dX9_split_115 : decode cX9_split 115 = .ok (.lconst 0, 1) := by decide +kernel
theorem dX9_split_116 : decode cX9_split 116 = .ok (.invokevirtual 54, 3) := by decide +kernel
theorem dX9_split_119 : decode cX9_split 119 = .ok (.return_, 1) := by decide +kernel
theorem dX9_kindAt_0 : decode cX9_kindAt 0 = .ok (.iload_n 1, 1) := by decide +kernel
theorem dX9_kindAt_1 : decode cX9_kindAt 1 = .ok (.ifCond .lt 20, 3) := by decide +kernel
theorem dX9_kindAt_4 : decode cX9_kindAt 4 = .ok (.iload_n 1, 1) := by decide +kernel
theorem dX9_kindAt_5 : decode cX9_kindAt 5 = .ok (.aload_n 0, 1) := by decide +kernel
theorem dX9_kindAt_6 : decode cX9_kindAt 6 = .ok (.getfield 30, 3) := by decide +kernel
theorem dX9_kindAt_9 : decode cX9_kindAt 9 = .ok (.if_icmp .ge 12, 3) := by decide +kernel
theorem dX9_kindAt_12 : decode cX9_kindAt 12 = .ok (.aload_n 0, 1) := by decide +kernel
theorem dX9_kindAt_13 : decode cX9_kindAt 13 = .ok (.getfield 9, 3) := by decide +kernel
theorem dX9_kindAt_16 : decode cX9_kindAt 16 = .ok (.iload_n 1, 1) := by decide +kernel
theorem dX9_kindAt_17 : decode cX9_kindAt 17 = .ok (.caload, 1) := by decide +kernel
theorem dX9_kindAt_18 : decode cX9_kindAt 18 = .ok (.goto 5, 3) := by decide +kernel
theorem dX9_kindAt_21 : decode cX9_kindAt 21 = .ok (.bipush 10, 2) := by decide +kernel
theorem dX9_kindAt_23 : decode cX9_kindAt 23 = .ok (.ireturn, 1) := by decide +kernel
theorem dX9_valueAt_0 : decode cX9_valueAt 0 = .ok (.iload_n 1, 1) := by decide +kernel
theorem dX9_valueAt_1 : decode cX9_valueAt 1 = .ok (.ifCond .lt 20, 3) := by decide +kernel
theorem dX9_valueAt_4 : decode cX9_valueAt 4 = .ok (.iload_n 1, 1) := by decide +kernel
theorem dX9_valueAt_5 : decode cX9_valueAt 5 = .ok (.aload_n 0, 1) := by decide +kernel
theorem dX9_valueAt_6 : decode cX9_valueAt 6 = .ok (.getfield 30, 3) := by decide +kernel
theorem dX9_valueAt_9 : decode cX9_valueAt 9 = .ok (.if_icmp .ge 12, 3) := by decide +kernel
theorem dX9_valueAt_12 : decode cX9_valueAt 12 = .ok (.aload_n 0, 1) := by decide +kernel
theorem dX9_valueAt_13 : decode cX9_valueAt 13 = .ok (.getfield 15, 3) := by decide +kernel
theorem dX9_valueAt_16 : decode cX9_valueAt 16 = .ok (.iload_n 1, 1) := by decide +kernel
theorem dX9_valueAt_17 : decode cX9_valueAt 17 = .ok (.laload, 1) := by decide +kernel
theorem dX9_valueAt_18 : decode cX9_valueAt 18 = .ok (.goto 4, 3) := by decide +kernel
theorem dX9_valueAt_21 : decode cX9_valueAt 21 = .ok (.lconst 0, 1) := by decide +kernel
theorem dX9_valueAt_22 : decode cX9_valueAt 22 = .ok (.lreturn, 1) := by decide +kernel
theorem dX9_size_0 : decode cX9_size 0 = .ok (.aload_n 0, 1) := by decide +kernel
theorem dX9_size_1 : decode cX9_size 1 = .ok (.getfield 30, 3) := by decide +kernel
theorem dX9_size_4 : decode cX9_size 4 = .ok (.ireturn, 1) := by decide +kernel
theorem dX9_takeMark_0 : decode cX9_takeMark 0 = .ok (.aload_n 0, 1) := by decide +kernel
theorem dX9_takeMark_1 : decode cX9_takeMark 1 = .ok (.dup, 1) := by decide +kernel
theorem dX9_takeMark_2 : decode cX9_takeMark 2 = .ok (.getfield 33, 3) := by decide +kernel
theorem dX9_takeMark_5 : decode cX9_takeMark 5 = .ok (.iconst 1, 1) := by decide +kernel
theorem dX9_takeMark_6 : decode cX9_takeMark 6 = .ok (.iadd, 1) := by decide +kernel
theorem dX9_takeMark_7 : decode cX9_takeMark 7 = .ok (.putfield 33, 3) := by decide +kernel
theorem dX9_takeMark_10 : decode cX9_takeMark 10 = .ok (.iload_n 1, 1) := by decide +kernel
theorem dX9_takeMark_11 : decode cX9_takeMark 11 = .ok (.bipush 10, 2) := by decide +kernel
theorem dX9_takeMark_13 : decode cX9_takeMark 13 = .ok (.if_icmp .eq 9, 3) := by decide +kernel
theorem dX9_takeMark_16 : decode cX9_takeMark 16 = .ok (.iload_n 1, 1) := by decide +kernel
theorem dX9_takeMark_17 : decode cX9_takeMark 17 = .ok (.bipush 59, 2) := by decide +kernel
theorem dX9_takeMark_19 : decode cX9_takeMark 19 = .ok (.if_icmp .ne 13, 3) := by decide +kernel
theorem dX9_takeMark_22 : decode cX9_takeMark 22 = .ok (.aload_n 0, 1) := by decide +kernel
theorem dX9_takeMark_23 : decode cX9_takeMark 23 = .ok (.bipush 10, 2) := by decide +kernel
theorem dX9_takeMark_25 : decode cX9_takeMark 25 = .ok (.lconst 0, 1) := by decide +kernel
theorem dX9_takeMark_26 : decode cX9_takeMark 26 = .ok (.invokevirtual 54, 3) := by decide +kernel
theorem dX9_takeMark_29 : decode cX9_takeMark 29 = .ok (.goto 49, 3) := by decide +kernel
theorem dX9_takeMark_32 : decode cX9_takeMark 32 = .ok (.iload_n 1, 1) := by decide +kernel
theorem dX9_takeMark_33 : decode cX9_takeMark 33 = .ok (.bipush 44, 2) := by decide +kernel
theorem dX9_takeMark_35 : decode cX9_takeMark 35 = .ok (.if_icmp .eq 21, 3) := by decide +kernel
theorem dX9_takeMark_38 : decode cX9_takeMark 38 = .ok (.iload_n 1, 1) := by decide +kernel
theorem dX9_takeMark_39 : decode cX9_takeMark 39 = .ok (.bipush 40, 2) := by decide +kernel
theorem dX9_takeMark_41 : decode cX9_takeMark 41 = .ok (.if_icmp .eq 15, 3) := by decide +kernel
theorem dX9_takeMark_44 : decode cX9_takeMark 44 = .ok (.iload_n 1, 1) := by decide +kernel
theorem dX9_takeMark_45 : decode cX9_takeMark 45 = .ok (.bipush 41, 2) := by decide +kernel
theorem dX9_takeMark_47 : decode cX9_takeMark 47 = .ok (.if_icmp .eq 9, 3) := by decide +kernel
theorem dX9_takeMark_50 : decode cX9_takeMark 50 = .ok (.iload_n 1, 1) := by decide +kernel
theorem dX9_takeMark_51 : decode cX9_takeMark 51 = .ok (.bipush 58, 2) := by decide +kernel
theorem dX9_takeMark_53 : decode cX9_takeMark 53 = .ok (.if_icmp .ne 12, 3) := by decide +kernel
theorem dX9_takeMark_56 : decode cX9_takeMark 56 = .ok (.aload_n 0, 1) := by decide +kernel
theorem dX9_takeMark_57 : decode cX9_takeMark 57 = .ok (.iload_n 1, 1) := by decide +kernel
theorem dX9_takeMark_58 : decode cX9_takeMark 58 = .ok (.lconst 0, 1) := by decide +kernel
theorem dX9_takeMark_59 : decode cX9_takeMark 59 = .ok (.invokevirtual 54, 3) := by decide +kernel
theorem dX9_takeMark_62 : decode cX9_takeMark 62 = .ok (.goto 16, 3) := by decide +kernel
theorem dX9_takeMark_65 : decode cX9_takeMark 65 = .ok (.iload_n 1, 1) := by decide +kernel
theorem dX9_takeMark_66 : decode cX9_takeMark 66 = .ok (.bipush 32, 2) := by decide +kernel
theorem dX9_takeMark_68 : decode cX9_takeMark 68 = .ok (.if_icmp .eq 10, 3) := by decide +kernel
theorem dX9_takeMark_71 : decode cX9_takeMark 71 = .ok (.aload_n 0, 1) := by decide +kernel
theorem dX9_takeMark_72 : decode cX9_takeMark 72 = .ok (.bipush 63, 2) := by decide +kernel
theorem dX9_takeMark_74 : decode cX9_takeMark 74 = .ok (.lconst 0, 1) := by decide +kernel
theorem dX9_takeMark_75 : decode cX9_takeMark 75 = .ok (.invokevirtual 54, 3) := by decide +kernel
theorem dX9_takeMark_78 : decode cX9_takeMark 78 = .ok (.return_, 1) := by decide +kernel
theorem dX9_takeLetters_0 : decode cX9_takeLetters 0 = .ok (.aload_n 0, 1) := by decide +kernel
theorem dX9_takeLetters_1 : decode cX9_takeLetters 1 = .ok (.getfield 33, 3) := by decide +kernel
theorem dX9_takeLetters_4 : decode cX9_takeLetters 4 = .ok (.istore_n 1, 1) := by decide +kernel
theorem dX9_takeLetters_5 : decode cX9_takeLetters 5 = .ok (.lconst 0, 1) := by decide +kernel
theorem dX9_takeLetters_6 : decode cX9_takeLetters 6 = .ok (.lstore_n 2, 1) := by decide +kernel
theorem dX9_takeLetters_7 : decode cX9_takeLetters 7 = .ok (.aload_n 0, 1) := by decide +kernel
theorem dX9_takeLetters_8 : decode cX9_takeLetters 8 = .ok (.getfield 33, 3) := by decide +kernel
theorem dX9_takeLetters_11 : decode cX9_takeLetters 11 = .ok (.aload_n 0, 1) := by decide +kernel
theorem dX9_takeLetters_12 : decode cX9_takeLetters 12 = .ok (.getfield 29, 3) := by decide +kernel
theorem dX9_takeLetters_15 : decode cX9_takeLetters 15 = .ok (.if_icmp .ge 45, 3) := by decide +kernel
theorem dX9_takeLetters_18 : decode cX9_takeLetters 18 = .ok (.aload_n 0, 1) := by decide +kernel
theorem dX9_takeLetters_19 : decode cX9_takeLetters 19 = .ok (.getfield 24, 3) := by decide +kernel
theorem dX9_takeLetters_22 : decode cX9_takeLetters 22 = .ok (.aload_n 0, 1) := by decide +kernel
theorem dX9_takeLetters_23 : decode cX9_takeLetters 23 = .ok (.getfield 33, 3) := by decide +kernel
theorem dX9_takeLetters_26 : decode cX9_takeLetters 26 = .ok (.caload, 1) := by decide +kernel
theorem dX9_takeLetters_27 : decode cX9_takeLetters 27 = .ok (.invokestatic 36, 3) := by decide +kernel
theorem dX9_takeLetters_30 : decode cX9_takeLetters 30 = .ok (.ifCond .eq 30, 3) := by decide +kernel
theorem dX9_takeLetters_33 : decode cX9_takeLetters 33 = .ok (.lload_n 2, 1) := by decide +kernel
theorem dX9_takeLetters_34 : decode cX9_takeLetters 34 = .ok (.aload_n 0, 1) := by decide +kernel
theorem dX9_takeLetters_35 : decode cX9_takeLetters 35 = .ok (.getfield 24, 3) := by decide +kernel
theorem dX9_takeLetters_38 : decode cX9_takeLetters 38 = .ok (.aload_n 0, 1) := by decide +kernel
theorem dX9_takeLetters_39 : decode cX9_takeLetters 39 = .ok (.getfield 33, 3) := by decide +kernel
theorem dX9_takeLetters_42 : decode cX9_takeLetters 42 = .ok (.caload, 1) := by decide +kernel
theorem dX9_takeLetters_43 : decode cX9_takeLetters 43 = .ok (.invokestatic 58, 3) := by decide +kernel
theorem dX9_takeLetters_46 : decode cX9_takeLetters 46 = .ok (.lstore_n 2, 1) := by decide +kernel
theorem dX9_takeLetters_47 : decode cX9_takeLetters 47 = .ok (.aload_n 0, 1) := by decide +kernel
theorem dX9_takeLetters_48 : decode cX9_takeLetters 48 = .ok (.dup, 1) := by decide +kernel
theorem dX9_takeLetters_49 : decode cX9_takeLetters 49 = .ok (.getfield 33, 3) := by decide +kernel
theorem dX9_takeLetters_52 : decode cX9_takeLetters 52 = .ok (.iconst 1, 1) := by decide +kernel
theorem dX9_takeLetters_53 : decode cX9_takeLetters 53 = .ok (.iadd, 1) := by decide +kernel
theorem dX9_takeLetters_54 : decode cX9_takeLetters 54 = .ok (.putfield 33, 3) := by decide +kernel
theorem dX9_takeLetters_57 : decode cX9_takeLetters 57 = .ok (.goto (-50), 3) := by decide +kernel
theorem dX9_takeLetters_60 : decode cX9_takeLetters 60 = .ok (.aload_n 0, 1) := by decide +kernel
theorem dX9_takeLetters_61 : decode cX9_takeLetters 61 = .ok (.getfield 33, 3) := by decide +kernel
theorem dX9_takeLetters_64 : decode cX9_takeLetters 64 = .ok (.iload_n 1, 1) := by decide +kernel
theorem dX9_takeLetters_65 : decode cX9_takeLetters 65 = .ok (.isub, 1) := by decide +kernel
theorem dX9_takeLetters_66 : decode cX9_takeLetters 66 = .ok (.iconst 1, 1) := by decide +kernel
theorem dX9_takeLetters_67 : decode cX9_takeLetters 67 = .ok (.if_icmp .ne 18, 3) := by decide +kernel
theorem dX9_takeLetters_70 : decode cX9_takeLetters 70 = .ok (.aload_n 0, 1) := by decide +kernel
theorem dX9_takeLetters_71 : decode cX9_takeLetters 71 = .ok (.getfield 24, 3) := by decide +kernel
theorem dX9_takeLetters_74 : decode cX9_takeLetters 74 = .ok (.iload_n 1, 1) := by decide +kernel
theorem dX9_takeLetters_75 : decode cX9_takeLetters 75 = .ok (.caload, 1) := by decide +kernel
theorem dX9_takeLetters_76 : decode cX9_takeLetters 76 = .ok (.bipush 120, 2) := by decide +kernel
theorem dX9_takeLetters_78 : decode cX9_takeLetters 78 = .ok (.if_icmp .ne 7, 3) := by decide +kernel
theorem dX9_takeLetters_81 : decode cX9_takeLetters 81 = .ok (.iconst 1, 1) := by decide +kernel
theorem dX9_takeLetters_82 : decode cX9_takeLetters 82 = .ok (.goto 4, 3) := by decide +kernel
theorem dX9_takeLetters_85 : decode cX9_takeLetters 85 = .ok (.iconst 0, 1) := by decide +kernel
theorem dX9_takeLetters_86 : decode cX9_takeLetters 86 = .ok (.istore 4, 2) := by decide +kernel
theorem dX9_takeLetters_88 : decode cX9_takeLetters 88 = .ok (.iload 4, 2) := by decide +kernel
theorem dX9_takeLetters_90 : decode cX9_takeLetters 90 = .ok (.ifCond .eq 36, 3) := by decide +kernel
theorem dX9_takeLetters_93 : decode cX9_takeLetters 93 = .ok (.aload_n 0, 1) := by decide +kernel
theorem dX9_takeLetters_94 : decode cX9_takeLetters 94 = .ok (.getfield 33, 3) := by decide +kernel
theorem dX9_takeLetters_97 : decode cX9_takeLetters 97 = .ok (.aload_n 0, 1) := by decide +kernel
theorem dX9_takeLetters_98 : decode cX9_takeLetters 98 = .ok (.getfield 29, 3) := by decide +kernel
theorem dX9_takeLetters_101 : decode cX9_takeLetters 101 = .ok (.if_icmp .ge 25, 3) := by decide +kernel
theorem dX9_takeLetters_104 : decode cX9_takeLetters 104 = .ok (.aload_n 0, 1) := by decide +kernel
theorem dX9_takeLetters_105 : decode cX9_takeLetters 105 = .ok (.getfield 24, 3) := by decide +kernel
theorem dX9_takeLetters_108 : decode cX9_takeLetters 108 = .ok (.aload_n 0, 1) := by decide +kernel
theorem dX9_takeLetters_109 : decode cX9_takeLetters 109 = .ok (.getfield 33, 3) := by decide +kernel
theorem dX9_takeLetters_112 : decode cX9_takeLetters 112 = .ok (.caload, 1) := by decide +kernel
theorem dX9_takeLetters_113 : decode cX9_takeLetters 113 = .ok (.invokestatic 43, 3) := by decide +kernel
theorem dX9_takeLetters_116 : decode cX9_takeLetters 116 = .ok (.ifCond .eq 10, 3) := by decide +kernel
theorem dX9_takeLetters_119 : decode cX9_takeLetters 119 = .ok (.aload_n 0, 1) := by decide +kernel
theorem dX9_takeLetters_120 : decode cX9_takeLetters 120 = .ok (.invokevirtual 62, 3) := by decide +kernel
theorem dX9_takeLetters_123 : decode cX9_takeLetters 123 = .ok (.goto 26, 3) := by decide +kernel
theorem dX9_takeLetters_126 : decode cX9_takeLetters 126 = .ok (.aload_n 0, 1) := by decide +kernel
theorem dX9_takeLetters_127 : decode cX9_takeLetters 127 = .ok (.aload_n 0, 1) := by decide +kernel
theorem dX9_takeLetters_128 : decode cX9_takeLetters 128 = .ok (.getfield 33, 3) := by decide +kernel
theorem dX9_takeLetters_131 : decode cX9_takeLetters 131 = .ok (.iload_n 1, 1) := by decide +kernel
theorem dX9_takeLetters_132 : decode cX9_takeLetters 132 = .ok (.isub, 1) := by decide +kernel
theorem dX9_takeLetters_133 : decode cX9_takeLetters 133 = .ok (.bipush 8, 2) := by decide +kernel
theorem dX9_takeLetters_135 : decode cX9_takeLetters 135 = .ok (.if_icmp .le 8, 3) := by decide +kernel
theorem dX9_takeLetters_138 : decode cX9_takeLetters 138 = .ok (.bipush 63, 2) := by decide +kernel
theorem dX9_takeLetters_140 : decode cX9_takeLetters 140 = .ok (.goto 5, 3) := by decide +kernel
theorem dX9_takeLetters_143 : decode cX9_takeLetters 143 = .ok (.bipush 97, 2) := by decide +kernel
theorem dX9_takeLetters_145 : decode cX9_takeLetters 145 = .ok (.lload_n 2, 1) := by decide +kernel
theorem dX9_takeLetters_146 : decode cX9_takeLetters 146 = .ok (.invokevirtual 54, 3) := by decide +kernel
theorem dX9_takeLetters_149 : decode cX9_takeLetters 149 = .ok (.return_, 1) := by decide +kernel
theorem dX9_takeRegister_0 : decode cX9_takeRegister 0 = .ok (.aload_n 0, 1) := by decide +kernel
theorem dX9_takeRegister_1 : decode cX9_takeRegister 1 = .ok (.getfield 33, 3) := by decide +kernel
theorem dX9_takeRegister_4 : decode cX9_takeRegister 4 = .ok (.istore_n 1, 1) := by decide +kernel
theorem dX9_takeRegister_5 : decode cX9_takeRegister 5 = .ok (.aload_n 0, 1) := by decide +kernel
theorem dX9_takeRegister_6 : decode cX9_takeRegister 6 = .ok (.invokevirtual 65, 3) := by decide +kernel
theorem dX9_takeRegister_9 : decode cX9_takeRegister 9 = .ok (.lstore_n 2, 1) := by decide +kernel
theorem dX9_takeRegister_10 : decode cX9_takeRegister 10 = .ok (.aload_n 0, 1) := by decide +kernel
theorem dX9_takeRegister_11 : decode cX9_takeRegister 11 = .ok (.aload_n 0, 1) := by decide +kernel
theorem dX9_takeRegister_12 : decode cX9_takeRegister 12 = .ok (.getfield 33, 3) := by decide +kernel
theorem dX9_takeRegister_15 : decode cX9_takeRegister 15 = .ok (.iload_n 1, 1) := by decide +kernel
theorem dX9_takeRegister_16 : decode cX9_takeRegister 16 = .ok (.isub, 1) := by decide +kernel
theorem dX9_takeRegister_17 : decode cX9_takeRegister 17 = .ok (.iconst 2, 1) := by decide +kernel
theorem dX9_takeRegister_18 : decode cX9_takeRegister 18 = .ok (.if_icmp .gt 11, 3) := by decide +kernel
theorem dX9_takeRegister_21 : decode cX9_takeRegister 21 = .ok (.lload_n 2, 1) := by decide +kernel
theorem dX9_takeRegister_22 : decode cX9_takeRegister 22 = .ok (.ldc2_w 69, 3) := by decide +kernel
theorem dX9_takeRegister_25 : decode cX9_takeRegister 25 = .ok (.lcmp, 1) := by decide +kernel
theorem dX9_takeRegister_26 : decode cX9_takeRegister 26 = .ok (.ifCond .lt 8, 3) := by decide +kernel
theorem dX9_takeRegister_29 : decode cX9_takeRegister 29 = .ok (.bipush 63, 2) := by decide +kernel
theorem dX9_takeRegister_31 : decode cX9_takeRegister 31 = .ok (.goto 5, 3) := by decide +kernel
theorem dX9_takeRegister_34 : decode cX9_takeRegister 34 = .ok (.bipush 120, 2) := by decide +kernel
theorem dX9_takeRegister_36 : decode cX9_takeRegister 36 = .ok (.lload_n 2, 1) := by decide +kernel
theorem dX9_takeRegister_37 : decode cX9_takeRegister 37 = .ok (.invokevirtual 54, 3) := by decide +kernel
theorem dX9_takeRegister_40 : decode cX9_takeRegister 40 = .ok (.return_, 1) := by decide +kernel
theorem dX9_takeNumber_0 : decode cX9_takeNumber 0 = .ok (.iload_n 1, 1) := by decide +kernel
theorem dX9_takeNumber_1 : decode cX9_takeNumber 1 = .ok (.ifCond .eq 13, 3) := by decide +kernel
theorem dX9_takeNumber_4 : decode cX9_takeNumber 4 = .ok (.aload_n 0, 1) := by decide +kernel
theorem dX9_takeNumber_5 : decode cX9_takeNumber 5 = .ok (.dup, 1) := by decide +kernel
theorem dX9_takeNumber_6 : decode cX9_takeNumber 6 = .ok (.getfield 33, 3) := by decide +kernel
theorem dX9_takeNumber_9 : decode cX9_takeNumber 9 = .ok (.iconst 1, 1) := by decide +kernel
theorem dX9_takeNumber_10 : decode cX9_takeNumber 10 = .ok (.iadd, 1) := by decide +kernel
theorem dX9_takeNumber_11 : decode cX9_takeNumber 11 = .ok (.putfield 33, 3) := by decide +kernel
theorem dX9_takeNumber_14 : decode cX9_takeNumber 14 = .ok (.aload_n 0, 1) := by decide +kernel
theorem dX9_takeNumber_15 : decode cX9_takeNumber 15 = .ok (.getfield 33, 3) := by decide +kernel
theorem dX9_takeNumber_18 : decode cX9_takeNumber 18 = .ok (.istore_n 2, 1) := by decide +kernel
theorem dX9_takeNumber_19 : decode cX9_takeNumber 19 = .ok (.aload_n 0, 1) := by decide +kernel
theorem dX9_takeNumber_20 : decode cX9_takeNumber 20 = .ok (.invokevirtual 65, 3) := by decide +kernel
theorem dX9_takeNumber_23 : decode cX9_takeNumber 23 = .ok (.lstore_n 3, 1) := by decide +kernel
theorem dX9_takeNumber_24 : decode cX9_takeNumber 24 = .ok (.aload_n 0, 1) := by decide +kernel
theorem dX9_takeNumber_25 : decode cX9_takeNumber 25 = .ok (.aload_n 0, 1) := by decide +kernel
theorem dX9_takeNumber_26 : decode cX9_takeNumber 26 = .ok (.getfield 33, 3) := by decide +kernel
theorem dX9_takeNumber_29 : decode cX9_takeNumber 29 = .ok (.iload_n 2, 1) := by decide +kernel
theorem dX9_takeNumber_30 : decode cX9_takeNumber 30 = .ok (.if_icmp .ne 8, 3) := by decide +kernel
theorem dX9_takeNumber_33 : decode cX9_takeNumber 33 = .ok (.bipush 63, 2) := by decide +kernel
theorem dX9_takeNumber_35 : decode cX9_takeNumber 35 = .ok (.goto 5, 3) := by decide +kernel
theorem dX9_takeNumber_38 : decode cX9_takeNumber 38 = .ok (.bipush 48, 2) := by decide +kernel
theorem dX9_takeNumber_40 : decode cX9_takeNumber 40 = .ok (.iload_n 1, 1) := by decide +kernel
theorem dX9_takeNumber_41 : decode cX9_takeNumber 41 = .ok (.ifCond .eq 8, 3) := by decide +kernel
theorem dX9_takeNumber_44 : decode cX9_takeNumber 44 = .ok (.lload_n 3, 1) := by decide +kernel
theorem dX9_takeNumber_45 : decode cX9_takeNumber 45 = .ok (.lneg, 1) := by decide +kernel
theorem dX9_takeNumber_46 : decode cX9_takeNumber 46 = .ok (.goto 4, 3) := by decide +kernel
theorem dX9_takeNumber_49 : decode cX9_takeNumber 49 = .ok (.lload_n 3, 1) := by decide +kernel
theorem dX9_takeNumber_50 : decode cX9_takeNumber 50 = .ok (.invokevirtual 54, 3) := by decide +kernel
theorem dX9_takeNumber_53 : decode cX9_takeNumber 53 = .ok (.return_, 1) := by decide +kernel
theorem dX9_takeDigits_0 : decode cX9_takeDigits 0 = .ok (.aload_n 0, 1) := by decide +kernel
theorem dX9_takeDigits_1 : decode cX9_takeDigits 1 = .ok (.getfield 33, 3) := by decide +kernel
theorem dX9_takeDigits_4 : decode cX9_takeDigits 4 = .ok (.istore_n 1, 1) := by decide +kernel
theorem dX9_takeDigits_5 : decode cX9_takeDigits 5 = .ok (.lconst 0, 1) := by decide +kernel
theorem dX9_takeDigits_6 : decode cX9_takeDigits 6 = .ok (.lstore_n 2, 1) := by decide +kernel
theorem dX9_takeDigits_7 : decode cX9_takeDigits 7 = .ok (.aload_n 0, 1) := by decide +kernel
theorem dX9_takeDigits_8 : decode cX9_takeDigits 8 = .ok (.getfield 33, 3) := by decide +kernel
theorem dX9_takeDigits_11 : decode cX9_takeDigits 11 = .ok (.aload_n 0, 1) := by decide +kernel
theorem dX9_takeDigits_12 : decode cX9_takeDigits 12 = .ok (.getfield 29, 3) := by decide +kernel
theorem dX9_takeDigits_15 : decode cX9_takeDigits 15 = .ok (.if_icmp .ge 68, 3) := by decide +kernel
theorem dX9_takeDigits_18 : decode cX9_takeDigits 18 = .ok (.aload_n 0, 1) := by decide +kernel
theorem dX9_takeDigits_19 : decode cX9_takeDigits 19 = .ok (.getfield 24, 3) := by decide +kernel
theorem dX9_takeDigits_22 : decode cX9_takeDigits 22 = .ok (.aload_n 0, 1) := by decide +kernel
theorem dX9_takeDigits_23 : decode cX9_takeDigits 23 = .ok (.getfield 33, 3) := by decide +kernel
theorem dX9_takeDigits_26 : decode cX9_takeDigits 26 = .ok (.caload, 1) := by decide +kernel
theorem dX9_takeDigits_27 : decode cX9_takeDigits 27 = .ok (.invokestatic 43, 3) := by decide +kernel
theorem dX9_takeDigits_30 : decode cX9_takeDigits 30 = .ok (.ifCond .eq 53, 3) := by decide +kernel
theorem dX9_takeDigits_33 : decode cX9_takeDigits 33 = .ok (.aload_n 0, 1) := by decide +kernel
theorem dX9_takeDigits_34 : decode cX9_takeDigits 34 = .ok (.getfield 33, 3) := by decide +kernel
theorem dX9_takeDigits_37 : decode cX9_takeDigits 37 = .ok (.iload_n 1, 1) := by decide +kernel
theorem dX9_takeDigits_38 : decode cX9_takeDigits 38 = .ok (.isub, 1) := by decide +kernel
theorem dX9_takeDigits_39 : decode cX9_takeDigits 39 = .ok (.bipush 10, 2) := by decide +kernel
theorem dX9_takeDigits_41 : decode cX9_takeDigits 41 = .ok (.if_icmp .ge 25, 3) := by decide +kernel
theorem dX9_takeDigits_44 : decode cX9_takeDigits 44 = .ok (.lload_n 2, 1) := by decide +kernel
theorem dX9_takeDigits_45 : decode cX9_takeDigits 45 = .ok (.ldc2_w 71, 3) := by decide +kernel
theorem dX9_takeDigits_48 : decode cX9_takeDigits 48 = .ok (.lmul, 1) := by decide +kernel
theorem dX9_takeDigits_49 : decode cX9_takeDigits 49 = .ok (.aload_n 0, 1) := by decide +kernel
theorem dX9_takeDigits_50 : decode cX9_takeDigits 50 = .ok (.getfield 24, 3) := by decide +kernel
theorem dX9_takeDigits_53 : decode cX9_takeDigits 53 = .ok (.aload_n 0, 1) := by decide +kernel
theorem dX9_takeDigits_54 : decode cX9_takeDigits 54 = .ok (.getfield 33, 3) := by decide +kernel
theorem dX9_takeDigits_57 : decode cX9_takeDigits 57 = .ok (.caload, 1) := by decide +kernel
theorem dX9_takeDigits_58 : decode cX9_takeDigits 58 = .ok (.bipush 48, 2) := by decide +kernel
theorem dX9_takeDigits_60 : decode cX9_takeDigits 60 = .ok (.isub, 1) := by decide +kernel
theorem dX9_takeDigits_61 : decode cX9_takeDigits 61 = .ok (.i2l, 1) := by decide +kernel
theorem dX9_takeDigits_62 : decode cX9_takeDigits 62 = .ok (.ladd, 1) := by decide +kernel
theorem dX9_takeDigits_63 : decode cX9_takeDigits 63 = .ok (.goto 6, 3) := by decide +kernel
theorem dX9_takeDigits_66 : decode cX9_takeDigits 66 = .ok (.ldc2_w 73, 3) := by decide +kernel
theorem dX9_takeDigits_69 : decode cX9_takeDigits 69 = .ok (.lstore_n 2, 1) := by decide +kernel
theorem dX9_takeDigits_70 : decode cX9_takeDigits 70 = .ok (.aload_n 0, 1) := by decide +kernel
theorem dX9_takeDigits_71 : decode cX9_takeDigits 71 = .ok (.dup, 1) := by decide +kernel
theorem dX9_takeDigits_72 : decode cX9_takeDigits 72 = .ok (.getfield 33, 3) := by decide +kernel
theorem dX9_takeDigits_75 : decode cX9_takeDigits 75 = .ok (.iconst 1, 1) := by decide +kernel
theorem dX9_takeDigits_76 : decode cX9_takeDigits 76 = .ok (.iadd, 1) := by decide +kernel
theorem dX9_takeDigits_77 : decode cX9_takeDigits 77 = .ok (.putfield 33, 3) := by decide +kernel
theorem dX9_takeDigits_80 : decode cX9_takeDigits 80 = .ok (.goto (-73), 3) := by decide +kernel
theorem dX9_takeDigits_83 : decode cX9_takeDigits 83 = .ok (.lload_n 2, 1) := by decide +kernel
theorem dX9_takeDigits_84 : decode cX9_takeDigits 84 = .ok (.lreturn, 1) := by decide +kernel
theorem dX9_add_0 : decode cX9_add 0 = .ok (.aload_n 0, 1) := by decide +kernel
theorem dX9_add_1 : decode cX9_add 1 = .ok (.getfield 30, 3) := by decide +kernel
theorem dX9_add_4 : decode cX9_add 4 = .ok (.aload_n 0, 1) := by decide +kernel
theorem dX9_add_5 : decode cX9_add 5 = .ok (.getfield 9, 3) := by decide +kernel
theorem dX9_add_8 : decode cX9_add 8 = .ok (.arraylength, 1) := by decide +kernel
theorem dX9_add_9 : decode cX9_add 9 = .ok (.if_icmp .ge 33, 3) := by decide +kernel
theorem dX9_add_12 : decode cX9_add 12 = .ok (.aload_n 0, 1) := by decide +kernel
theorem dX9_add_13 : decode cX9_add 13 = .ok (.getfield 9, 3) := by decide +kernel
theorem dX9_add_16 : decode cX9_add 16 = .ok (.aload_n 0, 1) := by decide +kernel
theorem dX9_add_17 : decode cX9_add 17 = .ok (.getfield 30, 3) := by decide +kernel
theorem dX9_add_20 : decode cX9_add 20 = .ok (.iload_n 1, 1) := by decide +kernel
theorem dX9_add_21 : decode cX9_add 21 = .ok (.castore, 1) := by decide +kernel
theorem dX9_add_22 : decode cX9_add 22 = .ok (.aload_n 0, 1) := by decide +kernel
theorem dX9_add_23 : decode cX9_add 23 = .ok (.getfield 15, 3) := by decide +kernel
theorem dX9_add_26 : decode cX9_add 26 = .ok (.aload_n 0, 1) := by decide +kernel
theorem dX9_add_27 : decode cX9_add 27 = .ok (.getfield 30, 3) := by decide +kernel
theorem dX9_add_30 : decode cX9_add 30 = .ok (.lload_n 2, 1) := by decide +kernel
theorem dX9_add_31 : decode cX9_add 31 = .ok (.lastore, 1) := by decide +kernel
theorem dX9_add_32 : decode cX9_add 32 = .ok (.aload_n 0, 1) := by decide +kernel
theorem dX9_add_33 : decode cX9_add 33 = .ok (.dup, 1) := by decide +kernel
theorem dX9_add_34 : decode cX9_add 34 = .ok (.getfield 30, 3) := by decide +kernel
theorem dX9_add_37 : decode cX9_add 37 = .ok (.iconst 1, 1) := by decide +kernel
theorem dX9_add_38 : decode cX9_add 38 = .ok (.iadd, 1) := by decide +kernel
theorem dX9_add_39 : decode cX9_add 39 = .ok (.putfield 30, 3) := by decide +kernel
theorem dX9_add_42 : decode cX9_add 42 = .ok (.return_, 1) := by decide +kernel
theorem dX9_isLetter_0 : decode cX9_isLetter 0 = .ok (.iload_n 0, 1) := by decide +kernel
theorem dX9_isLetter_1 : decode cX9_isLetter 1 = .ok (.bipush 97, 2) := by decide +kernel
theorem dX9_isLetter_3 : decode cX9_isLetter 3 = .ok (.if_icmp .lt 13, 3) := by decide +kernel
theorem dX9_isLetter_6 : decode cX9_isLetter 6 = .ok (.iload_n 0, 1) := by decide +kernel
theorem dX9_isLetter_7 : decode cX9_isLetter 7 = .ok (.bipush 122, 2) := by decide +kernel
theorem dX9_isLetter_9 : decode cX9_isLetter 9 = .ok (.if_icmp .gt 7, 3) := by decide +kernel
theorem dX9_isLetter_12 : decode cX9_isLetter 12 = .ok (.iconst 1, 1) := by decide +kernel
theorem dX9_isLetter_13 : decode cX9_isLetter 13 = .ok (.goto 4, 3) := by decide +kernel
theorem dX9_isLetter_16 : decode cX9_isLetter 16 = .ok (.iconst 0, 1) := by decide +kernel
theorem dX9_isLetter_17 : decode cX9_isLetter 17 = .ok (.ireturn, 1) := by decide +kernel
theorem dX9_isDigit_0 : decode cX9_isDigit 0 = .ok (.iload_n 0, 1) := by decide +kernel
theorem dX9_isDigit_1 : decode cX9_isDigit 1 = .ok (.bipush 48, 2) := by decide +kernel
theorem dX9_isDigit_3 : decode cX9_isDigit 3 = .ok (.if_icmp .lt 13, 3) := by decide +kernel
theorem dX9_isDigit_6 : decode cX9_isDigit 6 = .ok (.iload_n 0, 1) := by decide +kernel
theorem dX9_isDigit_7 : decode cX9_isDigit 7 = .ok (.bipush 57, 2) := by decide +kernel
theorem dX9_isDigit_9 : decode cX9_isDigit 9 = .ok (.if_icmp .gt 7, 3) := by decide +kernel
theorem dX9_isDigit_12 : decode cX9_isDigit 12 = .ok (.iconst 1, 1) := by decide +kernel
theorem dX9_isDigit_13 : decode cX9_isDigit 13 = .ok (.goto 4, 3) := by decide +kernel
theorem dX9_isDigit_16 : decode cX9_isDigit 16 = .ok (.iconst 0, 1) := by decide +kernel
theorem dX9_isDigit_17 : decode cX9_isDigit 17 = .ok (.ireturn, 1) := by decide +kernel
theorem dJ9_floorMod_7cf53_0 : decode cJ9_floorMod_7cf53 0 = .ok (.iload_n 0, 1) := by decide +kernel
theorem dJ9_floorMod_7cf53_1 : decode cJ9_floorMod_7cf53 1 = .ok (.iload_n 1, 1) := by decide +kernel
theorem dJ9_floorMod_7cf53_2 : decode cJ9_floorMod_7cf53 2 = .ok (.irem, 1) := by decide +kernel
theorem dJ9_floorMod_7cf53_3 : decode cJ9_floorMod_7cf53 3 = .ok (.istore_n 2, 1) := by decide +kernel
theorem dJ9_floorMod_7cf53_4 : decode cJ9_floorMod_7cf53 4 = .ok (.iload_n 0, 1) := by decide +kernel
theorem dJ9_floorMod_7cf53_5 : decode cJ9_floorMod_7cf53 5 = .ok (.iload_n 1, 1) := by decide +kernel
theorem dJ9_floorMod_7cf53_6 : decode cJ9_floorMod_7cf53 6 = .ok (.ixor, 1) := by decide +kernel
theorem dJ9_floorMod_7cf53_7 : decode cJ9_floorMod_7cf53 7 = .ok (.ifCond .ge 11, 3) := by decide +kernel
theorem dJ9_floorMod_7cf53_10 : decode cJ9_floorMod_7cf53 10 = .ok (.iload_n 2, 1) := by decide +kernel
theorem dJ9_floorMod_7cf53_11 : decode cJ9_floorMod_7cf53 11 = .ok (.ifCond .eq 7, 3) := by decide +kernel
theorem dJ9_floorMod_7cf53_14 : decode cJ9_floorMod_7cf53 14 = .ok (.iload_n 2, 1) := by decide +kernel
theorem dJ9_floorMod_7cf53_15 : decode cJ9_floorMod_7cf53 15 = .ok (.iload_n 1, 1) := by decide +kernel
theorem dJ9_floorMod_7cf53_16 : decode cJ9_floorMod_7cf53 16 = .ok (.iadd, 1) := by decide +kernel
theorem dJ9_floorMod_7cf53_17 : decode cJ9_floorMod_7cf53 17 = .ok (.ireturn, 1) := by decide +kernel
theorem dJ9_floorMod_7cf53_18 : decode cJ9_floorMod_7cf53 18 = .ok (.iload_n 2, 1) := by decide +kernel
theorem dJ9_floorMod_7cf53_19 : decode cJ9_floorMod_7cf53 19 = .ok (.ireturn, 1) := by decide +kernel
theorem dJ9_max_7cf53_0 : decode cJ9_max_7cf53 0 = .ok (.iload_n 0, 1) := by decide +kernel
theorem dJ9_max_7cf53_1 : decode cJ9_max_7cf53 1 = .ok (.iload_n 1, 1) := by decide +kernel
theorem dJ9_max_7cf53_2 : decode cJ9_max_7cf53 2 = .ok (.if_icmp .lt 7, 3) := by decide +kernel
theorem dJ9_max_7cf53_5 : decode cJ9_max_7cf53 5 = .ok (.iload_n 0, 1) := by decide +kernel
theorem dJ9_max_7cf53_6 : decode cJ9_max_7cf53 6 = .ok (.goto 4, 3) := by decide +kernel
theorem dJ9_max_7cf53_9 : decode cJ9_max_7cf53 9 = .ok (.iload_n 1, 1) := by decide +kernel
theorem dJ9_max_7cf53_10 : decode cJ9_max_7cf53 10 = .ok (.ireturn, 1) := by decide +kernel
theorem dJ9_max_f86c9_0 : decode cJ9_max_f86c9 0 = .ok (.lload_n 0, 1) := by decide +kernel
theorem dJ9_max_f86c9_1 : decode cJ9_max_f86c9 1 = .ok (.lload_n 2, 1) := by decide +kernel
theorem dJ9_max_f86c9_2 : decode cJ9_max_f86c9 2 = .ok (.lcmp, 1) := by decide +kernel
theorem dJ9_max_f86c9_3 : decode cJ9_max_f86c9 3 = .ok (.ifCond .lt 7, 3) := by decide +kernel
theorem dJ9_max_f86c9_6 : decode cJ9_max_f86c9 6 = .ok (.lload_n 0, 1) := by decide +kernel
theorem dJ9_max_f86c9_7 : decode cJ9_max_f86c9 7 = .ok (.goto 4, 3) := by decide +kernel
theorem dJ9_max_f86c9_10 : decode cJ9_max_f86c9 10 = .ok (.lload_n 2, 1) := by decide +kernel
theorem dJ9_max_f86c9_11 : decode cJ9_max_f86c9 11 = .ok (.lreturn, 1) := by decide +kernel
theorem dJ9_min_7cf53_0 : decode cJ9_min_7cf53 0 = .ok (.iload_n 0, 1) := by decide +kernel
theorem dJ9_min_7cf53_1 : decode cJ9_min_7cf53 1 = .ok (.iload_n 1, 1) := by decide +kernel
theorem dJ9_min_7cf53_2 : decode cJ9_min_7cf53 2 = .ok (.if_icmp .gt 7, 3) := by decide +kernel
theorem dJ9_min_7cf53_5 : decode cJ9_min_7cf53 5 = .ok (.iload_n 0, 1) := by decide +kernel
theorem dJ9_min_7cf53_6 : decode cJ9_min_7cf53 6 = .ok (.goto 4, 3) := by decide +kernel
theorem dJ9_min_7cf53_9 : decode cJ9_min_7cf53 9 = .ok (.iload_n 1, 1) := by decide +kernel
theorem dJ9_min_7cf53_10 : decode cJ9_min_7cf53 10 = .ok (.ireturn, 1) := by decide +kernel
theorem dJ9_min_f86c9_0 : decode cJ9_min_f86c9 0 = .ok (.lload_n 0, 1) := by decide +kernel
theorem dJ9_min_f86c9_1 : decode cJ9_min_f86c9 1 = .ok (.lload_n 2, 1) := by decide +kernel
theorem dJ9_min_f86c9_2 : decode cJ9_min_f86c9 2 = .ok (.lcmp, 1) := by decide +kernel
theorem dJ9_min_f86c9_3 : decode cJ9_min_f86c9 3 = .ok (.ifCond .gt 7, 3) := by decide +kernel
theorem dJ9_min_f86c9_6 : decode cJ9_min_f86c9 6 = .ok (.lload_n 0, 1) := by decide +kernel
theorem dJ9_min_f86c9_7 : decode cJ9_min_f86c9 7 = .ok (.goto 4, 3) := by decide +kernel
theorem dJ9_min_f86c9_10 : decode cJ9_min_f86c9 10 = .ok (.lload_n 2, 1) := by decide +kernel
theorem dJ9_min_f86c9_11 : decode cJ9_min_f86c9 11 = .ok (.lreturn, 1) := by decide +kernel
theorem dJ0_length_8abf5_0 : decode cJ0_length_8abf5 0 = .ok (.aload_n 0, 1) := by decide +kernel
theorem dJ0_length_8abf5_1 : decode cJ0_length_8abf5 1 = .ok (.getfield 9, 3) := by decide +kernel
theorem dJ0_length_8abf5_4 : decode cJ0_length_8abf5 4 = .ok (.arraylength, 1) := by decide +kernel
theorem dJ0_length_8abf5_5 : decode cJ0_length_8abf5 5 = .ok (.aload_n 0, 1) := by decide +kernel
theorem dJ0_length_8abf5_6 : decode cJ0_length_8abf5 6 = .ok (.invokevirtual 335, 3) := by decide +kernel
theorem dJ0_length_8abf5_9 : decode cJ0_length_8abf5 9 = .ok (.ishr, 1) := by decide +kernel
theorem dJ0_length_8abf5_10 : decode cJ0_length_8abf5 10 = .ok (.ireturn, 1) := by decide +kernel
theorem dJ0_charAt_5068e_0 : decode cJ0_charAt_5068e 0 = .ok (.aload_n 0, 1) := by decide +kernel
theorem dJ0_charAt_5068e_1 : decode cJ0_charAt_5068e 1 = .ok (.invokevirtual 492, 3) := by decide +kernel
theorem dJ0_charAt_5068e_4 : decode cJ0_charAt_5068e 4 = .ok (.ifCond .eq 12, 3) := by decide +kernel
theorem dJ0_charAt_5068e_7 : decode cJ0_charAt_5068e 7 = .ok (.aload_n 0, 1) := by decide +kernel
theorem dJ0_charAt_5068e_8 : decode cJ0_charAt_5068e 8 = .ok (.getfield 9, 3) := by decide +kernel
theorem dJ0_charAt_5068e_11 : decode cJ0_charAt_5068e 11 = .ok (.iload_n 1, 1) := by decide +kernel
theorem dJ0_charAt_5068e_12 : decode cJ0_charAt_5068e 12 = .ok (.invokestatic 495, 3) := by decide +kernel
theorem dJ0_charAt_5068e_15 : decode cJ0_charAt_5068e 15 = .ok (.ireturn, 1) := by decide +kernel
theorem dJ0_charAt_5068e_16 : decode cJ0_charAt_5068e 16 = .ok (.aload_n 0, 1) := by decide +kernel
theorem dJ0_charAt_5068e_17 : decode cJ0_charAt_5068e 17 = .ok (.getfield 9, 3) := by decide +kernel
theorem dJ0_charAt_5068e_20 : decode cJ0_charAt_5068e 20 = .ok (.iload_n 1, 1) := by decide +kernel
theorem dJ0_charAt_5068e_21 : decode cJ0_charAt_5068e 21 = .ok (.invokestatic 498, 3) := by decide +kernel
theorem dJ0_charAt_5068e_24 : decode cJ0_charAt_5068e 24 = .ok (.ireturn, 1) := by decide +kernel
theorem dJ0_coder_7d493_0 : decode cJ0_coder_7d493 0 = .ok (.getstatic 38, 3) := by decide +kernel
theorem dJ0_coder_7d493_3 : decode cJ0_coder_7d493 3 = .ok (.ifCond .eq 10, 3) := by decide +kernel
theorem dJ0_coder_7d493_6 : decode cJ0_coder_7d493 6 = .ok (.aload_n 0, 1) := by decide +kernel
theorem dJ0_coder_7d493_7 : decode cJ0_coder_7d493 7 = .ok (.getfield 15, 3) := by decide +kernel
theorem dJ0_coder_7d493_10 : decode cJ0_coder_7d493 10 = .ok (.goto 4, 3) := by decide +kernel
theorem dJ0_coder_7d493_13 : decode cJ0_coder_7d493 13 = .ok (.iconst 1, 1) := by decide +kernel
theorem dJ0_coder_7d493_14 : decode cJ0_coder_7d493 14 = .ok (.ireturn, 1) := by decide +kernel
theorem dJ0_isLatin1_aae02_0 : decode cJ0_isLatin1_aae02 0 = .ok (.getstatic 38, 3) := by decide +kernel
theorem dJ0_isLatin1_aae02_3 : decode cJ0_isLatin1_aae02 3 = .ok (.ifCond .eq 14, 3) := by decide +kernel
theorem dJ0_isLatin1_aae02_6 : decode cJ0_isLatin1_aae02 6 = .ok (.aload_n 0, 1) := by decide +kernel
theorem dJ0_isLatin1_aae02_7 : decode cJ0_isLatin1_aae02 7 = .ok (.getfield 15, 3) := by decide +kernel
theorem dJ0_isLatin1_aae02_10 : decode cJ0_isLatin1_aae02 10 = .ok (.ifCond .ne 7, 3) := by decide +kernel
theorem dJ0_isLatin1_aae02_13 : decode cJ0_isLatin1_aae02 13 = .ok (.iconst 1, 1) := by decide +kernel
theorem dJ0_isLatin1_aae02_14 : decode cJ0_isLatin1_aae02 14 = .ok (.goto 4, 3) := by decide +kernel
theorem dJ0_isLatin1_aae02_17 : decode cJ0_isLatin1_aae02 17 = .ok (.iconst 0, 1) := by decide +kernel
theorem dJ0_isLatin1_aae02_18 : decode cJ0_isLatin1_aae02 18 = .ok (.ireturn, 1) := by decide +kernel
theorem dJ0_checkIndex_df160_0 : decode cJ0_checkIndex_df160 0 = .ok (.iload_n 0, 1) := by decide +kernel
theorem dJ0_checkIndex_df160_1 : decode cJ0_checkIndex_df160 1 = .ok (.iload_n 1, 1) := by decide +kernel
theorem dJ0_checkIndex_df160_2 : decode cJ0_checkIndex_df160 2 = .ok (.getstatic 1053, 3) := by decide +kernel
theorem dJ0_checkIndex_df160_5 : decode cJ0_checkIndex_df160 5 = .ok (.invokestatic 1059, 3) := by decide +kernel
theorem dJ0_checkIndex_df160_8 : decode cJ0_checkIndex_df160 8 = .ok (.pop, 1) := by decide +kernel
theorem dJ0_checkIndex_df160_9 : decode cJ0_checkIndex_df160 9 = .ok (.return_, 1) := by decide +kernel
theorem dJ1_charAt_3b067_0 : decode cJ1_charAt_3b067 0 = .ok (.iload_n 1, 1) := by decide +kernel
theorem dJ1_charAt_3b067_1 : decode cJ1_charAt_3b067 1 = .ok (.aload_n 0, 1) := by decide +kernel
theorem dJ1_charAt_3b067_2 : decode cJ1_charAt_3b067 2 = .ok (.arraylength, 1) := by decide +kernel
theorem dJ1_charAt_3b067_3 : decode cJ1_charAt_3b067 3 = .ok (.invokestatic 9, 3) := by decide +kernel
theorem dJ1_charAt_3b067_6 : decode cJ1_charAt_3b067 6 = .ok (.aload_n 0, 1) := by decide +kernel
theorem dJ1_charAt_3b067_7 : decode cJ1_charAt_3b067 7 = .ok (.iload_n 1, 1) := by decide +kernel
theorem dJ1_charAt_3b067_8 : decode cJ1_charAt_3b067 8 = .ok (.baload, 1) := by decide +kernel
theorem dJ1_charAt_3b067_9 : decode cJ1_charAt_3b067 9 = .ok (.sipush 255, 3) := by decide +kernel
theorem dJ1_charAt_3b067_12 : decode cJ1_charAt_3b067 12 = .ok (.iand, 1) := by decide +kernel
theorem dJ1_charAt_3b067_13 : decode cJ1_charAt_3b067 13 = .ok (.i2c, 1) := by decide +kernel
theorem dJ1_charAt_3b067_14 : decode cJ1_charAt_3b067 14 = .ok (.ireturn, 1) := by decide +kernel
theorem dJ2_getChar_3b067_0 : decode cJ2_getChar_3b067 0 = .ok (.getstatic 44, 3) := by decide +kernel
theorem dJ2_getChar_3b067_3 : decode cJ2_getChar_3b067 3 = .ok (.ifCond .ne 25, 3) := by decide +kernel
theorem dJ2_getChar_3b067_6 : decode cJ2_getChar_3b067 6 = .ok (.iload_n 1, 1) := by decide +kernel
theorem dJ2_getChar_3b067_7 : decode cJ2_getChar_3b067 7 = .ok (.ifCond .lt 11, 3) := by decide +kernel
theorem dJ2_getChar_3b067_10 : decode cJ2_getChar_3b067 10 = .ok (.iload_n 1, 1) := by decide +kernel
theorem dJ2_getChar_3b067_11 : decode cJ2_getChar_3b067 11 = .ok (.aload_n 0, 1) := by decide +kernel
theorem dJ2_getChar_3b067_12 : decode cJ2_getChar_3b067 12 = .ok (.invokestatic 48, 3) := by decide +kernel
theorem dJ2_getChar_3b067_15 : decode cJ2_getChar_3b067 15 = .ok (.if_icmp .lt 13, 3) := by decide +kernel
theorem dJ2_getChar_3b067_18 : decode cJ2_getChar_3b067 18 = .ok (.new 52, 3) := by decide +kernel
theorem dJ2_getChar_3b067_21 : decode cJ2_getChar_3b067 21 = .ok (.dup, 1) := by decide +kernel
theorem dJ2_getChar_3b067_22 : decode cJ2_getChar_3b067 22 = .ok (.ldc 54, 2) := by decide +kernel
theorem dJ2_getChar_3b067_24 : decode cJ2_getChar_3b067 24 = .ok (.invokespecial 56, 3) := by decide +kernel
theorem dJ2_getChar_3b067_27 : decode cJ2_getChar_3b067 27 = .ok (.athrow, 1) := by decide +kernel
theorem dJ2_getChar_3b067_28 : decode cJ2_getChar_3b067 28 = .ok (.iload_n 1, 1) := by decide +kernel
theorem dJ2_getChar_3b067_29 : decode cJ2_getChar_3b067 29 = .ok (.iconst 1, 1) := by decide +kernel
theorem dJ2_getChar_3b067_30 : decode cJ2_getChar_3b067 30 = .ok (.ishl, 1) := by decide +kernel
theorem dJ2_getChar_3b067_31 : decode cJ2_getChar_3b067 31 = .ok (.istore_n 1, 1) := by decide +kernel
theorem dJ2_getChar_3b067_32 : decode cJ2_getChar_3b067 32 = .ok (.aload_n 0, 1) := by decide +kernel
theorem dJ2_getChar_3b067_33 : decode cJ2_getChar_3b067 33 = .ok (.iload_n 1, 1) := by decide +kernel
theorem dJ2_getChar_3b067_34 : decode cJ2_getChar_3b067 34 = .ok (.iinc 1 1, 3) := by decide +kernel
theorem dJ2_getChar_3b067_37 : decode cJ2_getChar_3b067 37 = .ok (.baload, 1) := by decide +kernel
theorem dJ2_getChar_3b067_38 : decode cJ2_getChar_3b067 38 = .ok (.sipush 255, 3) := by decide +kernel
theorem dJ2_getChar_3b067_41 : decode cJ2_getChar_3b067 41 = .ok (.iand, 1) := by decide +kernel
theorem dJ2_getChar_3b067_42 : decode cJ2_getChar_3b067 42 = .ok (.getstatic 59, 3) := by decide +kernel
theorem dJ2_getChar_3b067_45 : decode cJ2_getChar_3b067 45 = .ok (.ishl, 1) := by decide +kernel
theorem dJ2_getChar_3b067_46 : decode cJ2_getChar_3b067 46 = .ok (.aload_n 0, 1) := by decide +kernel
theorem dJ2_getChar_3b067_47 : decode cJ2_getChar_3b067 47 = .ok (.iload_n 1, 1) := by decide +kernel
theorem dJ2_getChar_3b067_48 : decode cJ2_getChar_3b067 48 = .ok (.baload, 1) := by decide +kernel
theorem dJ2_getChar_3b067_49 : decode cJ2_getChar_3b067 49 = .ok (.sipush 255, 3) := by decide +kernel
theorem dJ2_getChar_3b067_52 : decode cJ2_getChar_3b067 52 = .ok (.iand, 1) := by decide +kernel
theorem dJ2_getChar_3b067_53 : decode cJ2_getChar_3b067 53 = .ok (.getstatic 63, 3) := by decide +kernel
theorem dJ2_getChar_3b067_56 : decode cJ2_getChar_3b067 56 = .ok (.ishl, 1) := by decide +kernel
theorem dJ2_getChar_3b067_57 : decode cJ2_getChar_3b067 57 = .ok (.ior, 1) := by decide +kernel
theorem dJ2_getChar_3b067_58 : decode cJ2_getChar_3b067 58 = .ok (.i2c, 1) := by decide +kernel
theorem dJ2_getChar_3b067_59 : decode cJ2_getChar_3b067 59 = .ok (.ireturn, 1) := by decide +kernel
theorem dJ2_length_9d52b_0 : decode cJ2_length_9d52b 0 = .ok (.aload_n 0, 1) := by decide +kernel
theorem dJ2_length_9d52b_1 : decode cJ2_length_9d52b 1 = .ok (.arraylength, 1) := by decide +kernel
theorem dJ2_length_9d52b_2 : decode cJ2_length_9d52b 2 = .ok (.iconst 1, 1) := by decide +kernel
theorem dJ2_length_9d52b_3 : decode cJ2_length_9d52b 3 = .ok (.ishr, 1) := by decide +kernel
theorem dJ2_length_9d52b_4 : decode cJ2_length_9d52b 4 = .ok (.ireturn, 1) := by decide +kernel
theorem dJ2_charAt_3b067_0 : decode cJ2_charAt_3b067 0 = .ok (.iload_n 1, 1) := by decide +kernel
theorem dJ2_charAt_3b067_1 : decode cJ2_charAt_3b067 1 = .ok (.aload_n 0, 1) := by decide +kernel
theorem dJ2_charAt_3b067_2 : decode cJ2_charAt_3b067 2 = .ok (.invokestatic 67, 3) := by decide +kernel
theorem dJ2_charAt_3b067_5 : decode cJ2_charAt_3b067 5 = .ok (.aload_n 0, 1) := by decide +kernel
theorem dJ2_charAt_3b067_6 : decode cJ2_charAt_3b067 6 = .ok (.iload_n 1, 1) := by decide +kernel
theorem dJ2_charAt_3b067_7 : decode cJ2_charAt_3b067 7 = .ok (.invokestatic 71, 3) := by decide +kernel
theorem dJ2_charAt_3b067_10 : decode cJ2_charAt_3b067 10 = .ok (.ireturn, 1) := by decide +kernel
theorem dJ2_checkIndex_2214a_0 : decode cJ2_checkIndex_2214a 0 = .ok (.iload_n 0, 1) := by decide +kernel
theorem dJ2_checkIndex_2214a_1 : decode cJ2_checkIndex_2214a 1 = .ok (.aload_n 1, 1) := by decide +kernel
theorem dJ2_checkIndex_2214a_2 : decode cJ2_checkIndex_2214a 2 = .ok (.invokestatic 48, 3) := by decide +kernel
theorem dJ2_checkIndex_2214a_5 : decode cJ2_checkIndex_2214a 5 = .ok (.invokestatic 414, 3) := by decide +kernel
theorem dJ2_checkIndex_2214a_8 : decode cJ2_checkIndex_2214a 8 = .ok (.return_, 1) := by decide +kernel
theorem dJ3_checkIndex_8e157_0 : decode cJ3_checkIndex_8e157 0 = .ok (.iload_n 0, 1) := by decide +kernel
theorem dJ3_checkIndex_8e157_1 : decode cJ3_checkIndex_8e157 1 = .ok (.ifCond .lt 8, 3) := by decide +kernel
theorem dJ3_checkIndex_8e157_4 : decode cJ3_checkIndex_8e157 4 = .ok (.iload_n 0, 1) := by decide +kernel
theorem dJ3_checkIndex_8e157_5 : decode cJ3_checkIndex_8e157 5 = .ok (.iload_n 1, 1) := by decide +kernel
theorem dJ3_checkIndex_8e157_6 : decode cJ3_checkIndex_8e157 6 = .ok (.if_icmp .lt 10, 3) := by decide +kernel
theorem dJ3_checkIndex_8e157_9 : decode cJ3_checkIndex_8e157 9 = .ok (.aload_n 2, 1) := by decide +kernel
theorem dJ3_checkIndex_8e157_10 : decode cJ3_checkIndex_8e157 10 = .ok (.iload_n 0, 1) := by decide +kernel
theorem dJ3_checkIndex_8e157_11 : decode cJ3_checkIndex_8e157 11 = .ok (.iload_n 1, 1) := by decide +kernel
theorem dJ3_checkIndex_8e157_12 : decode cJ3_checkIndex_8e157 12 = .ok (.invokestatic 95, 3) := by decide +kernel
theorem dJ3_checkIndex_8e157_15 : decode cJ3_checkIndex_8e157 15 = .ok (.athrow, 1) := by decide +kernel
theorem dJ3_checkIndex_8e157_16 : decode cJ3_checkIndex_8e157 16 = .ok (.iload_n 0, 1) := by decide +kernel
theorem dJ3_checkIndex_8e157_17 : decode cJ3_checkIndex_8e157 17 = .ok (.ireturn, 1) := by decide +kernel
theorem dL_cell_0 : decode cL_cell 0 = .ok (.iload_n 1, 1) := by decide +kernel
theorem dL_cell_1 : decode cL_cell 1 = .ok (.aload_n 0, 1) := by decide +kernel
theorem dL_cell_2 : decode cL_cell 2 = .ok (.arraylength, 1) := by decide +kernel
theorem dL_cell_3 : decode cL_cell 3 = .ok (.if_icmp .ge 9, 3) := by decide +kernel
theorem dL_cell_6 : decode cL_cell 6 = .ok (.aload_n 0, 1) := by decide +kernel
theorem dL_cell_7 : decode cL_cell 7 = .ok (.iload_n 1, 1) := by decide +kernel
theorem dL_cell_8 : decode cL_cell 8 = .ok (.iaload, 1) := by decide +kernel
theorem dL_cell_9 : decode cL_cell 9 = .ok (.goto 4, 3) := by decide +kernel
theorem dL_cell_12 : decode cL_cell 12 = .ok (.iconst 0, 1) := by decide +kernel
theorem dL_cell_13 : decode cL_cell 13 = .ok (.ireturn, 1) := by decide +kernel
theorem dL_type_0 : decode cL_type 0 = .ok (.aload 4, 2) := by decide +kernel
theorem dL_type_2 : decode cL_type 2 = .ok (.iconst 0, 1) := by decide +kernel
theorem dL_type_3 : decode cL_type 3 = .ok (.aload_n 0, 1) := by decide +kernel
theorem dL_type_4 : decode cL_type 4 = .ok (.lload_n 1, 1) := by decide +kernel
theorem dL_type_5 : decode cL_type 5 = .ok (.iload_n 3, 1) := by decide +kernel
theorem dL_type_6 : decode cL_type 6 = .ok (.invokevirtual 7, 3) := by decide +kernel
theorem dL_type_9 : decode cL_type 9 = .ok (.i2l, 1) := by decide +kernel
theorem dL_type_10 : decode cL_type 10 = .ok (.lastore, 1) := by decide +kernel
theorem dL_type_11 : decode cL_type 11 = .ok (.goto 11, 3) := by decide +kernel
theorem dL_type_14 : decode cL_type 14 = .ok (.astore 5, 2) := by decide +kernel
theorem dL_type_16 : decode cL_type 16 = .ok (.iconst 1, 1) := by decide +kernel
theorem dL_type_17 : decode cL_type 17 = .ok (.ireturn, 1) := by decide +kernel
theorem dL_type_18 : decode cL_type 18 = .ok (.astore 5, 2) := by decide +kernel
theorem dL_type_20 : decode cL_type 20 = .ok (.iconst 2, 1) := by decide +kernel
theorem dL_type_21 : decode cL_type 21 = .ok (.ireturn, 1) := by decide +kernel
theorem dL_type_22 : decode cL_type 22 = .ok (.iconst 0, 1) := by decide +kernel
theorem dL_type_23 : decode cL_type 23 = .ok (.ireturn, 1) := by decide +kernel
theorem dL_assemble_0 : decode cL_assemble 0 = .ok (.aload_n 3, 1) := by decide +kernel
theorem dL_assemble_1 : decode cL_assemble 1 = .ok (.iconst 0, 1) := by decide +kernel
theorem dL_assemble_2 : decode cL_assemble 2 = .ok (.aload_n 0, 1) := by decide +kernel
theorem dL_assemble_3 : decode cL_assemble 3 = .ok (.iload_n 1, 1) := by decide +kernel
theorem dL_assemble_4 : decode cL_assemble 4 = .ok (.iload_n 2, 1) := by decide +kernel
theorem dL_assemble_5 : decode cL_assemble 5 = .ok (.invokevirtual 17, 3) := by decide +kernel
theorem dL_assemble_8 : decode cL_assemble 8 = .ok (.i2l, 1) := by decide +kernel
theorem dL_assemble_9 : decode cL_assemble 9 = .ok (.lastore, 1) := by decide +kernel
theorem dL_assemble_10 : decode cL_assemble 10 = .ok (.goto 11, 3) := by decide +kernel
theorem dL_assemble_13 : decode cL_assemble 13 = .ok (.astore 4, 2) := by decide +kernel
theorem dL_assemble_15 : decode cL_assemble 15 = .ok (.iconst 1, 1) := by decide +kernel
theorem dL_assemble_16 : decode cL_assemble 16 = .ok (.ireturn, 1) := by decide +kernel
theorem dL_assemble_17 : decode cL_assemble 17 = .ok (.astore 4, 2) := by decide +kernel
theorem dL_assemble_19 : decode cL_assemble 19 = .ok (.iconst 2, 1) := by decide +kernel
theorem dL_assemble_20 : decode cL_assemble 20 = .ok (.ireturn, 1) := by decide +kernel
theorem dL_assemble_21 : decode cL_assemble 21 = .ok (.iconst 0, 1) := by decide +kernel
theorem dL_assemble_22 : decode cL_assemble 22 = .ok (.ireturn, 1) := by decide +kernel
theorem dL_law_0 : decode cL_law 0 = .ok (.new 8, 3) := by decide +kernel
theorem dL_law_3 : decode cL_law 3 = .ok (.dup, 1) := by decide +kernel
theorem dL_law_4 : decode cL_law 4 = .ok (.aload_n 0, 1) := by decide +kernel
theorem dL_law_5 : decode cL_law 5 = .ok (.iconst 0, 1) := by decide +kernel
theorem dL_law_6 : decode cL_law 6 = .ok (.invokestatic 23, 3) := by decide +kernel
theorem dL_law_9 : decode cL_law 9 = .ok (.invokespecial 29, 3) := by decide +kernel
theorem dL_law_12 : decode cL_law 12 = .ok (.astore_n 1, 1) := by decide +kernel
theorem dL_law_13 : decode cL_law 13 = .ok (.new 32, 3) := by decide +kernel
theorem dL_law_16 : decode cL_law 16 = .ok (.dup, 1) := by decide +kernel
theorem dL_law_17 : decode cL_law 17 = .ok (.aload_n 0, 1) := by decide +kernel
theorem dL_law_18 : decode cL_law 18 = .ok (.iconst 0, 1) := by decide +kernel
theorem dL_law_19 : decode cL_law 19 = .ok (.invokestatic 23, 3) := by decide +kernel
theorem dL_law_22 : decode cL_law 22 = .ok (.invokespecial 34, 3) := by decide +kernel
theorem dL_law_25 : decode cL_law 25 = .ok (.astore_n 2, 1) := by decide +kernel
theorem dL_law_26 : decode cL_law 26 = .ok (.iconst 1, 1) := by decide +kernel
theorem dL_law_27 : decode cL_law 27 = .ok (.newarray .long, 2) := by decide +kernel
theorem dL_law_29 : decode cL_law 29 = .ok (.astore_n 3, 1) := by decide +kernel
theorem dL_law_30 : decode cL_law 30 = .ok (.iconst 1, 1) := by decide +kernel
theorem dL_law_31 : decode cL_law 31 = .ok (.istore 4, 2) := by decide +kernel
theorem dL_law_33 : decode cL_law 33 = .ok (.iload 4, 2) := by decide +kernel
theorem dL_law_35 : decode cL_law 35 = .ok (.aload_n 0, 1) := by decide +kernel
theorem dL_law_36 : decode cL_law 36 = .ok (.arraylength, 1) := by decide +kernel
theorem dL_law_37 : decode cL_law 37 = .ok (.iconst 4, 1) := by decide +kernel
theorem dL_law_38 : decode cL_law 38 = .ok (.isub, 1) := by decide +kernel
theorem dL_law_39 : decode cL_law 39 = .ok (.if_icmp .gt 651, 3) := by decide +kernel
theorem dL_law_42 : decode cL_law 42 = .ok (.aload_n 0, 1) := by decide +kernel
theorem dL_law_43 : decode cL_law 43 = .ok (.iload 4, 2) := by decide +kernel
theorem dL_law_45 : decode cL_law 45 = .ok (.iaload, 1) := by decide +kernel
theorem dL_law_46 : decode cL_law 46 = .ok (.bipush 15, 2) := by decide +kernel
theorem dL_law_48 : decode cL_law 48 = .ok (.iand, 1) := by decide +kernel
theorem dL_law_49 : decode cL_law 49 = .ok (.tableswitch 635 0 13 #[71, 171, 184, 252, 277, 314, 363, 388, 437, 474, 499, 512, 549, 586], 71) := by decide +kernel
theorem dL_law_120 : decode cL_law 120 = .ok (.aload_n 1, 1) := by decide +kernel
theorem dL_law_121 : decode cL_law 121 = .ok (.aload_n 0, 1) := by decide +kernel
theorem dL_law_122 : decode cL_law 122 = .ok (.iload 4, 2) := by decide +kernel
theorem dL_law_124 : decode cL_law 124 = .ok (.iconst 1, 1) := by decide +kernel
theorem dL_law_125 : decode cL_law 125 = .ok (.iadd, 1) := by decide +kernel
theorem dL_law_126 : decode cL_law 126 = .ok (.iaload, 1) := by decide +kernel
theorem dL_law_127 : decode cL_law 127 = .ok (.i2l, 1) := by decide +kernel
theorem dL_law_128 : decode cL_law 128 = .ok (.bipush 32, 2) := by decide +kernel
theorem dL_law_130 : decode cL_law 130 = .ok (.lshl, 1) := by decide +kernel
theorem dL_law_131 : decode cL_law 131 = .ok (.aload_n 0, 1) := by decide +kernel
theorem dL_law_132 : decode cL_law 132 = .ok (.iload 4, 2) := by decide +kernel
theorem dL_law_134 : decode cL_law 134 = .ok (.iconst 2, 1) := by decide +kernel
theorem dL_law_135 : decode cL_law 135 = .ok (.iadd, 1) := by decide +kernel
theorem dL_law_136 : decode cL_law 136 = .ok (.iaload, 1) := by decide +kernel
theorem dL_law_137 : decode cL_law 137 = .ok (.i2l, 1) := by decide +kernel
theorem dL_law_138 : decode cL_law 138 = .ok (.ldc2_w 35, 3) := by decide +kernel
theorem dL_law_141 : decode cL_law 141 = .ok (.land, 1) := by decide +kernel
theorem dL_law_142 : decode cL_law 142 = .ok (.lor, 1) := by decide +kernel
theorem dL_law_143 : decode cL_law 143 = .ok (.aload_n 0, 1) := by decide +kernel
theorem dL_law_144 : decode cL_law 144 = .ok (.iload 4, 2) := by decide +kernel
theorem dL_law_146 : decode cL_law 146 = .ok (.iconst 3, 1) := by decide +kernel
theorem dL_law_147 : decode cL_law 147 = .ok (.iadd, 1) := by decide +kernel
theorem dL_law_148 : decode cL_law 148 = .ok (.iaload, 1) := by decide +kernel
theorem dL_law_149 : decode cL_law 149 = .ok (.aload_n 3, 1) := by decide +kernel
theorem dL_law_150 : decode cL_law 150 = .ok (.invokestatic 37, 3) := by decide +kernel
theorem dL_law_153 : decode cL_law 153 = .ok (.istore 5, 2) := by decide +kernel
theorem dL_law_155 : decode cL_law 155 = .ok (.aload_n 2, 1) := by decide +kernel
theorem dL_law_156 : decode cL_law 156 = .ok (.aload_n 0, 1) := by decide +kernel
theorem dL_law_157 : decode cL_law 157 = .ok (.iload 4, 2) := by decide +kernel
theorem dL_law_159 : decode cL_law 159 = .ok (.iconst 1, 1) := by decide +kernel
theorem dL_law_160 : decode cL_law 160 = .ok (.iadd, 1) := by decide +kernel
theorem dL_law_161 : decode cL_law 161 = .ok (.iaload, 1) := by decide +kernel
theorem dL_law_162 : decode cL_law 162 = .ok (.i2l, 1) := by decide +kernel
theorem dL_law_163 : decode cL_law 163 = .ok (.bipush 32, 2) := by decide +kernel
theorem dL_law_165 : decode cL_law 165 = .ok (.lshl, 1) := by decide +kernel
theorem dL_law_166 : decode cL_law 166 = .ok (.aload_n 0, 1) := by decide +kernel
theorem dL_law_167 : decode cL_law 167 = .ok (.iload 4, 2) := by decide +kernel
theorem dL_law_169 : decode cL_law 169 = .ok (.iconst 2, 1) := by decide +kernel
theorem dL_law_170 : decode cL_law 170 = .ok (.iadd, 1) := by decide +kernel
theorem dL_law_171 : decode cL_law 171 = .ok (.iaload, 1) := by decide +kernel
theorem dL_law_172 : decode cL_law 172 = .ok (.i2l, 1) := by decide +kernel
theorem dL_law_173 : decode cL_law 173 = .ok (.ldc2_w 35, 3) := by decide +kernel
theorem dL_law_176 : decode cL_law 176 = .ok (.land, 1) := by decide +kernel
theorem dL_law_177 : decode cL_law 177 = .ok (.lor, 1) := by decide +kernel
theorem dL_law_178 : decode cL_law 178 = .ok (.aload_n 0, 1) := by decide +kernel
theorem dL_law_179 : decode cL_law 179 = .ok (.iload 4, 2) := by decide +kernel
theorem dL_law_181 : decode cL_law 181 = .ok (.iconst 3, 1) := by decide +kernel
theorem dL_law_182 : decode cL_law 182 = .ok (.iadd, 1) := by decide +kernel
theorem dL_law_183 : decode cL_law 183 = .ok (.iaload, 1) := by decide +kernel
theorem dL_law_184 : decode cL_law 184 = .ok (.invokevirtual 40, 3) := by decide +kernel
theorem dL_law_187 : decode cL_law 187 = .ok (.istore 6, 2) := by decide +kernel
theorem dL_law_189 : decode cL_law 189 = .ok (.aload_n 2, 1) := by decide +kernel
theorem dL_law_190 : decode cL_law 190 = .ok (.invokevirtual 41, 3) := by decide +kernel
theorem dL_law_193 : decode cL_law 193 = .ok (.iload 5, 2) := by decide +kernel
theorem dL_law_195 : decode cL_law 195 = .ok (.if_icmp .eq 5, 3) := by decide +kernel
theorem dL_law_198 : decode cL_law 198 = .ok (.iconst 0, 1) := by decide +kernel
theorem dL_law_199 : decode cL_law 199 = .ok (.ireturn, 1) := by decide +kernel
theorem dL_law_200 : decode cL_law 200 = .ok (.iload 5, 2) := by decide +kernel
theorem dL_law_202 : decode cL_law 202 = .ok (.ifCond .ne 15, 3) := by decide +kernel
theorem dL_law_205 : decode cL_law 205 = .ok (.aload_n 3, 1) := by decide +kernel
theorem dL_law_206 : decode cL_law 206 = .ok (.iconst 0, 1) := by decide +kernel
theorem dL_law_207 : decode cL_law 207 = .ok (.laload, 1) := by decide +kernel
theorem dL_law_208 : decode cL_law 208 = .ok (.iload 6, 2) := by decide +kernel
theorem dL_law_210 : decode cL_law 210 = .ok (.i2l, 1) := by decide +kernel
theorem dL_law_211 : decode cL_law 211 = .ok (.lcmp, 1) := by decide +kernel
theorem dL_law_212 : decode cL_law 212 = .ok (.ifCond .eq 5, 3) := by decide +kernel
theorem dL_law_215 : decode cL_law 215 = .ok (.iconst 0, 1) := by decide +kernel
theorem dL_law_216 : decode cL_law 216 = .ok (.ireturn, 1) := by decide +kernel
theorem dL_law_217 : decode cL_law 217 = .ok (.goto 467, 3) := by decide +kernel
theorem dL_law_220 : decode cL_law 220 = .ok (.aload_n 1, 1) := by decide +kernel
theorem dL_law_221 : decode cL_law 221 = .ok (.invokevirtual 45, 3) := by decide +kernel
theorem dL_law_224 : decode cL_law 224 = .ok (.aload_n 2, 1) := by decide +kernel
theorem dL_law_225 : decode cL_law 225 = .ok (.invokevirtual 48, 3) := by decide +kernel
theorem dL_law_228 : decode cL_law 228 = .ok (.if_icmp .eq 456, 3) := by decide +kernel
theorem dL_law_231 : decode cL_law 231 = .ok (.iconst 0, 1) := by decide +kernel
theorem dL_law_232 : decode cL_law 232 = .ok (.ireturn, 1) := by decide +kernel
theorem dL_law_233 : decode cL_law 233 = .ok (.aload_n 1, 1) := by decide +kernel
theorem dL_law_234 : decode cL_law 234 = .ok (.aload_n 0, 1) := by decide +kernel
theorem dL_law_235 : decode cL_law 235 = .ok (.iload 4, 2) := by decide +kernel
theorem dL_law_237 : decode cL_law 237 = .ok (.iconst 1, 1) := by decide +kernel
theorem dL_law_238 : decode cL_law 238 = .ok (.iadd, 1) := by decide +kernel
theorem dL_law_239 : decode cL_law 239 = .ok (.iaload, 1) := by decide +kernel
theorem dL_law_240 : decode cL_law 240 = .ok (.aload_n 0, 1) := by decide +kernel
theorem dL_law_241 : decode cL_law 241 = .ok (.iload 4, 2) := by decide +kernel
theorem dL_law_243 : decode cL_law 243 = .ok (.iconst 2, 1) := by decide +kernel
theorem dL_law_244 : decode cL_law 244 = .ok (.iadd, 1) := by decide +kernel
theorem dL_law_245 : decode cL_law 245 = .ok (.iaload, 1) := by decide +kernel
theorem dL_law_246 : decode cL_law 246 = .ok (.aload_n 3, 1) := by decide +kernel
theorem dL_law_247 : decode cL_law 247 = .ok (.invokestatic 49, 3) := by decide +kernel
theorem dL_law_250 : decode cL_law 250 = .ok (.istore 5, 2) := by decide +kernel
theorem dL_law_252 : decode cL_law 252 = .ok (.aload_n 2, 1) := by decide +kernel
theorem dL_law_253 : decode cL_law 253 = .ok (.aload_n 0, 1) := by decide +kernel
theorem dL_law_254 : decode cL_law 254 = .ok (.iload 4, 2) := by decide +kernel
theorem dL_law_256 : decode cL_law 256 = .ok (.iconst 1, 1) := by decide +kernel
theorem dL_law_257 : decode cL_law 257 = .ok (.iadd, 1) := by decide +kernel
theorem dL_law_258 : decode cL_law 258 = .ok (.iaload, 1) := by decide +kernel
theorem dL_law_259 : decode cL_law 259 = .ok (.aload_n 0, 1) := by decide +kernel
theorem dL_law_260 : decode cL_law 260 = .ok (.iload 4, 2) := by decide +kernel
theorem dL_law_262 : decode cL_law 262 = .ok (.iconst 2, 1) := by decide +kernel
theorem dL_law_263 : decode cL_law 263 = .ok (.iadd, 1) := by decide +kernel
theorem dL_law_264 : decode cL_law 264 = .ok (.iaload, 1) := by decide +kernel
theorem dL_law_265 : decode cL_law 265 = .ok (.invokevirtual 52, 3) := by decide +kernel
theorem dL_law_268 : decode cL_law 268 = .ok (.istore 6, 2) := by decide +kernel
theorem dL_law_270 : decode cL_law 270 = .ok (.aload_n 2, 1) := by decide +kernel
theorem dL_law_271 : decode cL_law 271 = .ok (.invokevirtual 41, 3) := by decide +kernel
theorem dL_law_274 : decode cL_law 274 = .ok (.iload 5, 2) := by decide +kernel
theorem dL_law_276 : decode cL_law 276 = .ok (.if_icmp .eq 5, 3) := by decide +kernel
theorem dL_law_279 : decode cL_law 279 = .ok (.iconst 0, 1) := by decide +kernel
theorem dL_law_280 : decode cL_law 280 = .ok (.ireturn, 1) := by decide +kernel
theorem dL_law_281 : decode cL_law 281 = .ok (.iload 5, 2) := by decide +kernel
theorem dL_law_283 : decode cL_law 283 = .ok (.ifCond .ne 15, 3) := by decide +kernel
theorem dL_law_286 : decode cL_law 286 = .ok (.aload_n 3, 1) := by decide +kernel
theorem dL_law_287 : decode cL_law 287 = .ok (.iconst 0, 1) := by decide +kernel
theorem dL_law_288 : decode cL_law 288 = .ok (.laload, 1) := by decide +kernel
theorem dL_law_289 : decode cL_law 289 = .ok (.iload 6, 2) := by decide +kernel
theorem dL_law_291 : decode cL_law 291 = .ok (.i2l, 1) := by decide +kernel
theorem dL_law_292 : decode cL_law 292 = .ok (.lcmp, 1) := by decide +kernel
theorem dL_law_293 : decode cL_law 293 = .ok (.ifCond .eq 5, 3) := by decide +kernel
theorem dL_law_296 : decode cL_law 296 = .ok (.iconst 0, 1) := by decide +kernel
theorem dL_law_297 : decode cL_law 297 = .ok (.ireturn, 1) := by decide +kernel
theorem dL_law_298 : decode cL_law 298 = .ok (.goto 386, 3) := by decide +kernel
theorem dL_law_301 : decode cL_law 301 = .ok (.aload_n 1, 1) := by decide +kernel
theorem dL_law_302 : decode cL_law 302 = .ok (.aload_n 0, 1) := by decide +kernel
theorem dL_law_303 : decode cL_law 303 = .ok (.iload 4, 2) := by decide +kernel
theorem dL_law_305 : decode cL_law 305 = .ok (.iconst 1, 1) := by decide +kernel
theorem dL_law_306 : decode cL_law 306 = .ok (.iadd, 1) := by decide +kernel
theorem dL_law_307 : decode cL_law 307 = .ok (.iaload, 1) := by decide +kernel
theorem dL_law_308 : decode cL_law 308 = .ok (.invokevirtual 53, 3) := by decide +kernel
theorem dL_law_311 : decode cL_law 311 = .ok (.aload_n 2, 1) := by decide +kernel
theorem dL_law_312 : decode cL_law 312 = .ok (.aload_n 0, 1) := by decide +kernel
theorem dL_law_313 : decode cL_law 313 = .ok (.iload 4, 2) := by decide +kernel
theorem dL_law_315 : decode cL_law 315 = .ok (.iconst 1, 1) := by decide +kernel
theorem dL_law_316 : decode cL_law 316 = .ok (.iadd, 1) := by decide +kernel
theorem dL_law_317 : decode cL_law 317 = .ok (.iaload, 1) := by decide +kernel
theorem dL_law_318 : decode cL_law 318 = .ok (.invokevirtual 57, 3) := by decide +kernel
theorem dL_law_321 : decode cL_law 321 = .ok (.if_icmp .eq 363, 3) := by decide +kernel
theorem dL_law_324 : decode cL_law 324 = .ok (.iconst 0, 1) := by decide +kernel
theorem dL_law_325 : decode cL_law 325 = .ok (.ireturn, 1) := by decide +kernel
theorem dL_law_326 : decode cL_law 326 = .ok (.aload_n 1, 1) := by decide +kernel
theorem dL_law_327 : decode cL_law 327 = .ok (.aload_n 0, 1) := by decide +kernel
theorem dL_law_328 : decode cL_law 328 = .ok (.iload 4, 2) := by decide +kernel
theorem dL_law_330 : decode cL_law 330 = .ok (.iconst 1, 1) := by decide +kernel
theorem dL_law_331 : decode cL_law 331 = .ok (.iadd, 1) := by decide +kernel
theorem dL_law_332 : decode cL_law 332 = .ok (.iaload, 1) := by decide +kernel
theorem dL_law_333 : decode cL_law 333 = .ok (.aload_n 0, 1) := by decide +kernel
theorem dL_law_334 : decode cL_law 334 = .ok (.iload 4, 2) := by decide +kernel
theorem dL_law_336 : decode cL_law 336 = .ok (.iconst 2, 1) := by decide +kernel
theorem dL_law_337 : decode cL_law 337 = .ok (.iadd, 1) := by decide +kernel
theorem dL_law_338 : decode cL_law 338 = .ok (.iaload, 1) := by decide +kernel
theorem dL_law_339 : decode cL_law 339 = .ok (.invokevirtual 58, 3) := by decide +kernel
theorem dL_law_342 : decode cL_law 342 = .ok (.aload_n 2, 1) := by decide +kernel
theorem dL_law_343 : decode cL_law 343 = .ok (.aload_n 0, 1) := by decide +kernel
theorem dL_law_344 : decode cL_law 344 = .ok (.iload 4, 2) := by decide +kernel
theorem dL_law_346 : decode cL_law 346 = .ok (.iconst 1, 1) := by decide +kernel
theorem dL_law_347 : decode cL_law 347 = .ok (.iadd, 1) := by decide +kernel
theorem dL_law_348 : decode cL_law 348 = .ok (.iaload, 1) := by decide +kernel
theorem dL_law_349 : decode cL_law 349 = .ok (.aload_n 0, 1) := by decide +kernel
theorem dL_law_350 : decode cL_law 350 = .ok (.iload 4, 2) := by decide +kernel
theorem dL_law_352 : decode cL_law 352 = .ok (.iconst 2, 1) := by decide +kernel
theorem dL_law_353 : decode cL_law 353 = .ok (.iadd, 1) := by decide +kernel
theorem dL_law_354 : decode cL_law 354 = .ok (.iaload, 1) := by decide +kernel
theorem dL_law_355 : decode cL_law 355 = .ok (.invokevirtual 61, 3) := by decide +kernel
theorem dL_law_358 : decode cL_law 358 = .ok (.if_icmp .eq 326, 3) := by decide +kernel
theorem dL_law_361 : decode cL_law 361 = .ok (.iconst 0, 1) := by decide +kernel
theorem dL_law_362 : decode cL_law 362 = .ok (.ireturn, 1) := by decide +kernel
theorem dL_law_363 : decode cL_law 363 = .ok (.aload_n 1, 1) := by decide +kernel
theorem dL_law_364 : decode cL_law 364 = .ok (.aload_n 0, 1) := by decide +kernel
theorem dL_law_365 : decode cL_law 365 = .ok (.iload 4, 2) := by decide +kernel
theorem dL_law_367 : decode cL_law 367 = .ok (.iconst 1, 1) := by decide +kernel
theorem dL_law_368 : decode cL_law 368 = .ok (.iadd, 1) := by decide +kernel
theorem dL_law_369 : decode cL_law 369 = .ok (.iaload, 1) := by decide +kernel
theorem dL_law_370 : decode cL_law 370 = .ok (.aload_n 0, 1) := by decide +kernel
theorem dL_law_371 : decode cL_law 371 = .ok (.iload 4, 2) := by decide +kernel
theorem dL_law_373 : decode cL_law 373 = .ok (.iconst 2, 1) := by decide +kernel
theorem dL_law_374 : decode cL_law 374 = .ok (.iadd, 1) := by decide +kernel
theorem dL_law_375 : decode cL_law 375 = .ok (.iaload, 1) := by decide +kernel
theorem dL_law_376 : decode cL_law 376 = .ok (.aload_n 0, 1) := by decide +kernel
theorem dL_law_377 : decode cL_law 377 = .ok (.iload 4, 2) := by decide +kernel
theorem dL_law_379 : decode cL_law 379 = .ok (.iconst 3, 1) := by decide +kernel
theorem dL_law_380 : decode cL_law 380 = .ok (.iadd, 1) := by decide +kernel
theorem dL_law_381 : decode cL_law 381 = .ok (.iaload, 1) := by decide +kernel
theorem dL_law_382 : decode cL_law 382 = .ok (.invokevirtual 62, 3) := by decide +kernel
theorem dL_law_385 : decode cL_law 385 = .ok (.aload_n 2, 1) := by decide +kernel
theorem dL_law_386 : decode cL_law 386 = .ok (.aload_n 0, 1) := by decide +kernel
theorem dL_law_387 : decode cL_law 387 = .ok (.iload 4, 2) := by decide +kernel
theorem dL_law_389 : decode cL_law 389 = .ok (.iconst 1, 1) := by decide +kernel
theorem dL_law_390 : decode cL_law 390 = .ok (.iadd, 1) := by decide +kernel
theorem dL_law_391 : decode cL_law 391 = .ok (.iaload, 1) := by decide +kernel
theorem dL_law_392 : decode cL_law 392 = .ok (.aload_n 0, 1) := by decide +kernel
theorem dL_law_393 : decode cL_law 393 = .ok (.iload 4, 2) := by decide +kernel
theorem dL_law_395 : decode cL_law 395 = .ok (.iconst 2, 1) := by decide +kernel
theorem dL_law_396 : decode cL_law 396 = .ok (.iadd, 1) := by decide +kernel
theorem dL_law_397 : decode cL_law 397 = .ok (.iaload, 1) := by decide +kernel
theorem dL_law_398 : decode cL_law 398 = .ok (.aload_n 0, 1) := by decide +kernel
theorem dL_law_399 : decode cL_law 399 = .ok (.iload 4, 2) := by decide +kernel
theorem dL_law_401 : decode cL_law 401 = .ok (.iconst 3, 1) := by decide +kernel
theorem dL_law_402 : decode cL_law 402 = .ok (.iadd, 1) := by decide +kernel
theorem dL_law_403 : decode cL_law 403 = .ok (.iaload, 1) := by decide +kernel
theorem dL_law_404 : decode cL_law 404 = .ok (.invokevirtual 66, 3) := by decide +kernel
theorem dL_law_407 : decode cL_law 407 = .ok (.if_icmp .eq 277, 3) := by decide +kernel
theorem dL_law_410 : decode cL_law 410 = .ok (.iconst 0, 1) := by decide +kernel
theorem dL_law_411 : decode cL_law 411 = .ok (.ireturn, 1) := by decide +kernel
theorem dL_law_412 : decode cL_law 412 = .ok (.aload_n 1, 1) := by decide +kernel
theorem dL_law_413 : decode cL_law 413 = .ok (.aload_n 0, 1) := by decide +kernel
theorem dL_law_414 : decode cL_law 414 = .ok (.iload 4, 2) := by decide +kernel
theorem dL_law_416 : decode cL_law 416 = .ok (.iconst 1, 1) := by decide +kernel
theorem dL_law_417 : decode cL_law 417 = .ok (.iadd, 1) := by decide +kernel
theorem dL_law_418 : decode cL_law 418 = .ok (.iaload, 1) := by decide +kernel
theorem dL_law_419 : decode cL_law 419 = .ok (.invokevirtual 67, 3) := by decide +kernel
theorem dL_law_422 : decode cL_law 422 = .ok (.aload_n 2, 1) := by decide +kernel
theorem dL_law_423 : decode cL_law 423 = .ok (.aload_n 0, 1) := by decide +kernel
theorem dL_law_424 : decode cL_law 424 = .ok (.iload 4, 2) := by decide +kernel
theorem dL_law_426 : decode cL_law 426 = .ok (.iconst 1, 1) := by decide +kernel
theorem dL_law_427 : decode cL_law 427 = .ok (.iadd, 1) := by decide +kernel
theorem dL_law_428 : decode cL_law 428 = .ok (.iaload, 1) := by decide +kernel
theorem dL_law_429 : decode cL_law 429 = .ok (.invokevirtual 70, 3) := by decide +kernel
theorem dL_law_432 : decode cL_law 432 = .ok (.if_icmp .eq 252, 3) := by decide +kernel
theorem dL_law_435 : decode cL_law 435 = .ok (.iconst 0, 1) := by decide +kernel
theorem dL_law_436 : decode cL_law 436 = .ok (.ireturn, 1) := by decide +kernel
theorem dL_law_437 : decode cL_law 437 = .ok (.aload_n 1, 1) := by decide +kernel
theorem dL_law_438 : decode cL_law 438 = .ok (.aload_n 0, 1) := by decide +kernel
theorem dL_law_439 : decode cL_law 439 = .ok (.iload 4, 2) := by decide +kernel
theorem dL_law_441 : decode cL_law 441 = .ok (.iconst 1, 1) := by decide +kernel
theorem dL_law_442 : decode cL_law 442 = .ok (.iadd, 1) := by decide +kernel
theorem dL_law_443 : decode cL_law 443 = .ok (.iaload, 1) := by decide +kernel
theorem dL_law_444 : decode cL_law 444 = .ok (.aload_n 0, 1) := by decide +kernel
theorem dL_law_445 : decode cL_law 445 = .ok (.iload 4, 2) := by decide +kernel
theorem dL_law_447 : decode cL_law 447 = .ok (.iconst 2, 1) := by decide +kernel
theorem dL_law_448 : decode cL_law 448 = .ok (.iadd, 1) := by decide +kernel
theorem dL_law_449 : decode cL_law 449 = .ok (.iaload, 1) := by decide +kernel
theorem dL_law_450 : decode cL_law 450 = .ok (.aload_n 0, 1) := by decide +kernel
theorem dL_law_451 : decode cL_law 451 = .ok (.iload 4, 2) := by decide +kernel
theorem dL_law_453 : decode cL_law 453 = .ok (.iconst 3, 1) := by decide +kernel
theorem dL_law_454 : decode cL_law 454 = .ok (.iadd, 1) := by decide +kernel
theorem dL_law_455 : decode cL_law 455 = .ok (.iaload, 1) := by decide +kernel
theorem dL_law_456 : decode cL_law 456 = .ok (.invokevirtual 71, 3) := by decide +kernel
theorem dL_law_459 : decode cL_law 459 = .ok (.aload_n 2, 1) := by decide +kernel
theorem dL_law_460 : decode cL_law 460 = .ok (.aload_n 0, 1) := by decide +kernel
theorem dL_law_461 : decode cL_law 461 = .ok (.iload 4, 2) := by decide +kernel
theorem dL_law_463 : decode cL_law 463 = .ok (.iconst 1, 1) := by decide +kernel
theorem dL_law_464 : decode cL_law 464 = .ok (.iadd, 1) := by decide +kernel
theorem dL_law_465 : decode cL_law 465 = .ok (.iaload, 1) := by decide +kernel
theorem dL_law_466 : decode cL_law 466 = .ok (.aload_n 0, 1) := by decide +kernel
theorem dL_law_467 : decode cL_law 467 = .ok (.iload 4, 2) := by decide +kernel
theorem dL_law_469 : decode cL_law 469 = .ok (.iconst 2, 1) := by decide +kernel
theorem dL_law_470 : decode cL_law 470 = .ok (.iadd, 1) := by decide +kernel
theorem dL_law_471 : decode cL_law 471 = .ok (.iaload, 1) := by decide +kernel
theorem dL_law_472 : decode cL_law 472 = .ok (.aload_n 0, 1) := by decide +kernel
theorem dL_law_473 : decode cL_law 473 = .ok (.iload 4, 2) := by decide +kernel
theorem dL_law_475 : decode cL_law 475 = .ok (.iconst 3, 1) := by decide +kernel
theorem dL_law_476 : decode cL_law 476 = .ok (.iadd, 1) := by decide +kernel
theorem dL_law_477 : decode cL_law 477 = .ok (.iaload, 1) := by decide +kernel
theorem dL_law_478 : decode cL_law 478 = .ok (.invokevirtual 74, 3) := by decide +kernel
theorem dL_law_481 : decode cL_law 481 = .ok (.if_icmp .eq 203, 3) := by decide +kernel
theorem dL_law_484 : decode cL_law 484 = .ok (.iconst 0, 1) := by decide +kernel
theorem dL_law_485 : decode cL_law 485 = .ok (.ireturn, 1) := by decide +kernel
theorem dL_law_486 : decode cL_law 486 = .ok (.aload_n 1, 1) := by decide +kernel
theorem dL_law_487 : decode cL_law 487 = .ok (.aload_n 0, 1) := by decide +kernel
theorem dL_law_488 : decode cL_law 488 = .ok (.iload 4, 2) := by decide +kernel
theorem dL_law_490 : decode cL_law 490 = .ok (.iconst 1, 1) := by decide +kernel
theorem dL_law_491 : decode cL_law 491 = .ok (.iadd, 1) := by decide +kernel
theorem dL_law_492 : decode cL_law 492 = .ok (.iaload, 1) := by decide +kernel
theorem dL_law_493 : decode cL_law 493 = .ok (.aload_n 0, 1) := by decide +kernel
theorem dL_law_494 : decode cL_law 494 = .ok (.iload 4, 2) := by decide +kernel
theorem dL_law_496 : decode cL_law 496 = .ok (.iconst 2, 1) := by decide +kernel
theorem dL_law_497 : decode cL_law 497 = .ok (.iadd, 1) := by decide +kernel
theorem dL_law_498 : decode cL_law 498 = .ok (.iaload, 1) := by decide +kernel
theorem dL_law_499 : decode cL_law 499 = .ok (.invokevirtual 75, 3) := by decide +kernel
theorem dL_law_502 : decode cL_law 502 = .ok (.aload_n 2, 1) := by decide +kernel
theorem dL_law_503 : decode cL_law 503 = .ok (.aload_n 0, 1) := by decide +kernel
theorem dL_law_504 : decode cL_law 504 = .ok (.iload 4, 2) := by decide +kernel
theorem dL_law_506 : decode cL_law 506 = .ok (.iconst 1, 1) := by decide +kernel
theorem dL_law_507 : decode cL_law 507 = .ok (.iadd, 1) := by decide +kernel
theorem dL_law_508 : decode cL_law 508 = .ok (.iaload, 1) := by decide +kernel
theorem dL_law_509 : decode cL_law 509 = .ok (.aload_n 0, 1) := by decide +kernel
theorem dL_law_510 : decode cL_law 510 = .ok (.iload 4, 2) := by decide +kernel
theorem dL_law_512 : decode cL_law 512 = .ok (.iconst 2, 1) := by decide +kernel
theorem dL_law_513 : decode cL_law 513 = .ok (.iadd, 1) := by decide +kernel
theorem dL_law_514 : decode cL_law 514 = .ok (.iaload, 1) := by decide +kernel
theorem dL_law_515 : decode cL_law 515 = .ok (.invokevirtual 79, 3) := by decide +kernel
theorem dL_law_518 : decode cL_law 518 = .ok (.if_icmp .eq 166, 3) := by decide +kernel
theorem dL_law_521 : decode cL_law 521 = .ok (.iconst 0, 1) := by decide +kernel
theorem dL_law_522 : decode cL_law 522 = .ok (.ireturn, 1) := by decide +kernel
theorem dL_law_523 : decode cL_law 523 = .ok (.aload_n 1, 1) := by decide +kernel
theorem dL_law_524 : decode cL_law 524 = .ok (.aload_n 0, 1) := by decide +kernel
theorem dL_law_525 : decode cL_law 525 = .ok (.iload 4, 2) := by decide +kernel
theorem dL_law_527 : decode cL_law 527 = .ok (.iconst 1, 1) := by decide +kernel
theorem dL_law_528 : decode cL_law 528 = .ok (.iadd, 1) := by decide +kernel
theorem dL_law_529 : decode cL_law 529 = .ok (.iaload, 1) := by decide +kernel
theorem dL_law_530 : decode cL_law 530 = .ok (.invokevirtual 80, 3) := by decide +kernel
theorem dL_law_533 : decode cL_law 533 = .ok (.aload_n 2, 1) := by decide +kernel
theorem dL_law_534 : decode cL_law 534 = .ok (.aload_n 0, 1) := by decide +kernel
theorem dL_law_535 : decode cL_law 535 = .ok (.iload 4, 2) := by decide +kernel
theorem dL_law_537 : decode cL_law 537 = .ok (.iconst 1, 1) := by decide +kernel
theorem dL_law_538 : decode cL_law 538 = .ok (.iadd, 1) := by decide +kernel
theorem dL_law_539 : decode cL_law 539 = .ok (.iaload, 1) := by decide +kernel
theorem dL_law_540 : decode cL_law 540 = .ok (.invokevirtual 83, 3) := by decide +kernel
theorem dL_law_543 : decode cL_law 543 = .ok (.if_icmp .eq 141, 3) := by decide +kernel
theorem dL_law_546 : decode cL_law 546 = .ok (.iconst 0, 1) := by decide +kernel
theorem dL_law_547 : decode cL_law 547 = .ok (.ireturn, 1) := by decide +kernel
theorem dL_law_548 : decode cL_law 548 = .ok (.aload_n 1, 1) := by decide +kernel
theorem dL_law_549 : decode cL_law 549 = .ok (.invokevirtual 84, 3) := by decide +kernel
theorem dL_law_552 : decode cL_law 552 = .ok (.aload_n 2, 1) := by decide +kernel
theorem dL_law_553 : decode cL_law 553 = .ok (.invokevirtual 87, 3) := by decide +kernel
theorem dL_law_556 : decode cL_law 556 = .ok (.if_icmp .eq 128, 3) := by decide +kernel
theorem dL_law_559 : decode cL_law 559 = .ok (.iconst 0, 1) := by decide +kernel
theorem dL_law_560 : decode cL_law 560 = .ok (.ireturn, 1) := by decide +kernel
theorem dL_law_561 : decode cL_law 561 = .ok (.aload_n 1, 1) := by decide +kernel
theorem dL_law_562 : decode cL_law 562 = .ok (.aload_n 0, 1) := by decide +kernel
theorem dL_law_563 : decode cL_law 563 = .ok (.iload 4, 2) := by decide +kernel
theorem dL_law_565 : decode cL_law 565 = .ok (.iconst 1, 1) := by decide +kernel
theorem dL_law_566 : decode cL_law 566 = .ok (.iadd, 1) := by decide +kernel
theorem dL_law_567 : decode cL_law 567 = .ok (.iaload, 1) := by decide +kernel
theorem dL_law_568 : decode cL_law 568 = .ok (.aload_n 0, 1) := by decide +kernel
theorem dL_law_569 : decode cL_law 569 = .ok (.iload 4, 2) := by decide +kernel
theorem dL_law_571 : decode cL_law 571 = .ok (.iconst 2, 1) := by decide +kernel
theorem dL_law_572 : decode cL_law 572 = .ok (.iadd, 1) := by decide +kernel
theorem dL_law_573 : decode cL_law 573 = .ok (.iaload, 1) := by decide +kernel
theorem dL_law_574 : decode cL_law 574 = .ok (.invokevirtual 88, 3) := by decide +kernel
theorem dL_law_577 : decode cL_law 577 = .ok (.aload_n 2, 1) := by decide +kernel
theorem dL_law_578 : decode cL_law 578 = .ok (.aload_n 0, 1) := by decide +kernel
theorem dL_law_579 : decode cL_law 579 = .ok (.iload 4, 2) := by decide +kernel
theorem dL_law_581 : decode cL_law 581 = .ok (.iconst 1, 1) := by decide +kernel
theorem dL_law_582 : decode cL_law 582 = .ok (.iadd, 1) := by decide +kernel
theorem dL_law_583 : decode cL_law 583 = .ok (.iaload, 1) := by decide +kernel
theorem dL_law_584 : decode cL_law 584 = .ok (.aload_n 0, 1) := by decide +kernel
theorem dL_law_585 : decode cL_law 585 = .ok (.iload 4, 2) := by decide +kernel
theorem dL_law_587 : decode cL_law 587 = .ok (.iconst 2, 1) := by decide +kernel
theorem dL_law_588 : decode cL_law 588 = .ok (.iadd, 1) := by decide +kernel
theorem dL_law_589 : decode cL_law 589 = .ok (.iaload, 1) := by decide +kernel
theorem dL_law_590 : decode cL_law 590 = .ok (.invokevirtual 91, 3) := by decide +kernel
theorem dL_law_593 : decode cL_law 593 = .ok (.if_icmp .eq 91, 3) := by decide +kernel
theorem dL_law_596 : decode cL_law 596 = .ok (.iconst 0, 1) := by decide +kernel
theorem dL_law_597 : decode cL_law 597 = .ok (.ireturn, 1) := by decide +kernel
theorem dL_law_598 : decode cL_law 598 = .ok (.aload_n 1, 1) := by decide +kernel
theorem dL_law_599 : decode cL_law 599 = .ok (.aload_n 0, 1) := by decide +kernel
theorem dL_law_600 : decode cL_law 600 = .ok (.iload 4, 2) := by decide +kernel
theorem dL_law_602 : decode cL_law 602 = .ok (.iconst 1, 1) := by decide +kernel
theorem dL_law_603 : decode cL_law 603 = .ok (.iadd, 1) := by decide +kernel
theorem dL_law_604 : decode cL_law 604 = .ok (.iaload, 1) := by decide +kernel
theorem dL_law_605 : decode cL_law 605 = .ok (.aload_n 0, 1) := by decide +kernel
theorem dL_law_606 : decode cL_law 606 = .ok (.iload 4, 2) := by decide +kernel
theorem dL_law_608 : decode cL_law 608 = .ok (.iconst 2, 1) := by decide +kernel
theorem dL_law_609 : decode cL_law 609 = .ok (.iadd, 1) := by decide +kernel
theorem dL_law_610 : decode cL_law 610 = .ok (.iaload, 1) := by decide +kernel
theorem dL_law_611 : decode cL_law 611 = .ok (.invokevirtual 92, 3) := by decide +kernel
theorem dL_law_614 : decode cL_law 614 = .ok (.aload_n 2, 1) := by decide +kernel
theorem dL_law_615 : decode cL_law 615 = .ok (.aload_n 0, 1) := by decide +kernel
theorem dL_law_616 : decode cL_law 616 = .ok (.iload 4, 2) := by decide +kernel
theorem dL_law_618 : decode cL_law 618 = .ok (.iconst 1, 1) := by decide +kernel
theorem dL_law_619 : decode cL_law 619 = .ok (.iadd, 1) := by decide +kernel
theorem dL_law_620 : decode cL_law 620 = .ok (.iaload, 1) := by decide +kernel
theorem dL_law_621 : decode cL_law 621 = .ok (.aload_n 0, 1) := by decide +kernel
theorem dL_law_622 : decode cL_law 622 = .ok (.iload 4, 2) := by decide +kernel
theorem dL_law_624 : decode cL_law 624 = .ok (.iconst 2, 1) := by decide +kernel
theorem dL_law_625 : decode cL_law 625 = .ok (.iadd, 1) := by decide +kernel
theorem dL_law_626 : decode cL_law 626 = .ok (.iaload, 1) := by decide +kernel
theorem dL_law_627 : decode cL_law 627 = .ok (.invokevirtual 95, 3) := by decide +kernel
theorem dL_law_630 : decode cL_law 630 = .ok (.if_icmp .eq 54, 3) := by decide +kernel
theorem dL_law_633 : decode cL_law 633 = .ok (.iconst 0, 1) := by decide +kernel
theorem dL_law_634 : decode cL_law 634 = .ok (.ireturn, 1) := by decide +kernel
theorem dL_law_635 : decode cL_law 635 = .ok (.aload_n 1, 1) := by decide +kernel
theorem dL_law_636 : decode cL_law 636 = .ok (.aload_n 0, 1) := by decide +kernel
theorem dL_law_637 : decode cL_law 637 = .ok (.iload 4, 2) := by decide +kernel
theorem dL_law_639 : decode cL_law 639 = .ok (.iconst 1, 1) := by decide +kernel
theorem dL_law_640 : decode cL_law 640 = .ok (.iadd, 1) := by decide +kernel
theorem dL_law_641 : decode cL_law 641 = .ok (.iaload, 1) := by decide +kernel
theorem dL_law_642 : decode cL_law 642 = .ok (.aload_n 0, 1) := by decide +kernel
theorem dL_law_643 : decode cL_law 643 = .ok (.iload 4, 2) := by decide +kernel
theorem dL_law_645 : decode cL_law 645 = .ok (.iconst 2, 1) := by decide +kernel
theorem dL_law_646 : decode cL_law 646 = .ok (.iadd, 1) := by decide +kernel
theorem dL_law_647 : decode cL_law 647 = .ok (.iaload, 1) := by decide +kernel
theorem dL_law_648 : decode cL_law 648 = .ok (.aload_n 0, 1) := by decide +kernel
theorem dL_law_649 : decode cL_law 649 = .ok (.iload 4, 2) := by decide +kernel
theorem dL_law_651 : decode cL_law 651 = .ok (.iconst 3, 1) := by decide +kernel
theorem dL_law_652 : decode cL_law 652 = .ok (.iadd, 1) := by decide +kernel
theorem dL_law_653 : decode cL_law 653 = .ok (.iaload, 1) := by decide +kernel
theorem dL_law_654 : decode cL_law 654 = .ok (.invokevirtual 96, 3) := by decide +kernel
theorem dL_law_657 : decode cL_law 657 = .ok (.aload_n 2, 1) := by decide +kernel
theorem dL_law_658 : decode cL_law 658 = .ok (.aload_n 0, 1) := by decide +kernel
theorem dL_law_659 : decode cL_law 659 = .ok (.iload 4, 2) := by decide +kernel
theorem dL_law_661 : decode cL_law 661 = .ok (.iconst 1, 1) := by decide +kernel
theorem dL_law_662 : decode cL_law 662 = .ok (.iadd, 1) := by decide +kernel
theorem dL_law_663 : decode cL_law 663 = .ok (.iaload, 1) := by decide +kernel
theorem dL_law_664 : decode cL_law 664 = .ok (.aload_n 0, 1) := by decide +kernel
theorem dL_law_665 : decode cL_law 665 = .ok (.iload 4, 2) := by decide +kernel
theorem dL_law_667 : decode cL_law 667 = .ok (.iconst 2, 1) := by decide +kernel
theorem dL_law_668 : decode cL_law 668 = .ok (.iadd, 1) := by decide +kernel
theorem dL_law_669 : decode cL_law 669 = .ok (.iaload, 1) := by decide +kernel
theorem dL_law_670 : decode cL_law 670 = .ok (.aload_n 0, 1) := by decide +kernel
theorem dL_law_671 : decode cL_law 671 = .ok (.iload 4, 2) := by decide +kernel
theorem dL_law_673 : decode cL_law 673 = .ok (.iconst 3, 1) := by decide +kernel
theorem dL_law_674 : decode cL_law 674 = .ok (.iadd, 1) := by decide +kernel
theorem dL_law_675 : decode cL_law 675 = .ok (.iaload, 1) := by decide +kernel
theorem dL_law_676 : decode cL_law 676 = .ok (.invokevirtual 100, 3) := by decide +kernel
theorem dL_law_679 : decode cL_law 679 = .ok (.if_icmp .eq 5, 3) := by decide +kernel
theorem dL_law_682 : decode cL_law 682 = .ok (.iconst 0, 1) := by decide +kernel
theorem dL_law_683 : decode cL_law 683 = .ok (.ireturn, 1) := by decide +kernel
theorem dL_law_684 : decode cL_law 684 = .ok (.iinc 4 4, 3) := by decide +kernel
theorem dL_law_687 : decode cL_law 687 = .ok (.goto (-654), 3) := by decide +kernel
theorem dL_law_690 : decode cL_law 690 = .ok (.iconst 1, 1) := by decide +kernel
theorem dL_law_691 : decode cL_law 691 = .ok (.ireturn, 1) := by decide +kernel
end
section
theorem dX1_op_0 : decode cX1_op 0 = .ok (.iload_n 0, 1) := by decide +kernel
theorem dX1_op_1 : decode cX1_op 1 = .ok (.bipush 127, 2) := by decide +kernel
theorem dX1_op_3 : decode cX1_op 3 = .ok (.iand, 1) := by decide +kernel
theorem dX1_op_4 : decode cX1_op 4 = .ok (.ireturn, 1) := by decide +kernel
theorem dX1_rd_0 : decode cX1_rd 0 = .ok (.iload_n 0, 1) := by decide +kernel
theorem dX1_rd_1 : decode cX1_rd 1 = .ok (.bipush 7, 2) := by decide +kernel
theorem dX1_rd_3 : decode cX1_rd 3 = .ok (.iushr, 1) := by decide +kernel
theorem dX1_rd_4 : decode cX1_rd 4 = .ok (.bipush 31, 2) := by decide +kernel
theorem dX1_rd_6 : decode cX1_rd 6 = .ok (.iand, 1) := by decide +kernel
theorem dX1_rd_7 : decode cX1_rd 7 = .ok (.ireturn, 1) := by decide +kernel
theorem dX1_f_0 : decode cX1_f 0 = .ok (.iload_n 0, 1) := by decide +kernel
theorem dX1_f_1 : decode cX1_f 1 = .ok (.bipush 12, 2) := by decide +kernel
theorem dX1_f_3 : decode cX1_f 3 = .ok (.iushr, 1) := by decide +kernel
theorem dX1_f_4 : decode cX1_f 4 = .ok (.bipush 7, 2) := by decide +kernel
theorem dX1_f_6 : decode cX1_f 6 = .ok (.iand, 1) := by decide +kernel
theorem dX1_f_7 : decode cX1_f 7 = .ok (.ireturn, 1) := by decide +kernel
theorem dX1_rs_0 : decode cX1_rs 0 = .ok (.iload_n 0, 1) := by decide +kernel
theorem dX1_rs_1 : decode cX1_rs 1 = .ok (.bipush 15, 2) := by decide +kernel
theorem dX1_rs_3 : decode cX1_rs 3 = .ok (.iushr, 1) := by decide +kernel
theorem dX1_rs_4 : decode cX1_rs 4 = .ok (.bipush 31, 2) := by decide +kernel
theorem dX1_rs_6 : decode cX1_rs 6 = .ok (.iand, 1) := by decide +kernel
theorem dX1_rs_7 : decode cX1_rs 7 = .ok (.ireturn, 1) := by decide +kernel
theorem dX1_rt_0 : decode cX1_rt 0 = .ok (.iload_n 0, 1) := by decide +kernel
theorem dX1_rt_1 : decode cX1_rt 1 = .ok (.bipush 20, 2) := by decide +kernel
theorem dX1_rt_3 : decode cX1_rt 3 = .ok (.iushr, 1) := by decide +kernel
theorem dX1_rt_4 : decode cX1_rt 4 = .ok (.bipush 31, 2) := by decide +kernel
theorem dX1_rt_6 : decode cX1_rt 6 = .ok (.iand, 1) := by decide +kernel
theorem dX1_rt_7 : decode cX1_rt 7 = .ok (.ireturn, 1) := by decide +kernel
theorem dX1_g_0 : decode cX1_g 0 = .ok (.iload_n 0, 1) := by decide +kernel
theorem dX1_g_1 : decode cX1_g 1 = .ok (.bipush 25, 2) := by decide +kernel
theorem dX1_g_3 : decode cX1_g 3 = .ok (.iushr, 1) := by decide +kernel
theorem dX1_g_4 : decode cX1_g 4 = .ok (.ireturn, 1) := by decide +kernel
theorem dX1_numberI_0 : decode cX1_numberI 0 = .ok (.iload_n 0, 1) := by decide +kernel
theorem dX1_numberI_1 : decode cX1_numberI 1 = .ok (.bipush 20, 2) := by decide +kernel
theorem dX1_numberI_3 : decode cX1_numberI 3 = .ok (.ishr, 1) := by decide +kernel
theorem dX1_numberI_4 : decode cX1_numberI 4 = .ok (.ireturn, 1) := by decide +kernel
theorem dX1_numberS_0 : decode cX1_numberS 0 = .ok (.iload_n 0, 1) := by decide +kernel
theorem dX1_numberS_1 : decode cX1_numberS 1 = .ok (.bipush 25, 2) := by decide +kernel
theorem dX1_numberS_3 : decode cX1_numberS 3 = .ok (.ishr, 1) := by decide +kernel
theorem dX1_numberS_4 : decode cX1_numberS 4 = .ok (.iconst 5, 1) := by decide +kernel
theorem dX1_numberS_5 : decode cX1_numberS 5 = .ok (.ishl, 1) := by decide +kernel
theorem dX1_numberS_6 : decode cX1_numberS 6 = .ok (.iload_n 0, 1) := by decide +kernel
theorem dX1_numberS_7 : decode cX1_numberS 7 = .ok (.invokestatic 9, 3) := by decide +kernel
theorem dX1_numberS_10 : decode cX1_numberS 10 = .ok (.ior, 1) := by decide +kernel
theorem dX1_numberS_11 : decode cX1_numberS 11 = .ok (.ireturn, 1) := by decide +kernel
theorem dX1_numberB_0 : decode cX1_numberB 0 = .ok (.iload_n 0, 1) := by decide +kernel
theorem dX1_numberB_1 : decode cX1_numberB 1 = .ok (.bipush 31, 2) := by decide +kernel
theorem dX1_numberB_3 : decode cX1_numberB 3 = .ok (.ishr, 1) := by decide +kernel
theorem dX1_numberB_4 : decode cX1_numberB 4 = .ok (.bipush 12, 2) := by decide +kernel
theorem dX1_numberB_6 : decode cX1_numberB 6 = .ok (.ishl, 1) := by decide +kernel
theorem dX1_numberB_7 : decode cX1_numberB 7 = .ok (.iload_n 0, 1) := by decide +kernel
theorem dX1_numberB_8 : decode cX1_numberB 8 = .ok (.iconst 4, 1) := by decide +kernel
theorem dX1_numberB_9 : decode cX1_numberB 9 = .ok (.ishl, 1) := by decide +kernel
theorem dX1_numberB_10 : decode cX1_numberB 10 = .ok (.sipush 2048, 3) := by decide +kernel
theorem dX1_numberB_13 : decode cX1_numberB 13 = .ok (.iand, 1) := by decide +kernel
theorem dX1_numberB_14 : decode cX1_numberB 14 = .ok (.ior, 1) := by decide +kernel
theorem dX1_numberB_15 : decode cX1_numberB 15 = .ok (.iload_n 0, 1) := by decide +kernel
theorem dX1_numberB_16 : decode cX1_numberB 16 = .ok (.bipush 20, 2) := by decide +kernel
theorem dX1_numberB_18 : decode cX1_numberB 18 = .ok (.iushr, 1) := by decide +kernel
theorem dX1_numberB_19 : decode cX1_numberB 19 = .ok (.sipush 2016, 3) := by decide +kernel
theorem dX1_numberB_22 : decode cX1_numberB 22 = .ok (.iand, 1) := by decide +kernel
theorem dX1_numberB_23 : decode cX1_numberB 23 = .ok (.ior, 1) := by decide +kernel
theorem dX1_numberB_24 : decode cX1_numberB 24 = .ok (.iload_n 0, 1) := by decide +kernel
theorem dX1_numberB_25 : decode cX1_numberB 25 = .ok (.bipush 7, 2) := by decide +kernel
theorem dX1_numberB_27 : decode cX1_numberB 27 = .ok (.iushr, 1) := by decide +kernel
theorem dX1_numberB_28 : decode cX1_numberB 28 = .ok (.bipush 30, 2) := by decide +kernel
theorem dX1_numberB_30 : decode cX1_numberB 30 = .ok (.iand, 1) := by decide +kernel
theorem dX1_numberB_31 : decode cX1_numberB 31 = .ok (.ior, 1) := by decide +kernel
theorem dX1_numberB_32 : decode cX1_numberB 32 = .ok (.ireturn, 1) := by decide +kernel
theorem dX1_numberJ_0 : decode cX1_numberJ 0 = .ok (.iload_n 0, 1) := by decide +kernel
theorem dX1_numberJ_1 : decode cX1_numberJ 1 = .ok (.bipush 31, 2) := by decide +kernel
theorem dX1_numberJ_3 : decode cX1_numberJ 3 = .ok (.ishr, 1) := by decide +kernel
theorem dX1_numberJ_4 : decode cX1_numberJ 4 = .ok (.bipush 20, 2) := by decide +kernel
theorem dX1_numberJ_6 : decode cX1_numberJ 6 = .ok (.ishl, 1) := by decide +kernel
theorem dX1_numberJ_7 : decode cX1_numberJ 7 = .ok (.iload_n 0, 1) := by decide +kernel
theorem dX1_numberJ_8 : decode cX1_numberJ 8 = .ok (.ldc 15, 2) := by decide +kernel
theorem dX1_numberJ_10 : decode cX1_numberJ 10 = .ok (.iand, 1) := by decide +kernel
theorem dX1_numberJ_11 : decode cX1_numberJ 11 = .ok (.ior, 1) := by decide +kernel
theorem dX1_numberJ_12 : decode cX1_numberJ 12 = .ok (.iload_n 0, 1) := by decide +kernel
theorem dX1_numberJ_13 : decode cX1_numberJ 13 = .ok (.bipush 9, 2) := by decide +kernel
theorem dX1_numberJ_15 : decode cX1_numberJ 15 = .ok (.iushr, 1) := by decide +kernel
theorem dX1_numberJ_16 : decode cX1_numberJ 16 = .ok (.sipush 2048, 3) := by decide +kernel
theorem dX1_numberJ_19 : decode cX1_numberJ 19 = .ok (.iand, 1) := by decide +kernel
theorem dX1_numberJ_20 : decode cX1_numberJ 20 = .ok (.ior, 1) := by decide +kernel
theorem dX1_numberJ_21 : decode cX1_numberJ 21 = .ok (.iload_n 0, 1) := by decide +kernel
theorem dX1_numberJ_22 : decode cX1_numberJ 22 = .ok (.bipush 20, 2) := by decide +kernel
theorem dX1_numberJ_24 : decode cX1_numberJ 24 = .ok (.iushr, 1) := by decide +kernel
theorem dX1_numberJ_25 : decode cX1_numberJ 25 = .ok (.sipush 2046, 3) := by decide +kernel
theorem dX1_numberJ_28 : decode cX1_numberJ 28 = .ok (.iand, 1) := by decide +kernel
theorem dX1_numberJ_29 : decode cX1_numberJ 29 = .ok (.ior, 1) := by decide +kernel
theorem dX1_numberJ_30 : decode cX1_numberJ 30 = .ok (.ireturn, 1) := by decide +kernel
theorem dX1_numberU_0 : decode cX1_numberU 0 = .ok (.iload_n 0, 1) := by decide +kernel
theorem dX1_numberU_1 : decode cX1_numberU 1 = .ok (.sipush (-4096), 3) := by decide +kernel
theorem dX1_numberU_4 : decode cX1_numberU 4 = .ok (.iand, 1) := by decide +kernel
theorem dX1_numberU_5 : decode cX1_numberU 5 = .ok (.ireturn, 1) := by decide +kernel
theorem dX1_bitsOfS_0 : decode cX1_bitsOfS 0 = .ok (.iload_n 0, 1) := by decide +kernel
theorem dX1_bitsOfS_1 : decode cX1_bitsOfS 1 = .ok (.iconst 5, 1) := by decide +kernel
theorem dX1_bitsOfS_2 : decode cX1_bitsOfS 2 = .ok (.ishr, 1) := by decide +kernel
theorem dX1_bitsOfS_3 : decode cX1_bitsOfS 3 = .ok (.bipush 25, 2) := by decide +kernel
theorem dX1_bitsOfS_5 : decode cX1_bitsOfS 5 = .ok (.ishl, 1) := by decide +kernel
theorem dX1_bitsOfS_6 : decode cX1_bitsOfS 6 = .ok (.iload_n 0, 1) := by decide +kernel
theorem dX1_bitsOfS_7 : decode cX1_bitsOfS 7 = .ok (.bipush 31, 2) := by decide +kernel
theorem dX1_bitsOfS_9 : decode cX1_bitsOfS 9 = .ok (.iand, 1) := by decide +kernel
theorem dX1_bitsOfS_10 : decode cX1_bitsOfS 10 = .ok (.bipush 7, 2) := by decide +kernel
theorem dX1_bitsOfS_12 : decode cX1_bitsOfS 12 = .ok (.ishl, 1) := by decide +kernel
theorem dX1_bitsOfS_13 : decode cX1_bitsOfS 13 = .ok (.ior, 1) := by decide +kernel
theorem dX1_bitsOfS_14 : decode cX1_bitsOfS 14 = .ok (.ireturn, 1) := by decide +kernel
theorem dX1_bitsOfB_0 : decode cX1_bitsOfB 0 = .ok (.iload_n 0, 1) := by decide +kernel
theorem dX1_bitsOfB_1 : decode cX1_bitsOfB 1 = .ok (.bipush 12, 2) := by decide +kernel
theorem dX1_bitsOfB_3 : decode cX1_bitsOfB 3 = .ok (.ishr, 1) := by decide +kernel
theorem dX1_bitsOfB_4 : decode cX1_bitsOfB 4 = .ok (.bipush 31, 2) := by decide +kernel
theorem dX1_bitsOfB_6 : decode cX1_bitsOfB 6 = .ok (.ishl, 1) := by decide +kernel
theorem dX1_bitsOfB_7 : decode cX1_bitsOfB 7 = .ok (.iload_n 0, 1) := by decide +kernel
theorem dX1_bitsOfB_8 : decode cX1_bitsOfB 8 = .ok (.sipush 2016, 3) := by decide +kernel
theorem dX1_bitsOfB_11 : decode cX1_bitsOfB 11 = .ok (.iand, 1) := by decide +kernel
theorem dX1_bitsOfB_12 : decode cX1_bitsOfB 12 = .ok (.bipush 20, 2) := by decide +kernel
theorem dX1_bitsOfB_14 : decode cX1_bitsOfB 14 = .ok (.ishl, 1) := by decide +kernel
theorem dX1_bitsOfB_15 : decode cX1_bitsOfB 15 = .ok (.ior, 1) := by decide +kernel
theorem dX1_bitsOfB_16 : decode cX1_bitsOfB 16 = .ok (.iload_n 0, 1) := by decide +kernel
theorem dX1_bitsOfB_17 : decode cX1_bitsOfB 17 = .ok (.bipush 30, 2) := by decide +kernel
theorem dX1_bitsOfB_19 : decode cX1_bitsOfB 19 = .ok (.iand, 1) := by decide +kernel
theorem dX1_bitsOfB_20 : decode cX1_bitsOfB 20 = .ok (.bipush 7, 2) := by decide +kernel
theorem dX1_bitsOfB_22 : decode cX1_bitsOfB 22 = .ok (.ishl, 1) := by decide +kernel
theorem dX1_bitsOfB_23 : decode cX1_bitsOfB 23 = .ok (.ior, 1) := by decide +kernel
theorem dX1_bitsOfB_24 : decode cX1_bitsOfB 24 = .ok (.iload_n 0, 1) := by decide +kernel
theorem dX1_bitsOfB_25 : decode cX1_bitsOfB 25 = .ok (.sipush 2048, 3) := by decide +kernel
theorem dX1_bitsOfB_28 : decode cX1_bitsOfB 28 = .ok (.iand, 1) := by decide +kernel
theorem dX1_bitsOfB_29 : decode cX1_bitsOfB 29 = .ok (.iconst 4, 1) := by decide +kernel
theorem dX1_bitsOfB_30 : decode cX1_bitsOfB 30 = .ok (.ishr, 1) := by decide +kernel
theorem dX1_bitsOfB_31 : decode cX1_bitsOfB 31 = .ok (.ior, 1) := by decide +kernel
theorem dX1_bitsOfB_32 : decode cX1_bitsOfB 32 = .ok (.ireturn, 1) := by decide +kernel
theorem dX1_bitsOfJ_0 : decode cX1_bitsOfJ 0 = .ok (.iload_n 0, 1) := by decide +kernel
theorem dX1_bitsOfJ_1 : decode cX1_bitsOfJ 1 = .ok (.bipush 20, 2) := by decide +kernel
theorem dX1_bitsOfJ_3 : decode cX1_bitsOfJ 3 = .ok (.ishr, 1) := by decide +kernel
theorem dX1_bitsOfJ_4 : decode cX1_bitsOfJ 4 = .ok (.bipush 31, 2) := by decide +kernel
theorem dX1_bitsOfJ_6 : decode cX1_bitsOfJ 6 = .ok (.ishl, 1) := by decide +kernel
theorem dX1_bitsOfJ_7 : decode cX1_bitsOfJ 7 = .ok (.iload_n 0, 1) := by decide +kernel
theorem dX1_bitsOfJ_8 : decode cX1_bitsOfJ 8 = .ok (.sipush 2046, 3) := by decide +kernel
theorem dX1_bitsOfJ_11 : decode cX1_bitsOfJ 11 = .ok (.iand, 1) := by decide +kernel
theorem dX1_bitsOfJ_12 : decode cX1_bitsOfJ 12 = .ok (.bipush 20, 2) := by decide +kernel
theorem dX1_bitsOfJ_14 : decode cX1_bitsOfJ 14 = .ok (.ishl, 1) := by decide +kernel
theorem dX1_bitsOfJ_15 : decode cX1_bitsOfJ 15 = .ok (.ior, 1) := by decide +kernel
theorem dX1_bitsOfJ_16 : decode cX1_bitsOfJ 16 = .ok (.iload_n 0, 1) := by decide +kernel
theorem dX1_bitsOfJ_17 : decode cX1_bitsOfJ 17 = .ok (.sipush 2048, 3) := by decide +kernel
theorem dX1_bitsOfJ_20 : decode cX1_bitsOfJ 20 = .ok (.iand, 1) := by decide +kernel
theorem dX1_bitsOfJ_21 : decode cX1_bitsOfJ 21 = .ok (.bipush 9, 2) := by decide +kernel
theorem dX1_bitsOfJ_23 : decode cX1_bitsOfJ 23 = .ok (.ishl, 1) := by decide +kernel
theorem dX1_bitsOfJ_24 : decode cX1_bitsOfJ 24 = .ok (.ior, 1) := by decide +kernel
theorem dX1_bitsOfJ_25 : decode cX1_bitsOfJ 25 = .ok (.iload_n 0, 1) := by decide +kernel
theorem dX1_bitsOfJ_26 : decode cX1_bitsOfJ 26 = .ok (.ldc 15, 2) := by decide +kernel
theorem dX1_bitsOfJ_28 : decode cX1_bitsOfJ 28 = .ok (.iand, 1) := by decide +kernel
theorem dX1_bitsOfJ_29 : decode cX1_bitsOfJ 29 = .ok (.ior, 1) := by decide +kernel
theorem dX1_bitsOfJ_30 : decode cX1_bitsOfJ 30 = .ok (.ireturn, 1) := by decide +kernel
theorem dX2_init_0 : decode cX2_init 0 = .ok (.aload_n 0, 1) := by decide +kernel
theorem dX2_init_1 : decode cX2_init 1 = .ok (.invokespecial 3, 3) := by decide +kernel
theorem dX2_init_4 : decode cX2_init 4 = .ok (.aload_n 0, 1) := by decide +kernel
theorem dX2_init_5 : decode cX2_init 5 = .ok (.bipush 16, 2) := by decide +kernel
theorem dX2_init_7 : decode cX2_init 7 = .ok (.newarray .int, 2) := by decide +kernel
theorem dX2_init_9 : decode cX2_init 9 = .ok (.putfield 9, 3) := by decide +kernel
theorem dX2_init_12 : decode cX2_init 12 = .ok (.aload_n 0, 1) := by decide +kernel
theorem dX2_init_13 : decode cX2_init 13 = .ok (.bipush 16, 2) := by decide +kernel
theorem dX2_init_15 : decode cX2_init 15 = .ok (.newarray .int, 2) := by decide +kernel
theorem dX2_init_17 : decode cX2_init 17 = .ok (.putfield 15, 3) := by decide +kernel
theorem dX2_init_20 : decode cX2_init 20 = .ok (.aload_n 0, 1) := by decide +kernel
theorem dX2_init_21 : decode cX2_init 21 = .ok (.bipush 16, 2) := by decide +kernel
theorem dX2_init_23 : decode cX2_init 23 = .ok (.newarray .int, 2) := by decide +kernel
theorem dX2_init_25 : decode cX2_init 25 = .ok (.putfield 18, 3) := by decide +kernel
theorem dX2_init_28 : decode cX2_init 28 = .ok (.return_, 1) := by decide +kernel
theorem dX2_add_0 : decode cX2_add 0 = .ok (.aload_n 0, 1) := by decide +kernel
theorem dX2_add_1 : decode cX2_add 1 = .ok (.getfield 21, 3) := by decide +kernel
theorem dX2_add_4 : decode cX2_add 4 = .ok (.invokestatic 25, 3) := by decide +kernel
theorem dX2_add_7 : decode cX2_add 7 = .ok (.istore 4, 2) := by decide +kernel
theorem dX2_add_9 : decode cX2_add 9 = .ok (.aload_n 0, 1) := by decide +kernel
theorem dX2_add_10 : decode cX2_add 10 = .ok (.getfield 9, 3) := by decide +kernel
theorem dX2_add_13 : decode cX2_add 13 = .ok (.iload 4, 2) := by decide +kernel
theorem dX2_add_15 : decode cX2_add 15 = .ok (.iload_n 1, 1) := by decide +kernel
theorem dX2_add_16 : decode cX2_add 16 = .ok (.iastore, 1) := by decide +kernel
theorem dX2_add_17 : decode cX2_add 17 = .ok (.aload_n 0, 1) := by decide +kernel
theorem dX2_add_18 : decode cX2_add 18 = .ok (.getfield 15, 3) := by decide +kernel
theorem dX2_add_21 : decode cX2_add 21 = .ok (.iload 4, 2) := by decide +kernel
theorem dX2_add_23 : decode cX2_add 23 = .ok (.iload_n 2, 1) := by decide +kernel
theorem dX2_add_24 : decode cX2_add 24 = .ok (.iastore, 1) := by decide +kernel
theorem dX2_add_25 : decode cX2_add 25 = .ok (.aload_n 0, 1) := by decide +kernel
theorem dX2_add_26 : decode cX2_add 26 = .ok (.getfield 18, 3) := by decide +kernel
theorem dX2_add_29 : decode cX2_add 29 = .ok (.iload 4, 2) := by decide +kernel
theorem dX2_add_31 : decode cX2_add 31 = .ok (.iload_n 3, 1) := by decide +kernel
theorem dX2_add_32 : decode cX2_add 32 = .ok (.iastore, 1) := by decide +kernel
theorem dX2_add_33 : decode cX2_add 33 = .ok (.aload_n 0, 1) := by decide +kernel
theorem dX2_add_34 : decode cX2_add 34 = .ok (.dup, 1) := by decide +kernel
theorem dX2_add_35 : decode cX2_add 35 = .ok (.getfield 21, 3) := by decide +kernel
theorem dX2_add_38 : decode cX2_add 38 = .ok (.iconst 1, 1) := by decide +kernel
theorem dX2_add_39 : decode cX2_add 39 = .ok (.iadd, 1) := by decide +kernel
theorem dX2_add_40 : decode cX2_add 40 = .ok (.putfield 21, 3) := by decide +kernel
theorem dX2_add_43 : decode cX2_add 43 = .ok (.return_, 1) := by decide +kernel
theorem dX2_entry_0 : decode cX2_entry 0 = .ok (.iload_n 1, 1) := by decide +kernel
theorem dX2_entry_1 : decode cX2_entry 1 = .ok (.ifCond .lt 17, 3) := by decide +kernel
theorem dX2_entry_4 : decode cX2_entry 4 = .ok (.iload_n 1, 1) := by decide +kernel
theorem dX2_entry_5 : decode cX2_entry 5 = .ok (.bipush 16, 2) := by decide +kernel
theorem dX2_entry_7 : decode cX2_entry 7 = .ok (.if_icmp .ge 11, 3) := by decide +kernel
theorem dX2_entry_10 : decode cX2_entry 10 = .ok (.iload_n 1, 1) := by decide +kernel
theorem dX2_entry_11 : decode cX2_entry 11 = .ok (.aload_n 0, 1) := by decide +kernel
theorem dX2_entry_12 : decode cX2_entry 12 = .ok (.getfield 21, 3) := by decide +kernel
theorem dX2_entry_15 : decode cX2_entry 15 = .ok (.if_icmp .lt 5, 3) := by decide +kernel
theorem dX2_entry_18 : decode cX2_entry 18 = .ok (.iconst (-1), 1) := by decide +kernel
theorem dX2_entry_19 : decode cX2_entry 19 = .ok (.ireturn, 1) := by decide +kernel
theorem dX2_entry_20 : decode cX2_entry 20 = .ok (.aload_n 0, 1) := by decide +kernel
theorem dX2_entry_21 : decode cX2_entry 21 = .ok (.getfield 21, 3) := by decide +kernel
theorem dX2_entry_24 : decode cX2_entry 24 = .ok (.iconst 1, 1) := by decide +kernel
theorem dX2_entry_25 : decode cX2_entry 25 = .ok (.isub, 1) := by decide +kernel
theorem dX2_entry_26 : decode cX2_entry 26 = .ok (.iload_n 1, 1) := by decide +kernel
theorem dX2_entry_27 : decode cX2_entry 27 = .ok (.isub, 1) := by decide +kernel
theorem dX2_entry_28 : decode cX2_entry 28 = .ok (.invokestatic 25, 3) := by decide +kernel
theorem dX2_entry_31 : decode cX2_entry 31 = .ok (.istore_n 3, 1) := by decide +kernel
theorem dX2_entry_32 : decode cX2_entry 32 = .ok (.iload_n 2, 1) := by decide +kernel
theorem dX2_entry_33 : decode cX2_entry 33 = .ok (.tableswitch 48 0 2 #[27, 34, 41], 27) := by decide +kernel
theorem dX2_entry_60 : decode cX2_entry 60 = .ok (.aload_n 0, 1) := by decide +kernel
theorem dX2_entry_61 : decode cX2_entry 61 = .ok (.getfield 9, 3) := by decide +kernel
theorem dX2_entry_64 : decode cX2_entry 64 = .ok (.iload_n 3, 1) := by decide +kernel
theorem dX2_entry_65 : decode cX2_entry 65 = .ok (.iaload, 1) := by decide +kernel
theorem dX2_entry_66 : decode cX2_entry 66 = .ok (.ireturn, 1) := by decide +kernel
theorem dX2_entry_67 : decode cX2_entry 67 = .ok (.aload_n 0, 1) := by decide +kernel
theorem dX2_entry_68 : decode cX2_entry 68 = .ok (.getfield 15, 3) := by decide +kernel
theorem dX2_entry_71 : decode cX2_entry 71 = .ok (.iload_n 3, 1) := by decide +kernel
theorem dX2_entry_72 : decode cX2_entry 72 = .ok (.iaload, 1) := by decide +kernel
theorem dX2_entry_73 : decode cX2_entry 73 = .ok (.ireturn, 1) := by decide +kernel
theorem dX2_entry_74 : decode cX2_entry 74 = .ok (.aload_n 0, 1) := by decide +kernel
theorem dX2_entry_75 : decode cX2_entry 75 = .ok (.getfield 18, 3) := by decide +kernel
theorem dX2_entry_78 : decode cX2_entry 78 = .ok (.iload_n 3, 1) := by decide +kernel
theorem dX2_entry_79 : decode cX2_entry 79 = .ok (.iaload, 1) := by decide +kernel
theorem dX2_entry_80 : decode cX2_entry 80 = .ok (.ireturn, 1) := by decide +kernel
theorem dX2_entry_81 : decode cX2_entry 81 = .ok (.iconst (-1), 1) := by decide +kernel
theorem dX2_entry_82 : decode cX2_entry 82 = .ok (.ireturn, 1) := by decide +kernel
theorem dX2_placeOf_0 : decode cX2_placeOf 0 = .ok (.iload_n 0, 1) := by decide +kernel
theorem dX2_placeOf_1 : decode cX2_placeOf 1 = .ok (.bipush 16, 2) := by decide +kernel
theorem dX2_placeOf_3 : decode cX2_placeOf 3 = .ok (.invokestatic 29, 3) := by decide +kernel
theorem dX2_placeOf_6 : decode cX2_placeOf 6 = .ok (.ireturn, 1) := by decide +kernel
theorem dX6_init_0 : decode cX6_init 0 = .ok (.aload_n 0, 1) := by decide +kernel
theorem dX6_init_1 : decode cX6_init 1 = .ok (.invokespecial 3, 3) := by decide +kernel
theorem dX6_init_4 : decode cX6_init 4 = .ok (.aload_n 0, 1) := by decide +kernel
theorem dX6_init_5 : decode cX6_init 5 = .ok (.bipush 64, 2) := by decide +kernel
theorem dX6_init_7 : decode cX6_init 7 = .ok (.newarray .int, 2) := by decide +kernel
theorem dX6_init_9 : decode cX6_init 9 = .ok (.putfield 9, 3) := by decide +kernel
theorem dX6_init_12 : decode cX6_init 12 = .ok (.aload_n 0, 1) := by decide +kernel
theorem dX6_init_13 : decode cX6_init 13 = .ok (.iload_n 1, 1) := by decide +kernel
theorem dX6_init_14 : decode cX6_init 14 = .ok (.putfield 15, 3) := by decide +kernel
theorem dX6_init_17 : decode cX6_init 17 = .ok (.return_, 1) := by decide +kernel
theorem dX6_retirement_0 : decode cX6_retirement 0 = .ok (.aload_n 0, 1) := by decide +kernel
theorem dX6_retirement_1 : decode cX6_retirement 1 = .ok (.getfield 15, 3) := by decide +kernel
theorem dX6_retirement_4 : decode cX6_retirement 4 = .ok (.iload_n 1, 1) := by decide +kernel
theorem dX6_retirement_5 : decode cX6_retirement 5 = .ok (.imul, 1) := by decide +kernel
theorem dX6_retirement_6 : decode cX6_retirement 6 = .ok (.iload_n 2, 1) := by decide +kernel
theorem dX6_retirement_7 : decode cX6_retirement 7 = .ok (.isub, 1) := by decide +kernel
theorem dX6_retirement_8 : decode cX6_retirement 8 = .ok (.iconst 4, 1) := by decide +kernel
theorem dX6_retirement_9 : decode cX6_retirement 9 = .ok (.aload_n 0, 1) := by decide +kernel
theorem dX6_retirement_10 : decode cX6_retirement 10 = .ok (.getfield 15, 3) := by decide +kernel
theorem dX6_retirement_13 : decode cX6_retirement 13 = .ok (.imul, 1) := by decide +kernel
theorem dX6_retirement_14 : decode cX6_retirement 14 = .ok (.invokestatic 19, 3) := by decide +kernel
theorem dX6_retirement_17 : decode cX6_retirement 17 = .ok (.istore_n 3, 1) := by decide +kernel
theorem dX6_retirement_18 : decode cX6_retirement 18 = .ok (.iload_n 2, 1) := by decide +kernel
theorem dX6_retirement_19 : decode cX6_retirement 19 = .ok (.iload_n 3, 1) := by decide +kernel
theorem dX6_retirement_20 : decode cX6_retirement 20 = .ok (.iadd, 1) := by decide +kernel
theorem dX6_retirement_21 : decode cX6_retirement 21 = .ok (.aload_n 0, 1) := by decide +kernel
theorem dX6_retirement_22 : decode cX6_retirement 22 = .ok (.getfield 15, 3) := by decide +kernel
theorem dX6_retirement_25 : decode cX6_retirement 25 = .ok (.iadd, 1) := by decide +kernel
theorem dX6_retirement_26 : decode cX6_retirement 26 = .ok (.ireturn, 1) := by decide +kernel
theorem dX8_init_0 : decode cX8_init 0 = .ok (.aload_n 0, 1) := by decide +kernel
theorem dX8_init_1 : decode cX8_init 1 = .ok (.invokespecial 3, 3) := by decide +kernel
theorem dX8_init_4 : decode cX8_init 4 = .ok (.aload_n 0, 1) := by decide +kernel
theorem dX8_init_5 : decode cX8_init 5 = .ok (.bipush 16, 2) := by decide +kernel
theorem dX8_init_7 : decode cX8_init 7 = .ok (.newarray .int, 2) := by decide +kernel
theorem dX8_init_9 : decode cX8_init 9 = .ok (.putfield 9, 3) := by decide +kernel
theorem dX8_init_12 : decode cX8_init 12 = .ok (.aload_n 0, 1) := by decide +kernel
theorem dX8_init_13 : decode cX8_init 13 = .ok (.sipush 128, 3) := by decide +kernel
theorem dX8_init_16 : decode cX8_init 16 = .ok (.newarray .int, 2) := by decide +kernel
theorem dX8_init_18 : decode cX8_init 18 = .ok (.putfield 15, 3) := by decide +kernel
theorem dX8_init_21 : decode cX8_init 21 = .ok (.aload_n 0, 1) := by decide +kernel
theorem dX8_init_22 : decode cX8_init 22 = .ok (.new 18, 3) := by decide +kernel
theorem dX8_init_25 : decode cX8_init 25 = .ok (.dup, 1) := by decide +kernel
theorem dX8_init_26 : decode cX8_init 26 = .ok (.invokespecial 20, 3) := by decide +kernel
theorem dX8_init_29 : decode cX8_init 29 = .ok (.putfield 21, 3) := by decide +kernel
theorem dX8_init_32 : decode cX8_init 32 = .ok (.aload_n 0, 1) := by decide +kernel
theorem dX8_init_33 : decode cX8_init 33 = .ok (.iconst 4, 1) := by decide +kernel
theorem dX8_init_34 : decode cX8_init 34 = .ok (.newarray .int, 2) := by decide +kernel
theorem dX8_init_36 : decode cX8_init 36 = .ok (.putfield 25, 3) := by decide +kernel
theorem dX8_init_39 : decode cX8_init 39 = .ok (.aload_n 0, 1) := by decide +kernel
theorem dX8_init_40 : decode cX8_init 40 = .ok (.iconst 0, 1) := by decide +kernel
theorem dX8_init_41 : decode cX8_init 41 = .ok (.putfield 28, 3) := by decide +kernel
theorem dX8_init_44 : decode cX8_init 44 = .ok (.aload_n 0, 1) := by decide +kernel
theorem dX8_init_45 : decode cX8_init 45 = .ok (.iload_n 1, 1) := by decide +kernel
theorem dX8_init_46 : decode cX8_init 46 = .ok (.putfield 32, 3) := by decide +kernel
theorem dX8_init_49 : decode cX8_init 49 = .ok (.return_, 1) := by decide +kernel
theorem dX8_begin_0 : decode cX8_begin 0 = .ok (.aload_n 0, 1) := by decide +kernel
theorem dX8_begin_1 : decode cX8_begin 1 = .ok (.iconst 1, 1) := by decide +kernel
theorem dX8_begin_2 : decode cX8_begin 2 = .ok (.putfield 28, 3) := by decide +kernel
theorem dX8_begin_5 : decode cX8_begin 5 = .ok (.aload_n 0, 1) := by decide +kernel
theorem dX8_begin_6 : decode cX8_begin 6 = .ok (.iload_n 1, 1) := by decide +kernel
theorem dX8_begin_7 : decode cX8_begin 7 = .ok (.putfield 35, 3) := by decide +kernel
theorem dX8_begin_10 : decode cX8_begin 10 = .ok (.aload_n 0, 1) := by decide +kernel
theorem dX8_begin_11 : decode cX8_begin 11 = .ok (.iload_n 2, 1) := by decide +kernel
theorem dX8_begin_12 : decode cX8_begin 12 = .ok (.putfield 38, 3) := by decide +kernel
theorem dX8_begin_15 : decode cX8_begin 15 = .ok (.return_, 1) := by decide +kernel
theorem dX8_condition_0 : decode cX8_condition 0 = .ok (.iload_n 1, 1) := by decide +kernel
theorem dX8_condition_1 : decode cX8_condition 1 = .ok (.tableswitch 54 0 3 #[31, 36, 41, 49], 31) := by decide +kernel
theorem dX8_condition_32 : decode cX8_condition 32 = .ok (.aload_n 0, 1) := by decide +kernel
theorem dX8_condition_33 : decode cX8_condition 33 = .ok (.getfield 28, 3) := by decide +kernel
theorem dX8_condition_36 : decode cX8_condition 36 = .ok (.ireturn, 1) := by decide +kernel
theorem dX8_condition_37 : decode cX8_condition 37 = .ok (.aload_n 0, 1) := by decide +kernel
theorem dX8_condition_38 : decode cX8_condition 38 = .ok (.getfield 35, 3) := by decide +kernel
theorem dX8_condition_41 : decode cX8_condition 41 = .ok (.ireturn, 1) := by decide +kernel
theorem dX8_condition_42 : decode cX8_condition 42 = .ok (.aload_n 0, 1) := by decide +kernel
theorem dX8_condition_43 : decode cX8_condition 43 = .ok (.getfield 21, 3) := by decide +kernel
theorem dX8_condition_46 : decode cX8_condition 46 = .ok (.getfield 41, 3) := by decide +kernel
theorem dX8_condition_49 : decode cX8_condition 49 = .ok (.ireturn, 1) := by decide +kernel
theorem dX8_condition_50 : decode cX8_condition 50 = .ok (.aload_n 0, 1) := by decide +kernel
theorem dX8_condition_51 : decode cX8_condition 51 = .ok (.getfield 38, 3) := by decide +kernel
theorem dX8_condition_54 : decode cX8_condition 54 = .ok (.ireturn, 1) := by decide +kernel
theorem dX8_condition_55 : decode cX8_condition 55 = .ok (.iload_n 1, 1) := by decide +kernel
theorem dX8_condition_56 : decode cX8_condition 56 = .ok (.iconst 4, 1) := by decide +kernel
theorem dX8_condition_57 : decode cX8_condition 57 = .ok (.if_icmp .lt 20, 3) := by decide +kernel
theorem dX8_condition_60 : decode cX8_condition 60 = .ok (.iload_n 1, 1) := by decide +kernel
theorem dX8_condition_61 : decode cX8_condition 61 = .ok (.bipush 8, 2) := by decide +kernel
theorem dX8_condition_63 : decode cX8_condition 63 = .ok (.if_icmp .ge 14, 3) := by decide +kernel
theorem dX8_condition_66 : decode cX8_condition 66 = .ok (.aload_n 0, 1) := by decide +kernel
theorem dX8_condition_67 : decode cX8_condition 67 = .ok (.getfield 25, 3) := by decide +kernel
theorem dX8_condition_70 : decode cX8_condition 70 = .ok (.iload_n 1, 1) := by decide +kernel
theorem dX8_condition_71 : decode cX8_condition 71 = .ok (.iconst 4, 1) := by decide +kernel
theorem dX8_condition_72 : decode cX8_condition 72 = .ok (.isub, 1) := by decide +kernel
theorem dX8_condition_73 : decode cX8_condition 73 = .ok (.iaload, 1) := by decide +kernel
theorem dX8_condition_74 : decode cX8_condition 74 = .ok (.goto 4, 3) := by decide +kernel
theorem dX8_condition_77 : decode cX8_condition 77 = .ok (.iconst (-1), 1) := by decide +kernel
theorem dX8_condition_78 : decode cX8_condition 78 = .ok (.ireturn, 1) := by decide +kernel
theorem dX8_takeTurn_0 : decode cX8_takeTurn 0 = .ok (.aload_n 0, 1) := by decide +kernel
theorem dX8_takeTurn_1 : decode cX8_takeTurn 1 = .ok (.getfield 28, 3) := by decide +kernel
theorem dX8_takeTurn_4 : decode cX8_takeTurn 4 = .ok (.iconst 1, 1) := by decide +kernel
theorem dX8_takeTurn_5 : decode cX8_takeTurn 5 = .ok (.if_icmp .ne 11, 3) := by decide +kernel
theorem dX8_takeTurn_8 : decode cX8_takeTurn 8 = .ok (.iload_n 1, 1) := by decide +kernel
theorem dX8_takeTurn_9 : decode cX8_takeTurn 9 = .ok (.aload_n 0, 1) := by decide +kernel
theorem dX8_takeTurn_10 : decode cX8_takeTurn 10 = .ok (.getfield 38, 3) := by decide +kernel
theorem dX8_takeTurn_13 : decode cX8_takeTurn 13 = .ok (.if_icmp .ge 5, 3) := by decide +kernel
theorem dX8_takeTurn_16 : decode cX8_takeTurn 16 = .ok (.iconst 0, 1) := by decide +kernel
theorem dX8_takeTurn_17 : decode cX8_takeTurn 17 = .ok (.ireturn, 1) := by decide +kernel
theorem dX8_takeTurn_18 : decode cX8_takeTurn 18 = .ok (.aload_n 0, 1) := by decide +kernel
theorem dX8_takeTurn_19 : decode cX8_takeTurn 19 = .ok (.iload_n 1, 1) := by decide +kernel
theorem dX8_takeTurn_20 : decode cX8_takeTurn 20 = .ok (.aload_n 2, 1) := by decide +kernel
theorem dX8_takeTurn_21 : decode cX8_takeTurn 21 = .ok (.invokevirtual 44, 3) := by decide +kernel
theorem dX8_takeTurn_24 : decode cX8_takeTurn 24 = .ok (.astore_n 3, 1) := by decide +kernel
theorem dX8_takeTurn_25 : decode cX8_takeTurn 25 = .ok (.aload_n 3, 1) := by decide +kernel
theorem dX8_takeTurn_26 : decode cX8_takeTurn 26 = .ok (.getstatic 48, 3) := by decide +kernel
theorem dX8_takeTurn_29 : decode cX8_takeTurn 29 = .ok (.if_acmp .ne 8, 3) := by decide +kernel
theorem dX8_takeTurn_32 : decode cX8_takeTurn 32 = .ok (.aload_n 0, 1) := by decide +kernel
theorem dX8_takeTurn_33 : decode cX8_takeTurn 33 = .ok (.iconst 3, 1) := by decide +kernel
theorem dX8_takeTurn_34 : decode cX8_takeTurn 34 = .ok (.putfield 28, 3) := by decide +kernel
theorem dX8_takeTurn_37 : decode cX8_takeTurn 37 = .ok (.aload_n 3, 1) := by decide +kernel
theorem dX8_takeTurn_38 : decode cX8_takeTurn 38 = .ok (.getstatic 54, 3) := by decide +kernel
theorem dX8_takeTurn_41 : decode cX8_takeTurn 41 = .ok (.if_acmp .eq 5, 3) := by decide +kernel
theorem dX8_takeTurn_44 : decode cX8_takeTurn 44 = .ok (.iconst 0, 1) := by decide +kernel
theorem dX8_takeTurn_45 : decode cX8_takeTurn 45 = .ok (.ireturn, 1) := by decide +kernel
theorem dX8_takeTurn_46 : decode cX8_takeTurn 46 = .ok (.aload_n 0, 1) := by decide +kernel
theorem dX8_takeTurn_47 : decode cX8_takeTurn 47 = .ok (.getfield 21, 3) := by decide +kernel
theorem dX8_takeTurn_50 : decode cX8_takeTurn 50 = .ok (.aload_n 0, 1) := by decide +kernel
theorem dX8_takeTurn_51 : decode cX8_takeTurn 51 = .ok (.getfield 35, 3) := by decide +kernel
theorem dX8_takeTurn_54 : decode cX8_takeTurn 54 = .ok (.iload_n 1, 1) := by decide +kernel
theorem dX8_takeTurn_55 : decode cX8_takeTurn 55 = .ok (.aload_n 0, 1) := by decide +kernel
theorem dX8_takeTurn_56 : decode cX8_takeTurn 56 = .ok (.getfield 57, 3) := by decide +kernel
theorem dX8_takeTurn_59 : decode cX8_takeTurn 59 = .ok (.invokevirtual 60, 3) := by decide +kernel
theorem dX8_takeTurn_62 : decode cX8_takeTurn 62 = .ok (.aload_n 0, 1) := by decide +kernel
theorem dX8_takeTurn_63 : decode cX8_takeTurn 63 = .ok (.aload_n 0, 1) := by decide +kernel
theorem dX8_takeTurn_64 : decode cX8_takeTurn 64 = .ok (.getfield 64, 3) := by decide +kernel
theorem dX8_takeTurn_67 : decode cX8_takeTurn 67 = .ok (.putfield 35, 3) := by decide +kernel
theorem dX8_takeTurn_70 : decode cX8_takeTurn 70 = .ok (.aload_n 0, 1) := by decide +kernel
theorem dX8_takeTurn_71 : decode cX8_takeTurn 71 = .ok (.aload_n 0, 1) := by decide +kernel
theorem dX8_takeTurn_72 : decode cX8_takeTurn 72 = .ok (.getfield 57, 3) := by decide +kernel
theorem dX8_takeTurn_75 : decode cX8_takeTurn 75 = .ok (.putfield 38, 3) := by decide +kernel
theorem dX8_takeTurn_78 : decode cX8_takeTurn 78 = .ok (.iconst 1, 1) := by decide +kernel
theorem dX8_takeTurn_79 : decode cX8_takeTurn 79 = .ok (.ireturn, 1) := by decide +kernel
theorem dX8_attempt_0 : decode cX8_attempt 0 = .ok (.aload_n 0, 1) := by decide +kernel
theorem dX8_attempt_1 : decode cX8_attempt 1 = .ok (.getfield 35, 3) := by decide +kernel
theorem dX8_attempt_4 : decode cX8_attempt 4 = .ok (.invokestatic 67, 3) := by decide +kernel
theorem dX8_attempt_7 : decode cX8_attempt 7 = .ok (.ifCond .eq 13, 3) := by decide +kernel
theorem dX8_attempt_10 : decode cX8_attempt 10 = .ok (.aload_n 0, 1) := by decide +kernel
theorem dX8_attempt_11 : decode cX8_attempt 11 = .ok (.getfield 35, 3) := by decide +kernel
theorem dX8_attempt_14 : decode cX8_attempt 14 = .ok (.invokestatic 71, 3) := by decide +kernel
theorem dX8_attempt_17 : decode cX8_attempt 17 = .ok (.ifCond .ne 7, 3) := by decide +kernel
theorem dX8_attempt_20 : decode cX8_attempt 20 = .ok (.getstatic 48, 3) := by decide +kernel
theorem dX8_attempt_23 : decode cX8_attempt 23 = .ok (.areturn, 1) := by decide +kernel
theorem dX8_attempt_24 : decode cX8_attempt 24 = .ok (.aload_n 0, 1) := by decide +kernel
theorem dX8_attempt_25 : decode cX8_attempt 25 = .ok (.getfield 15, 3) := by decide +kernel
theorem dX8_attempt_28 : decode cX8_attempt 28 = .ok (.aload_n 0, 1) := by decide +kernel
theorem dX8_attempt_29 : decode cX8_attempt 29 = .ok (.getfield 35, 3) := by decide +kernel
theorem dX8_attempt_32 : decode cX8_attempt 32 = .ok (.iconst 2, 1) := by decide +kernel
theorem dX8_attempt_33 : decode cX8_attempt 33 = .ok (.ishr, 1) := by decide +kernel
theorem dX8_attempt_34 : decode cX8_attempt 34 = .ok (.iaload, 1) := by decide +kernel
theorem dX8_attempt_35 : decode cX8_attempt 35 = .ok (.istore_n 3, 1) := by decide +kernel
theorem dX8_attempt_36 : decode cX8_attempt 36 = .ok (.aload_n 0, 1) := by decide +kernel
theorem dX8_attempt_37 : decode cX8_attempt 37 = .ok (.aload_n 0, 1) := by decide +kernel
theorem dX8_attempt_38 : decode cX8_attempt 38 = .ok (.getfield 35, 3) := by decide +kernel
theorem dX8_attempt_41 : decode cX8_attempt 41 = .ok (.iconst 4, 1) := by decide +kernel
theorem dX8_attempt_42 : decode cX8_attempt 42 = .ok (.iadd, 1) := by decide +kernel
theorem dX8_attempt_43 : decode cX8_attempt 43 = .ok (.putfield 64, 3) := by decide +kernel
theorem dX8_attempt_46 : decode cX8_attempt 46 = .ok (.aload_n 0, 1) := by decide +kernel
theorem dX8_attempt_47 : decode cX8_attempt 47 = .ok (.iload_n 1, 1) := by decide +kernel
theorem dX8_attempt_48 : decode cX8_attempt 48 = .ok (.iconst 4, 1) := by decide +kernel
theorem dX8_attempt_49 : decode cX8_attempt 49 = .ok (.iadd, 1) := by decide +kernel
theorem dX8_attempt_50 : decode cX8_attempt 50 = .ok (.putfield 57, 3) := by decide +kernel
theorem dX8_attempt_53 : decode cX8_attempt 53 = .ok (.iload_n 3, 1) := by decide +kernel
theorem dX8_attempt_54 : decode cX8_attempt 54 = .ok (.invokestatic 74, 3) := by decide +kernel
theorem dX8_attempt_57 : decode cX8_attempt 57 = .ok (.lookupswitch 156 #[(3, 115), (11, 143), (19, 131), (35, 123), (51, 137), (55, 91), (99, 109), (103, 103), (111, 97), (115, 150)], 91) := by decide +kernel
theorem dX8_attempt_148 : decode cX8_attempt 148 = .ok (.aload_n 0, 1) := by decide +kernel
theorem dX8_attempt_149 : decode cX8_attempt 149 = .ok (.iload_n 3, 1) := by decide +kernel
theorem dX8_attempt_150 : decode cX8_attempt 150 = .ok (.invokevirtual 80, 3) := by decide +kernel
theorem dX8_attempt_153 : decode cX8_attempt 153 = .ok (.areturn, 1) := by decide +kernel
theorem dX8_attempt_154 : decode cX8_attempt 154 = .ok (.aload_n 0, 1) := by decide +kernel
theorem dX8_attempt_155 : decode cX8_attempt 155 = .ok (.iload_n 3, 1) := by decide +kernel
theorem dX8_attempt_156 : decode cX8_attempt 156 = .ok (.invokevirtual 84, 3) := by decide +kernel
theorem dX8_attempt_159 : decode cX8_attempt 159 = .ok (.areturn, 1) := by decide +kernel
theorem dX8_attempt_160 : decode cX8_attempt 160 = .ok (.aload_n 0, 1) := by decide +kernel
theorem dX8_attempt_161 : decode cX8_attempt 161 = .ok (.iload_n 3, 1) := by decide +kernel
theorem dX8_attempt_162 : decode cX8_attempt 162 = .ok (.invokevirtual 87, 3) := by decide +kernel
theorem dX8_attempt_165 : decode cX8_attempt 165 = .ok (.areturn, 1) := by decide +kernel
theorem dX8_attempt_166 : decode cX8_attempt 166 = .ok (.aload_n 0, 1) := by decide +kernel
theorem dX8_attempt_167 : decode cX8_attempt 167 = .ok (.iload_n 3, 1) := by decide +kernel
theorem dX8_attempt_168 : decode cX8_attempt 168 = .ok (.invokevirtual 90, 3) := by decide +kernel
theorem dX8_attempt_171 : decode cX8_attempt 171 = .ok (.areturn, 1) := by decide +kernel
theorem dX8_attempt_172 : decode cX8_attempt 172 = .ok (.aload_n 0, 1) := by decide +kernel
theorem dX8_attempt_173 : decode cX8_attempt 173 = .ok (.iload_n 3, 1) := by decide +kernel
theorem dX8_attempt_174 : decode cX8_attempt 174 = .ok (.iload_n 1, 1) := by decide +kernel
theorem dX8_attempt_175 : decode cX8_attempt 175 = .ok (.aload_n 2, 1) := by decide +kernel
theorem dX8_attempt_176 : decode cX8_attempt 176 = .ok (.invokevirtual 93, 3) := by decide +kernel
theorem dX8_attempt_179 : decode cX8_attempt 179 = .ok (.areturn, 1) := by decide +kernel
theorem dX8_attempt_180 : decode cX8_attempt 180 = .ok (.aload_n 0, 1) := by decide +kernel
theorem dX8_attempt_181 : decode cX8_attempt 181 = .ok (.iload_n 3, 1) := by decide +kernel
theorem dX8_attempt_182 : decode cX8_attempt 182 = .ok (.iload_n 1, 1) := by decide +kernel
theorem dX8_attempt_183 : decode cX8_attempt 183 = .ok (.aload_n 2, 1) := by decide +kernel
theorem dX8_attempt_184 : decode cX8_attempt 184 = .ok (.invokevirtual 97, 3) := by decide +kernel
theorem dX8_attempt_187 : decode cX8_attempt 187 = .ok (.areturn, 1) := by decide +kernel
theorem dX8_attempt_188 : decode cX8_attempt 188 = .ok (.aload_n 0, 1) := by decide +kernel
theorem dX8_attempt_189 : decode cX8_attempt 189 = .ok (.iload_n 3, 1) := by decide +kernel
theorem dX8_attempt_190 : decode cX8_attempt 190 = .ok (.invokevirtual 100, 3) := by decide +kernel
theorem dX8_attempt_193 : decode cX8_attempt 193 = .ok (.areturn, 1) := by decide +kernel
theorem dX8_attempt_194 : decode cX8_attempt 194 = .ok (.aload_n 0, 1) := by decide +kernel
theorem dX8_attempt_195 : decode cX8_attempt 195 = .ok (.iload_n 3, 1) := by decide +kernel
theorem dX8_attempt_196 : decode cX8_attempt 196 = .ok (.invokevirtual 103, 3) := by decide +kernel
theorem dX8_attempt_199 : decode cX8_attempt 199 = .ok (.areturn, 1) := by decide +kernel
theorem dX8_attempt_200 : decode cX8_attempt 200 = .ok (.aload_n 0, 1) := by decide +kernel
theorem dX8_attempt_201 : decode cX8_attempt 201 = .ok (.iload_n 3, 1) := by decide +kernel
theorem dX8_attempt_202 : decode cX8_attempt 202 = .ok (.iload_n 1, 1) := by decide +kernel
theorem dX8_attempt_203 : decode cX8_attempt 203 = .ok (.invokevirtual 106, 3) := by decide +kernel
theorem dX8_attempt_206 : decode cX8_attempt 206 = .ok (.areturn, 1) := by decide +kernel
theorem dX8_attempt_207 : decode cX8_attempt 207 = .ok (.aload_n 0, 1) := by decide +kernel
theorem dX8_attempt_208 : decode cX8_attempt 208 = .ok (.iload_n 3, 1) := by decide +kernel
theorem dX8_attempt_209 : decode cX8_attempt 209 = .ok (.invokevirtual 110, 3) := by decide +kernel
theorem dX8_attempt_212 : decode cX8_attempt 212 = .ok (.areturn, 1) := by decide +kernel
theorem dX8_attempt_213 : decode cX8_attempt 213 = .ok (.getstatic 48, 3) := by decide +kernel
theorem dX8_attempt_216 : decode cX8_attempt 216 = .ok (.areturn, 1) := by decide +kernel
theorem dX8_loadUpper_0 : decode cX8_loadUpper 0 = .ok (.iload_n 1, 1) := by decide +kernel
theorem dX8_loadUpper_1 : decode cX8_loadUpper 1 = .ok (.invokestatic 113, 3) := by decide +kernel
theorem dX8_loadUpper_4 : decode cX8_loadUpper 4 = .ok (.istore_n 2, 1) := by decide +kernel
theorem dX8_loadUpper_5 : decode cX8_loadUpper 5 = .ok (.iload_n 2, 1) := by decide +kernel
theorem dX8_loadUpper_6 : decode cX8_loadUpper 6 = .ok (.invokestatic 116, 3) := by decide +kernel
theorem dX8_loadUpper_9 : decode cX8_loadUpper 9 = .ok (.ifCond .ne 7, 3) := by decide +kernel
theorem dX8_loadUpper_12 : decode cX8_loadUpper 12 = .ok (.getstatic 48, 3) := by decide +kernel
theorem dX8_loadUpper_15 : decode cX8_loadUpper 15 = .ok (.areturn, 1) := by decide +kernel
theorem dX8_loadUpper_16 : decode cX8_loadUpper 16 = .ok (.aload_n 0, 1) := by decide +kernel
theorem dX8_loadUpper_17 : decode cX8_loadUpper 17 = .ok (.iload_n 2, 1) := by decide +kernel
theorem dX8_loadUpper_18 : decode cX8_loadUpper 18 = .ok (.iload_n 1, 1) := by decide +kernel
theorem dX8_loadUpper_19 : decode cX8_loadUpper 19 = .ok (.invokestatic 119, 3) := by decide +kernel
theorem dX8_loadUpper_22 : decode cX8_loadUpper 22 = .ok (.invokevirtual 122, 3) := by decide +kernel
theorem dX8_loadUpper_25 : decode cX8_loadUpper 25 = .ok (.getstatic 54, 3) := by decide +kernel
theorem dX8_loadUpper_28 : decode cX8_loadUpper 28 = .ok (.areturn, 1) := by decide +kernel
theorem dX8_jump_0 : decode cX8_jump 0 = .ok (.iload_n 1, 1) := by decide +kernel
theorem dX8_jump_1 : decode cX8_jump 1 = .ok (.invokestatic 113, 3) := by decide +kernel
theorem dX8_jump_4 : decode cX8_jump 4 = .ok (.istore_n 2, 1) := by decide +kernel
theorem dX8_jump_5 : decode cX8_jump 5 = .ok (.iload_n 2, 1) := by decide +kernel
theorem dX8_jump_6 : decode cX8_jump 6 = .ok (.invokestatic 116, 3) := by decide +kernel
theorem dX8_jump_9 : decode cX8_jump 9 = .ok (.ifCond .ne 7, 3) := by decide +kernel
theorem dX8_jump_12 : decode cX8_jump 12 = .ok (.getstatic 48, 3) := by decide +kernel
theorem dX8_jump_15 : decode cX8_jump 15 = .ok (.areturn, 1) := by decide +kernel
theorem dX8_jump_16 : decode cX8_jump 16 = .ok (.aload_n 0, 1) := by decide +kernel
theorem dX8_jump_17 : decode cX8_jump 17 = .ok (.iload_n 2, 1) := by decide +kernel
theorem dX8_jump_18 : decode cX8_jump 18 = .ok (.aload_n 0, 1) := by decide +kernel
theorem dX8_jump_19 : decode cX8_jump 19 = .ok (.getfield 64, 3) := by decide +kernel
theorem dX8_jump_22 : decode cX8_jump 22 = .ok (.invokevirtual 122, 3) := by decide +kernel
theorem dX8_jump_25 : decode cX8_jump 25 = .ok (.aload_n 0, 1) := by decide +kernel
theorem dX8_jump_26 : decode cX8_jump 26 = .ok (.aload_n 0, 1) := by decide +kernel
theorem dX8_jump_27 : decode cX8_jump 27 = .ok (.getfield 35, 3) := by decide +kernel
theorem dX8_jump_30 : decode cX8_jump 30 = .ok (.iload_n 1, 1) := by decide +kernel
theorem dX8_jump_31 : decode cX8_jump 31 = .ok (.invokestatic 126, 3) := by decide +kernel
theorem dX8_jump_34 : decode cX8_jump 34 = .ok (.iadd, 1) := by decide +kernel
theorem dX8_jump_35 : decode cX8_jump 35 = .ok (.putfield 64, 3) := by decide +kernel
theorem dX8_jump_38 : decode cX8_jump 38 = .ok (.getstatic 54, 3) := by decide +kernel
theorem dX8_jump_41 : decode cX8_jump 41 = .ok (.areturn, 1) := by decide +kernel
theorem dX8_jumpToRegister_0 : decode cX8_jumpToRegister 0 = .ok (.iload_n 1, 1) := by decide +kernel
theorem dX8_jumpToRegister_1 : decode cX8_jumpToRegister 1 = .ok (.invokestatic 113, 3) := by decide +kernel
theorem dX8_jumpToRegister_4 : decode cX8_jumpToRegister 4 = .ok (.istore_n 2, 1) := by decide +kernel
theorem dX8_jumpToRegister_5 : decode cX8_jumpToRegister 5 = .ok (.iload_n 1, 1) := by decide +kernel
theorem dX8_jumpToRegister_6 : decode cX8_jumpToRegister 6 = .ok (.invokestatic 129, 3) := by decide +kernel
theorem dX8_jumpToRegister_9 : decode cX8_jumpToRegister 9 = .ok (.istore_n 3, 1) := by decide +kernel
theorem dX8_jumpToRegister_10 : decode cX8_jumpToRegister 10 = .ok (.iload_n 1, 1) := by decide +kernel
theorem dX8_jumpToRegister_11 : decode cX8_jumpToRegister 11 = .ok (.invokestatic 132, 3) := by decide +kernel
theorem dX8_jumpToRegister_14 : decode cX8_jumpToRegister 14 = .ok (.ifCond .ne 17, 3) := by decide +kernel
theorem dX8_jumpToRegister_17 : decode cX8_jumpToRegister 17 = .ok (.iload_n 2, 1) := by decide +kernel
theorem dX8_jumpToRegister_18 : decode cX8_jumpToRegister 18 = .ok (.invokestatic 116, 3) := by decide +kernel
theorem dX8_jumpToRegister_21 : decode cX8_jumpToRegister 21 = .ok (.ifCond .eq 10, 3) := by decide +kernel
theorem dX8_jumpToRegister_24 : decode cX8_jumpToRegister 24 = .ok (.iload_n 3, 1) := by decide +kernel
theorem dX8_jumpToRegister_25 : decode cX8_jumpToRegister 25 = .ok (.invokestatic 116, 3) := by decide +kernel
theorem dX8_jumpToRegister_28 : decode cX8_jumpToRegister 28 = .ok (.ifCond .ne 7, 3) := by decide +kernel
theorem dX8_jumpToRegister_31 : decode cX8_jumpToRegister 31 = .ok (.getstatic 48, 3) := by decide +kernel
theorem dX8_jumpToRegister_34 : decode cX8_jumpToRegister 34 = .ok (.areturn, 1) := by decide +kernel
theorem dX8_jumpToRegister_35 : decode cX8_jumpToRegister 35 = .ok (.aload_n 0, 1) := by decide +kernel
theorem dX8_jumpToRegister_36 : decode cX8_jumpToRegister 36 = .ok (.getfield 9, 3) := by decide +kernel
theorem dX8_jumpToRegister_39 : decode cX8_jumpToRegister 39 = .ok (.iload_n 3, 1) := by decide +kernel
theorem dX8_jumpToRegister_40 : decode cX8_jumpToRegister 40 = .ok (.iaload, 1) := by decide +kernel
theorem dX8_jumpToRegister_41 : decode cX8_jumpToRegister 41 = .ok (.iload_n 1, 1) := by decide +kernel
theorem dX8_jumpToRegister_42 : decode cX8_jumpToRegister 42 = .ok (.invokestatic 135, 3) := by decide +kernel
theorem dX8_jumpToRegister_45 : decode cX8_jumpToRegister 45 = .ok (.iadd, 1) := by decide +kernel
theorem dX8_jumpToRegister_46 : decode cX8_jumpToRegister 46 = .ok (.bipush (-2), 2) := by decide +kernel
theorem dX8_jumpToRegister_48 : decode cX8_jumpToRegister 48 = .ok (.iand, 1) := by decide +kernel
theorem dX8_jumpToRegister_49 : decode cX8_jumpToRegister 49 = .ok (.istore 4, 2) := by decide +kernel
theorem dX8_jumpToRegister_51 : decode cX8_jumpToRegister 51 = .ok (.aload_n 0, 1) := by decide +kernel
theorem dX8_jumpToRegister_52 : decode cX8_jumpToRegister 52 = .ok (.iload_n 2, 1) := by decide +kernel
theorem dX8_jumpToRegister_53 : decode cX8_jumpToRegister 53 = .ok (.aload_n 0, 1) := by decide +kernel
theorem dX8_jumpToRegister_54 : decode cX8_jumpToRegister 54 = .ok (.getfield 64, 3) := by decide +kernel
theorem dX8_jumpToRegister_57 : decode cX8_jumpToRegister 57 = .ok (.invokevirtual 122, 3) := by decide +kernel
theorem dX8_jumpToRegister_60 : decode cX8_jumpToRegister 60 = .ok (.aload_n 0, 1) := by decide +kernel
theorem dX8_jumpToRegister_61 : decode cX8_jumpToRegister 61 = .ok (.iload 4, 2) := by decide +kernel
theorem dX8_jumpToRegister_63 : decode cX8_jumpToRegister 63 = .ok (.putfield 64, 3) := by decide +kernel
theorem dX8_jumpToRegister_66 : decode cX8_jumpToRegister 66 = .ok (.getstatic 54, 3) := by decide +kernel
theorem dX8_jumpToRegister_69 : decode cX8_jumpToRegister 69 = .ok (.areturn, 1) := by decide +kernel
theorem dX8_branch_0 : decode cX8_branch 0 = .ok (.iload_n 1, 1) := by decide +kernel
theorem dX8_branch_1 : decode cX8_branch 1 = .ok (.invokestatic 132, 3) := by decide +kernel
theorem dX8_branch_4 : decode cX8_branch 4 = .ok (.istore_n 2, 1) := by decide +kernel
theorem dX8_branch_5 : decode cX8_branch 5 = .ok (.iload_n 1, 1) := by decide +kernel
theorem dX8_branch_6 : decode cX8_branch 6 = .ok (.invokestatic 129, 3) := by decide +kernel
theorem dX8_branch_9 : decode cX8_branch 9 = .ok (.istore_n 3, 1) := by decide +kernel
theorem dX8_branch_10 : decode cX8_branch 10 = .ok (.iload_n 1, 1) := by decide +kernel
theorem dX8_branch_11 : decode cX8_branch 11 = .ok (.invokestatic 138, 3) := by decide +kernel
theorem dX8_branch_14 : decode cX8_branch 14 = .ok (.istore 4, 2) := by decide +kernel
theorem dX8_branch_16 : decode cX8_branch 16 = .ok (.iload_n 2, 1) := by decide +kernel
theorem dX8_branch_17 : decode cX8_branch 17 = .ok (.iconst 2, 1) := by decide +kernel
theorem dX8_branch_18 : decode cX8_branch 18 = .ok (.if_icmp .eq 23, 3) := by decide +kernel
theorem dX8_branch_21 : decode cX8_branch 21 = .ok (.iload_n 2, 1) := by decide +kernel
theorem dX8_branch_22 : decode cX8_branch 22 = .ok (.iconst 3, 1) := by decide +kernel
theorem dX8_branch_23 : decode cX8_branch 23 = .ok (.if_icmp .eq 18, 3) := by decide +kernel
theorem dX8_branch_26 : decode cX8_branch 26 = .ok (.iload_n 3, 1) := by decide +kernel
theorem dX8_branch_27 : decode cX8_branch 27 = .ok (.invokestatic 116, 3) := by decide +kernel
theorem dX8_branch_30 : decode cX8_branch 30 = .ok (.ifCond .eq 11, 3) := by decide +kernel
theorem dX8_branch_33 : decode cX8_branch 33 = .ok (.iload 4, 2) := by decide +kernel
theorem dX8_branch_35 : decode cX8_branch 35 = .ok (.invokestatic 116, 3) := by decide +kernel
theorem dX8_branch_38 : decode cX8_branch 38 = .ok (.ifCond .ne 7, 3) := by decide +kernel
theorem dX8_branch_41 : decode cX8_branch 41 = .ok (.getstatic 48, 3) := by decide +kernel
theorem dX8_branch_44 : decode cX8_branch 44 = .ok (.areturn, 1) := by decide +kernel
theorem dX8_branch_45 : decode cX8_branch 45 = .ok (.iload_n 2, 1) := by decide +kernel
theorem dX8_branch_46 : decode cX8_branch 46 = .ok (.aload_n 0, 1) := by decide +kernel
theorem dX8_branch_47 : decode cX8_branch 47 = .ok (.getfield 9, 3) := by decide +kernel
theorem dX8_branch_50 : decode cX8_branch 50 = .ok (.iload_n 3, 1) := by decide +kernel
theorem dX8_branch_51 : decode cX8_branch 51 = .ok (.iaload, 1) := by decide +kernel
theorem dX8_branch_52 : decode cX8_branch 52 = .ok (.aload_n 0, 1) := by decide +kernel
theorem dX8_branch_53 : decode cX8_branch 53 = .ok (.getfield 9, 3) := by decide +kernel
theorem dX8_branch_56 : decode cX8_branch 56 = .ok (.iload 4, 2) := by decide +kernel
theorem dX8_branch_58 : decode cX8_branch 58 = .ok (.iaload, 1) := by decide +kernel
theorem dX8_branch_59 : decode cX8_branch 59 = .ok (.invokestatic 141, 3) := by decide +kernel
theorem dX8_branch_62 : decode cX8_branch 62 = .ok (.ifCond .eq 16, 3) := by decide +kernel
theorem dX8_branch_65 : decode cX8_branch 65 = .ok (.aload_n 0, 1) := by decide +kernel
theorem dX8_branch_66 : decode cX8_branch 66 = .ok (.aload_n 0, 1) := by decide +kernel
theorem dX8_branch_67 : decode cX8_branch 67 = .ok (.getfield 35, 3) := by decide +kernel
theorem dX8_branch_70 : decode cX8_branch 70 = .ok (.iload_n 1, 1) := by decide +kernel
theorem dX8_branch_71 : decode cX8_branch 71 = .ok (.invokestatic 145, 3) := by decide +kernel
theorem dX8_branch_74 : decode cX8_branch 74 = .ok (.iadd, 1) := by decide +kernel
theorem dX8_branch_75 : decode cX8_branch 75 = .ok (.putfield 64, 3) := by decide +kernel
theorem dX8_branch_78 : decode cX8_branch 78 = .ok (.getstatic 54, 3) := by decide +kernel
theorem dX8_branch_81 : decode cX8_branch 81 = .ok (.areturn, 1) := by decide +kernel
theorem dX8_isSo_0 : decode cX8_isSo 0 = .ok (.iload_n 0, 1) := by decide +kernel
theorem dX8_isSo_1 : decode cX8_isSo 1 = .ok (.tableswitch 93 0 6 #[43, 54, 93, 93, 65, 76, 87], 43) := by decide +kernel
theorem dX8_isSo_44 : decode cX8_isSo 44 = .ok (.iload_n 1, 1) := by decide +kernel
theorem dX8_isSo_45 : decode cX8_isSo 45 = .ok (.iload_n 2, 1) := by decide +kernel
theorem dX8_isSo_46 : decode cX8_isSo 46 = .ok (.if_icmp .ne 7, 3) := by decide +kernel
theorem dX8_isSo_49 : decode cX8_isSo 49 = .ok (.iconst 1, 1) := by decide +kernel
theorem dX8_isSo_50 : decode cX8_isSo 50 = .ok (.goto 4, 3) := by decide +kernel
theorem dX8_isSo_53 : decode cX8_isSo 53 = .ok (.iconst 0, 1) := by decide +kernel
theorem dX8_isSo_54 : decode cX8_isSo 54 = .ok (.ireturn, 1) := by decide +kernel
theorem dX8_isSo_55 : decode cX8_isSo 55 = .ok (.iload_n 1, 1) := by decide +kernel
theorem dX8_isSo_56 : decode cX8_isSo 56 = .ok (.iload_n 2, 1) := by decide +kernel
theorem dX8_isSo_57 : decode cX8_isSo 57 = .ok (.if_icmp .eq 7, 3) := by decide +kernel
theorem dX8_isSo_60 : decode cX8_isSo 60 = .ok (.iconst 1, 1) := by decide +kernel
theorem dX8_isSo_61 : decode cX8_isSo 61 = .ok (.goto 4, 3) := by decide +kernel
theorem dX8_isSo_64 : decode cX8_isSo 64 = .ok (.iconst 0, 1) := by decide +kernel
theorem dX8_isSo_65 : decode cX8_isSo 65 = .ok (.ireturn, 1) := by decide +kernel
theorem dX8_isSo_66 : decode cX8_isSo 66 = .ok (.iload_n 1, 1) := by decide +kernel
theorem dX8_isSo_67 : decode cX8_isSo 67 = .ok (.iload_n 2, 1) := by decide +kernel
theorem dX8_isSo_68 : decode cX8_isSo 68 = .ok (.if_icmp .ge 7, 3) := by decide +kernel
theorem dX8_isSo_71 : decode cX8_isSo 71 = .ok (.iconst 1, 1) := by decide +kernel
theorem dX8_isSo_72 : decode cX8_isSo 72 = .ok (.goto 4, 3) := by decide +kernel
theorem dX8_isSo_75 : decode cX8_isSo 75 = .ok (.iconst 0, 1) := by decide +kernel
theorem dX8_isSo_76 : decode cX8_isSo 76 = .ok (.ireturn, 1) := by decide +kernel
theorem dX8_isSo_77 : decode cX8_isSo 77 = .ok (.iload_n 1, 1) := by decide +kernel
theorem dX8_isSo_78 : decode cX8_isSo 78 = .ok (.iload_n 2, 1) := by decide +kernel
theorem dX8_isSo_79 : decode cX8_isSo 79 = .ok (.if_icmp .lt 7, 3) := by decide +kernel
theorem dX8_isSo_82 : decode cX8_isSo 82 = .ok (.iconst 1, 1) := by decide +kernel
theorem dX8_isSo_83 : decode cX8_isSo 83 = .ok (.goto 4, 3) := by decide +kernel
theorem dX8_isSo_86 : decode cX8_isSo 86 = .ok (.iconst 0, 1) := by decide +kernel
theorem dX8_isSo_87 : decode cX8_isSo 87 = .ok (.ireturn, 1) := by decide +kernel
theorem dX8_isSo_88 : decode cX8_isSo 88 = .ok (.iload_n 1, 1) := by decide +kernel
theorem dX8_isSo_89 : decode cX8_isSo 89 = .ok (.iload_n 2, 1) := by decide +kernel
theorem dX8_isSo_90 : decode cX8_isSo 90 = .ok (.invokestatic 148, 3) := by decide +kernel
theorem dX8_isSo_93 : decode cX8_isSo 93 = .ok (.ireturn, 1) := by decide +kernel
theorem dX8_isSo_94 : decode cX8_isSo 94 = .ok (.iload_n 1, 1) := by decide +kernel
theorem dX8_isSo_95 : decode cX8_isSo 95 = .ok (.iload_n 2, 1) := by decide +kernel
theorem dX8_isSo_96 : decode cX8_isSo 96 = .ok (.invokestatic 148, 3) := by decide +kernel
theorem dX8_isSo_99 : decode cX8_isSo 99 = .ok (.ifCond .ne 7, 3) := by decide +kernel
theorem dX8_isSo_102 : decode cX8_isSo 102 = .ok (.iconst 1, 1) := by decide +kernel
theorem dX8_isSo_103 : decode cX8_isSo 103 = .ok (.goto 4, 3) := by decide +kernel
theorem dX8_isSo_106 : decode cX8_isSo 106 = .ok (.iconst 0, 1) := by decide +kernel
theorem dX8_isSo_107 : decode cX8_isSo 107 = .ok (.ireturn, 1) := by decide +kernel
theorem dX8_isBelowUnsigned_0 : decode cX8_isBelowUnsigned 0 = .ok (.iload_n 0, 1) := by decide +kernel
theorem dX8_isBelowUnsigned_1 : decode cX8_isBelowUnsigned 1 = .ok (.i2l, 1) := by decide +kernel
theorem dX8_isBelowUnsigned_2 : decode cX8_isBelowUnsigned 2 = .ok (.ldc2_w 152, 3) := by decide +kernel
theorem dX8_isBelowUnsigned_5 : decode cX8_isBelowUnsigned 5 = .ok (.land, 1) := by decide +kernel
theorem dX8_isBelowUnsigned_6 : decode cX8_isBelowUnsigned 6 = .ok (.iload_n 1, 1) := by decide +kernel
theorem dX8_isBelowUnsigned_7 : decode cX8_isBelowUnsigned 7 = .ok (.i2l, 1) := by decide +kernel
theorem dX8_isBelowUnsigned_8 : decode cX8_isBelowUnsigned 8 = .ok (.ldc2_w 152, 3) := by decide +kernel
theorem dX8_isBelowUnsigned_11 : decode cX8_isBelowUnsigned 11 = .ok (.land, 1) := by decide +kernel
theorem dX8_isBelowUnsigned_12 : decode cX8_isBelowUnsigned 12 = .ok (.lcmp, 1) := by decide +kernel
theorem dX8_isBelowUnsigned_13 : decode cX8_isBelowUnsigned 13 = .ok (.ifCond .ge 7, 3) := by decide +kernel
theorem dX8_isBelowUnsigned_16 : decode cX8_isBelowUnsigned 16 = .ok (.iconst 1, 1) := by decide +kernel
theorem dX8_isBelowUnsigned_17 : decode cX8_isBelowUnsigned 17 = .ok (.goto 4, 3) := by decide +kernel
theorem dX8_isBelowUnsigned_20 : decode cX8_isBelowUnsigned 20 = .ok (.iconst 0, 1) := by decide +kernel
theorem dX8_isBelowUnsigned_21 : decode cX8_isBelowUnsigned 21 = .ok (.ireturn, 1) := by decide +kernel
theorem dX8_load_0 : decode cX8_load 0 = .ok (.iload_n 1, 1) := by decide +kernel
theorem dX8_load_1 : decode cX8_load 1 = .ok (.invokestatic 132, 3) := by decide +kernel
theorem dX8_load_4 : decode cX8_load 4 = .ok (.istore 4, 2) := by decide +kernel
theorem dX8_load_6 : decode cX8_load 6 = .ok (.iload_n 1, 1) := by decide +kernel
theorem dX8_load_7 : decode cX8_load 7 = .ok (.invokestatic 113, 3) := by decide +kernel
theorem dX8_load_10 : decode cX8_load 10 = .ok (.istore 5, 2) := by decide +kernel
theorem dX8_load_12 : decode cX8_load 12 = .ok (.iload_n 1, 1) := by decide +kernel
theorem dX8_load_13 : decode cX8_load 13 = .ok (.invokestatic 129, 3) := by decide +kernel
theorem dX8_load_16 : decode cX8_load 16 = .ok (.istore 6, 2) := by decide +kernel
theorem dX8_load_18 : decode cX8_load 18 = .ok (.iload 4, 2) := by decide +kernel
theorem dX8_load_20 : decode cX8_load 20 = .ok (.iconst 2, 1) := by decide +kernel
theorem dX8_load_21 : decode cX8_load 21 = .ok (.if_icmp .eq 14, 3) := by decide +kernel
theorem dX8_load_24 : decode cX8_load 24 = .ok (.iload 4, 2) := by decide +kernel
theorem dX8_load_26 : decode cX8_load 26 = .ok (.ifCond .eq 9, 3) := by decide +kernel
theorem dX8_load_29 : decode cX8_load 29 = .ok (.iload 4, 2) := by decide +kernel
theorem dX8_load_31 : decode cX8_load 31 = .ok (.iconst 4, 1) := by decide +kernel
theorem dX8_load_32 : decode cX8_load 32 = .ok (.if_icmp .ne 7, 3) := by decide +kernel
theorem dX8_load_35 : decode cX8_load 35 = .ok (.iconst 1, 1) := by decide +kernel
theorem dX8_load_36 : decode cX8_load 36 = .ok (.goto 4, 3) := by decide +kernel
theorem dX8_load_39 : decode cX8_load 39 = .ok (.iconst 0, 1) := by decide +kernel
theorem dX8_load_40 : decode cX8_load 40 = .ok (.istore 7, 2) := by decide +kernel
theorem dX8_load_42 : decode cX8_load 42 = .ok (.iload 7, 2) := by decide +kernel
theorem dX8_load_44 : decode cX8_load 44 = .ok (.ifCond .eq 19, 3) := by decide +kernel
theorem dX8_load_47 : decode cX8_load 47 = .ok (.iload 5, 2) := by decide +kernel
theorem dX8_load_49 : decode cX8_load 49 = .ok (.invokestatic 116, 3) := by decide +kernel
theorem dX8_load_52 : decode cX8_load 52 = .ok (.ifCond .eq 11, 3) := by decide +kernel
theorem dX8_load_55 : decode cX8_load 55 = .ok (.iload 6, 2) := by decide +kernel
theorem dX8_load_57 : decode cX8_load 57 = .ok (.invokestatic 116, 3) := by decide +kernel
theorem dX8_load_60 : decode cX8_load 60 = .ok (.ifCond .ne 7, 3) := by decide +kernel
theorem dX8_load_63 : decode cX8_load 63 = .ok (.getstatic 48, 3) := by decide +kernel
theorem dX8_load_66 : decode cX8_load 66 = .ok (.areturn, 1) := by decide +kernel
theorem dX8_load_67 : decode cX8_load 67 = .ok (.aload_n 0, 1) := by decide +kernel
theorem dX8_load_68 : decode cX8_load 68 = .ok (.getfield 9, 3) := by decide +kernel
theorem dX8_load_71 : decode cX8_load 71 = .ok (.iload 6, 2) := by decide +kernel
theorem dX8_load_73 : decode cX8_load 73 = .ok (.iaload, 1) := by decide +kernel
theorem dX8_load_74 : decode cX8_load 74 = .ok (.iload_n 1, 1) := by decide +kernel
theorem dX8_load_75 : decode cX8_load 75 = .ok (.invokestatic 135, 3) := by decide +kernel
theorem dX8_load_78 : decode cX8_load 78 = .ok (.iadd, 1) := by decide +kernel
theorem dX8_load_79 : decode cX8_load 79 = .ok (.istore 8, 2) := by decide +kernel
theorem dX8_load_81 : decode cX8_load 81 = .ok (.aload_n 0, 1) := by decide +kernel
theorem dX8_load_82 : decode cX8_load 82 = .ok (.iload 8, 2) := by decide +kernel
theorem dX8_load_84 : decode cX8_load 84 = .ok (.iload 4, 2) := by decide +kernel
theorem dX8_load_86 : decode cX8_load 86 = .ok (.invokevirtual 154, 3) := by decide +kernel
theorem dX8_load_89 : decode cX8_load 89 = .ok (.ifCond .ne 7, 3) := by decide +kernel
theorem dX8_load_92 : decode cX8_load 92 = .ok (.getstatic 48, 3) := by decide +kernel
theorem dX8_load_95 : decode cX8_load 95 = .ok (.areturn, 1) := by decide +kernel
theorem dX8_load_96 : decode cX8_load 96 = .ok (.aload_n 0, 1) := by decide +kernel
theorem dX8_load_97 : decode cX8_load 97 = .ok (.iload 8, 2) := by decide +kernel
theorem dX8_load_99 : decode cX8_load 99 = .ok (.aload_n 3, 1) := by decide +kernel
theorem dX8_load_100 : decode cX8_load 100 = .ok (.invokevirtual 157, 3) := by decide +kernel
theorem dX8_load_103 : decode cX8_load 103 = .ok (.iload 8, 2) := by decide +kernel
theorem dX8_load_105 : decode cX8_load 105 = .ok (.invokestatic 161, 3) := by decide +kernel
theorem dX8_load_108 : decode cX8_load 108 = .ok (.iaload, 1) := by decide +kernel
theorem dX8_load_109 : decode cX8_load 109 = .ok (.istore 9, 2) := by decide +kernel
theorem dX8_load_111 : decode cX8_load 111 = .ok (.iload 9, 2) := by decide +kernel
theorem dX8_load_113 : decode cX8_load 113 = .ok (.iload 8, 2) := by decide +kernel
theorem dX8_load_115 : decode cX8_load 115 = .ok (.invokestatic 164, 3) := by decide +kernel
theorem dX8_load_118 : decode cX8_load 118 = .ok (.iushr, 1) := by decide +kernel
theorem dX8_load_119 : decode cX8_load 119 = .ok (.sipush 255, 3) := by decide +kernel
theorem dX8_load_122 : decode cX8_load 122 = .ok (.iand, 1) := by decide +kernel
theorem dX8_load_123 : decode cX8_load 123 = .ok (.istore 10, 2) := by decide +kernel
theorem dX8_load_125 : decode cX8_load 125 = .ok (.iload 4, 2) := by decide +kernel
theorem dX8_load_127 : decode cX8_load 127 = .ok (.ifCond .ne 11, 3) := by decide +kernel
theorem dX8_load_130 : decode cX8_load 130 = .ok (.iload 10, 2) := by decide +kernel
theorem dX8_load_132 : decode cX8_load 132 = .ok (.i2b, 1) := by decide +kernel
theorem dX8_load_133 : decode cX8_load 133 = .ok (.istore 9, 2) := by decide +kernel
theorem dX8_load_135 : decode cX8_load 135 = .ok (.goto 13, 3) := by decide +kernel
theorem dX8_load_138 : decode cX8_load 138 = .ok (.iload 4, 2) := by decide +kernel
theorem dX8_load_140 : decode cX8_load 140 = .ok (.iconst 4, 1) := by decide +kernel
theorem dX8_load_141 : decode cX8_load 141 = .ok (.if_icmp .ne 7, 3) := by decide +kernel
theorem dX8_load_144 : decode cX8_load 144 = .ok (.iload 10, 2) := by decide +kernel
theorem dX8_load_146 : decode cX8_load 146 = .ok (.istore 9, 2) := by decide +kernel
theorem dX8_load_148 : decode cX8_load 148 = .ok (.aload_n 0, 1) := by decide +kernel
theorem dX8_load_149 : decode cX8_load 149 = .ok (.iload 5, 2) := by decide +kernel
theorem dX8_load_151 : decode cX8_load 151 = .ok (.iload 9, 2) := by decide +kernel
theorem dX8_load_153 : decode cX8_load 153 = .ok (.invokevirtual 122, 3) := by decide +kernel
theorem dX8_load_156 : decode cX8_load 156 = .ok (.aload_n 0, 1) := by decide +kernel
theorem dX8_load_157 : decode cX8_load 157 = .ok (.iload 8, 2) := by decide +kernel
theorem dX8_load_159 : decode cX8_load 159 = .ok (.iload_n 2, 1) := by decide +kernel
theorem dX8_load_160 : decode cX8_load 160 = .ok (.aload_n 3, 1) := by decide +kernel
theorem dX8_load_161 : decode cX8_load 161 = .ok (.invokevirtual 167, 3) := by decide +kernel
theorem dX8_load_164 : decode cX8_load 164 = .ok (.getstatic 54, 3) := by decide +kernel
theorem dX8_load_167 : decode cX8_load 167 = .ok (.areturn, 1) := by decide +kernel
theorem dX8_save_0 : decode cX8_save 0 = .ok (.iload_n 1, 1) := by decide +kernel
theorem dX8_save_1 : decode cX8_save 1 = .ok (.invokestatic 132, 3) := by decide +kernel
theorem dX8_save_4 : decode cX8_save 4 = .ok (.istore 4, 2) := by decide +kernel
theorem dX8_save_6 : decode cX8_save 6 = .ok (.iload_n 1, 1) := by decide +kernel
theorem dX8_save_7 : decode cX8_save 7 = .ok (.invokestatic 129, 3) := by decide +kernel
theorem dX8_save_10 : decode cX8_save 10 = .ok (.istore 5, 2) := by decide +kernel
theorem dX8_save_12 : decode cX8_save 12 = .ok (.iload_n 1, 1) := by decide +kernel
theorem dX8_save_13 : decode cX8_save 13 = .ok (.invokestatic 138, 3) := by decide +kernel
theorem dX8_save_16 : decode cX8_save 16 = .ok (.istore 6, 2) := by decide +kernel
theorem dX8_save_18 : decode cX8_save 18 = .ok (.iload 4, 2) := by decide +kernel
theorem dX8_save_20 : decode cX8_save 20 = .ok (.iconst 2, 1) := by decide +kernel
theorem dX8_save_21 : decode cX8_save 21 = .ok (.if_icmp .eq 8, 3) := by decide +kernel
theorem dX8_save_24 : decode cX8_save 24 = .ok (.iload 4, 2) := by decide +kernel
theorem dX8_save_26 : decode cX8_save 26 = .ok (.ifCond .ne 7, 3) := by decide +kernel
theorem dX8_save_29 : decode cX8_save 29 = .ok (.iconst 1, 1) := by decide +kernel
theorem dX8_save_30 : decode cX8_save 30 = .ok (.goto 4, 3) := by decide +kernel
theorem dX8_save_33 : decode cX8_save 33 = .ok (.iconst 0, 1) := by decide +kernel
theorem dX8_save_34 : decode cX8_save 34 = .ok (.istore 7, 2) := by decide +kernel
theorem dX8_save_36 : decode cX8_save 36 = .ok (.iload 7, 2) := by decide +kernel
theorem dX8_save_38 : decode cX8_save 38 = .ok (.ifCond .eq 19, 3) := by decide +kernel
theorem dX8_save_41 : decode cX8_save 41 = .ok (.iload 5, 2) := by decide +kernel
theorem dX8_save_43 : decode cX8_save 43 = .ok (.invokestatic 116, 3) := by decide +kernel
theorem dX8_save_46 : decode cX8_save 46 = .ok (.ifCond .eq 11, 3) := by decide +kernel
theorem dX8_save_49 : decode cX8_save 49 = .ok (.iload 6, 2) := by decide +kernel
theorem dX8_save_51 : decode cX8_save 51 = .ok (.invokestatic 116, 3) := by decide +kernel
theorem dX8_save_54 : decode cX8_save 54 = .ok (.ifCond .ne 7, 3) := by decide +kernel
theorem dX8_save_57 : decode cX8_save 57 = .ok (.getstatic 48, 3) := by decide +kernel
theorem dX8_save_60 : decode cX8_save 60 = .ok (.areturn, 1) := by decide +kernel
theorem dX8_save_61 : decode cX8_save 61 = .ok (.aload_n 0, 1) := by decide +kernel
theorem dX8_save_62 : decode cX8_save 62 = .ok (.getfield 9, 3) := by decide +kernel
theorem dX8_save_65 : decode cX8_save 65 = .ok (.iload 5, 2) := by decide +kernel
theorem dX8_save_67 : decode cX8_save 67 = .ok (.iaload, 1) := by decide +kernel
theorem dX8_save_68 : decode cX8_save 68 = .ok (.iload_n 1, 1) := by decide +kernel
theorem dX8_save_69 : decode cX8_save 69 = .ok (.invokestatic 171, 3) := by decide +kernel
theorem dX8_save_72 : decode cX8_save 72 = .ok (.iadd, 1) := by decide +kernel
theorem dX8_save_73 : decode cX8_save 73 = .ok (.istore 8, 2) := by decide +kernel
theorem dX8_save_75 : decode cX8_save 75 = .ok (.aload_n 0, 1) := by decide +kernel
theorem dX8_save_76 : decode cX8_save 76 = .ok (.iload 8, 2) := by decide +kernel
theorem dX8_save_78 : decode cX8_save 78 = .ok (.iload 4, 2) := by decide +kernel
theorem dX8_save_80 : decode cX8_save 80 = .ok (.invokevirtual 154, 3) := by decide +kernel
theorem dX8_save_83 : decode cX8_save 83 = .ok (.ifCond .ne 7, 3) := by decide +kernel
theorem dX8_save_86 : decode cX8_save 86 = .ok (.getstatic 48, 3) := by decide +kernel
theorem dX8_save_89 : decode cX8_save 89 = .ok (.areturn, 1) := by decide +kernel
theorem dX8_save_90 : decode cX8_save 90 = .ok (.iload 4, 2) := by decide +kernel
theorem dX8_save_92 : decode cX8_save 92 = .ok (.iconst 2, 1) := by decide +kernel
theorem dX8_save_93 : decode cX8_save 93 = .ok (.if_icmp .ne 7, 3) := by decide +kernel
theorem dX8_save_96 : decode cX8_save 96 = .ok (.iconst (-1), 1) := by decide +kernel
theorem dX8_save_97 : decode cX8_save 97 = .ok (.goto 12, 3) := by decide +kernel
theorem dX8_save_100 : decode cX8_save 100 = .ok (.sipush 255, 3) := by decide +kernel
theorem dX8_save_103 : decode cX8_save 103 = .ok (.iload 8, 2) := by decide +kernel
theorem dX8_save_105 : decode cX8_save 105 = .ok (.invokestatic 164, 3) := by decide +kernel
theorem dX8_save_108 : decode cX8_save 108 = .ok (.ishl, 1) := by decide +kernel
theorem dX8_save_109 : decode cX8_save 109 = .ok (.istore 9, 2) := by decide +kernel
theorem dX8_save_111 : decode cX8_save 111 = .ok (.iload 4, 2) := by decide +kernel
theorem dX8_save_113 : decode cX8_save 113 = .ok (.iconst 2, 1) := by decide +kernel
theorem dX8_save_114 : decode cX8_save 114 = .ok (.if_icmp .ne 13, 3) := by decide +kernel
theorem dX8_save_117 : decode cX8_save 117 = .ok (.aload_n 0, 1) := by decide +kernel
theorem dX8_save_118 : decode cX8_save 118 = .ok (.getfield 9, 3) := by decide +kernel
theorem dX8_save_121 : decode cX8_save 121 = .ok (.iload 6, 2) := by decide +kernel
theorem dX8_save_123 : decode cX8_save 123 = .ok (.iaload, 1) := by decide +kernel
theorem dX8_save_124 : decode cX8_save 124 = .ok (.goto 16, 3) := by decide +kernel
theorem dX8_save_127 : decode cX8_save 127 = .ok (.aload_n 0, 1) := by decide +kernel
theorem dX8_save_128 : decode cX8_save 128 = .ok (.getfield 9, 3) := by decide +kernel
theorem dX8_save_131 : decode cX8_save 131 = .ok (.iload 6, 2) := by decide +kernel
theorem dX8_save_133 : decode cX8_save 133 = .ok (.iaload, 1) := by decide +kernel
theorem dX8_save_134 : decode cX8_save 134 = .ok (.iload 8, 2) := by decide +kernel
theorem dX8_save_136 : decode cX8_save 136 = .ok (.invokestatic 164, 3) := by decide +kernel
theorem dX8_save_139 : decode cX8_save 139 = .ok (.ishl, 1) := by decide +kernel
theorem dX8_save_140 : decode cX8_save 140 = .ok (.istore 10, 2) := by decide +kernel
theorem dX8_save_142 : decode cX8_save 142 = .ok (.aload_n 0, 1) := by decide +kernel
theorem dX8_save_143 : decode cX8_save 143 = .ok (.iload 8, 2) := by decide +kernel
theorem dX8_save_145 : decode cX8_save 145 = .ok (.aload_n 3, 1) := by decide +kernel
theorem dX8_save_146 : decode cX8_save 146 = .ok (.invokevirtual 157, 3) := by decide +kernel
theorem dX8_save_149 : decode cX8_save 149 = .ok (.astore 11, 2) := by decide +kernel
theorem dX8_save_151 : decode cX8_save 151 = .ok (.iload 8, 2) := by decide +kernel
theorem dX8_save_153 : decode cX8_save 153 = .ok (.invokestatic 161, 3) := by decide +kernel
theorem dX8_save_156 : decode cX8_save 156 = .ok (.istore 12, 2) := by decide +kernel
theorem dX8_save_158 : decode cX8_save 158 = .ok (.aload 11, 2) := by decide +kernel
theorem dX8_save_160 : decode cX8_save 160 = .ok (.iload 12, 2) := by decide +kernel
theorem dX8_save_162 : decode cX8_save 162 = .ok (.aload 11, 2) := by decide +kernel
theorem dX8_save_164 : decode cX8_save 164 = .ok (.iload 12, 2) := by decide +kernel
theorem dX8_save_166 : decode cX8_save 166 = .ok (.iaload, 1) := by decide +kernel
theorem dX8_save_167 : decode cX8_save 167 = .ok (.iload 9, 2) := by decide +kernel
theorem dX8_save_169 : decode cX8_save 169 = .ok (.iconst (-1), 1) := by decide +kernel
theorem dX8_save_170 : decode cX8_save 170 = .ok (.ixor, 1) := by decide +kernel
theorem dX8_save_171 : decode cX8_save 171 = .ok (.iand, 1) := by decide +kernel
theorem dX8_save_172 : decode cX8_save 172 = .ok (.iload 10, 2) := by decide +kernel
theorem dX8_save_174 : decode cX8_save 174 = .ok (.iload 9, 2) := by decide +kernel
theorem dX8_save_176 : decode cX8_save 176 = .ok (.iand, 1) := by decide +kernel
theorem dX8_save_177 : decode cX8_save 177 = .ok (.ior, 1) := by decide +kernel
theorem dX8_save_178 : decode cX8_save 178 = .ok (.iastore, 1) := by decide +kernel
theorem dX8_save_179 : decode cX8_save 179 = .ok (.aload_n 0, 1) := by decide +kernel
theorem dX8_save_180 : decode cX8_save 180 = .ok (.iload 8, 2) := by decide +kernel
theorem dX8_save_182 : decode cX8_save 182 = .ok (.iload_n 2, 1) := by decide +kernel
theorem dX8_save_183 : decode cX8_save 183 = .ok (.aload_n 3, 1) := by decide +kernel
theorem dX8_save_184 : decode cX8_save 184 = .ok (.invokevirtual 167, 3) := by decide +kernel
theorem dX8_save_187 : decode cX8_save 187 = .ok (.getstatic 54, 3) := by decide +kernel
theorem dX8_save_190 : decode cX8_save 190 = .ok (.areturn, 1) := by decide +kernel
theorem dX8_canReach_0 : decode cX8_canReach 0 = .ok (.iload_n 1, 1) := by decide +kernel
theorem dX8_canReach_1 : decode cX8_canReach 1 = .ok (.sipush 4096, 3) := by decide +kernel
theorem dX8_canReach_4 : decode cX8_canReach 4 = .ok (.iconst 4, 1) := by decide +kernel
theorem dX8_canReach_5 : decode cX8_canReach 5 = .ok (.aload_n 0, 1) := by decide +kernel
theorem dX8_canReach_6 : decode cX8_canReach 6 = .ok (.getfield 174, 3) := by decide +kernel
theorem dX8_canReach_9 : decode cX8_canReach 9 = .ok (.imul, 1) := by decide +kernel
theorem dX8_canReach_10 : decode cX8_canReach 10 = .ok (.iadd, 1) := by decide +kernel
theorem dX8_canReach_11 : decode cX8_canReach 11 = .ok (.if_icmp .lt 21, 3) := by decide +kernel
theorem dX8_canReach_14 : decode cX8_canReach 14 = .ok (.iload_n 1, 1) := by decide +kernel
theorem dX8_canReach_15 : decode cX8_canReach 15 = .ok (.sipush 4096, 3) := by decide +kernel
theorem dX8_canReach_18 : decode cX8_canReach 18 = .ok (.iconst 4, 1) := by decide +kernel
theorem dX8_canReach_19 : decode cX8_canReach 19 = .ok (.aload_n 0, 1) := by decide +kernel
theorem dX8_canReach_20 : decode cX8_canReach 20 = .ok (.getfield 177, 3) := by decide +kernel
theorem dX8_canReach_23 : decode cX8_canReach 23 = .ok (.imul, 1) := by decide +kernel
theorem dX8_canReach_24 : decode cX8_canReach 24 = .ok (.iadd, 1) := by decide +kernel
theorem dX8_canReach_25 : decode cX8_canReach 25 = .ok (.if_icmp .ge 7, 3) := by decide +kernel
theorem dX8_canReach_28 : decode cX8_canReach 28 = .ok (.iconst 1, 1) := by decide +kernel
theorem dX8_canReach_29 : decode cX8_canReach 29 = .ok (.goto 4, 3) := by decide +kernel
theorem dX8_canReach_32 : decode cX8_canReach 32 = .ok (.iconst 0, 1) := by decide +kernel
theorem dX8_canReach_33 : decode cX8_canReach 33 = .ok (.istore_n 3, 1) := by decide +kernel
theorem dX8_canReach_34 : decode cX8_canReach 34 = .ok (.iload_n 1, 1) := by decide +kernel
theorem dX8_canReach_35 : decode cX8_canReach 35 = .ok (.invokestatic 67, 3) := by decide +kernel
theorem dX8_canReach_38 : decode cX8_canReach 38 = .ok (.ifCond .ne 7, 3) := by decide +kernel
theorem dX8_canReach_41 : decode cX8_canReach 41 = .ok (.iload_n 3, 1) := by decide +kernel
theorem dX8_canReach_42 : decode cX8_canReach 42 = .ok (.ifCond .eq 19, 3) := by decide +kernel
theorem dX8_canReach_45 : decode cX8_canReach 45 = .ok (.iload_n 2, 1) := by decide +kernel
theorem dX8_canReach_46 : decode cX8_canReach 46 = .ok (.iconst 2, 1) := by decide +kernel
theorem dX8_canReach_47 : decode cX8_canReach 47 = .ok (.if_icmp .ne 10, 3) := by decide +kernel
theorem dX8_canReach_50 : decode cX8_canReach 50 = .ok (.iload_n 1, 1) := by decide +kernel
theorem dX8_canReach_51 : decode cX8_canReach 51 = .ok (.invokestatic 71, 3) := by decide +kernel
theorem dX8_canReach_54 : decode cX8_canReach 54 = .ok (.ifCond .eq 7, 3) := by decide +kernel
theorem dX8_canReach_57 : decode cX8_canReach 57 = .ok (.iconst 1, 1) := by decide +kernel
theorem dX8_canReach_58 : decode cX8_canReach 58 = .ok (.goto 4, 3) := by decide +kernel
theorem dX8_canReach_61 : decode cX8_canReach 61 = .ok (.iconst 0, 1) := by decide +kernel
theorem dX8_canReach_62 : decode cX8_canReach 62 = .ok (.ireturn, 1) := by decide +kernel
theorem dX8_rowOf_0 : decode cX8_rowOf 0 = .ok (.iload_n 1, 1) := by decide +kernel
theorem dX8_rowOf_1 : decode cX8_rowOf 1 = .ok (.invokestatic 67, 3) := by decide +kernel
theorem dX8_rowOf_4 : decode cX8_rowOf 4 = .ok (.ifCond .eq 10, 3) := by decide +kernel
theorem dX8_rowOf_7 : decode cX8_rowOf 7 = .ok (.aload_n 0, 1) := by decide +kernel
theorem dX8_rowOf_8 : decode cX8_rowOf 8 = .ok (.getfield 15, 3) := by decide +kernel
theorem dX8_rowOf_11 : decode cX8_rowOf 11 = .ok (.goto 7, 3) := by decide +kernel
theorem dX8_rowOf_14 : decode cX8_rowOf 14 = .ok (.aload_n 2, 1) := by decide +kernel
theorem dX8_rowOf_15 : decode cX8_rowOf 15 = .ok (.getfield 180, 3) := by decide +kernel
theorem dX8_rowOf_18 : decode cX8_rowOf 18 = .ok (.areturn, 1) := by decide +kernel
theorem dX8_placeOf_0 : decode cX8_placeOf 0 = .ok (.iload_n 0, 1) := by decide +kernel
theorem dX8_placeOf_1 : decode cX8_placeOf 1 = .ok (.invokestatic 67, 3) := by decide +kernel
theorem dX8_placeOf_4 : decode cX8_placeOf 4 = .ok (.ifCond .eq 7, 3) := by decide +kernel
theorem dX8_placeOf_7 : decode cX8_placeOf 7 = .ok (.iload_n 0, 1) := by decide +kernel
theorem dX8_placeOf_8 : decode cX8_placeOf 8 = .ok (.goto 8, 3) := by decide +kernel
theorem dX8_placeOf_11 : decode cX8_placeOf 11 = .ok (.iload_n 0, 1) := by decide +kernel
theorem dX8_placeOf_12 : decode cX8_placeOf 12 = .ok (.sipush 4096, 3) := by decide +kernel
theorem dX8_placeOf_15 : decode cX8_placeOf 15 = .ok (.isub, 1) := by decide +kernel
theorem dX8_placeOf_16 : decode cX8_placeOf 16 = .ok (.iconst 2, 1) := by decide +kernel
theorem dX8_placeOf_17 : decode cX8_placeOf 17 = .ok (.ishr, 1) := by decide +kernel
theorem dX8_placeOf_18 : decode cX8_placeOf 18 = .ok (.ireturn, 1) := by decide +kernel
theorem dX8_bitOf_0 : decode cX8_bitOf 0 = .ok (.iload_n 0, 1) := by decide +kernel
theorem dX8_bitOf_1 : decode cX8_bitOf 1 = .ok (.iconst 3, 1) := by decide +kernel
theorem dX8_bitOf_2 : decode cX8_bitOf 2 = .ok (.iand, 1) := by decide +kernel
theorem dX8_bitOf_3 : decode cX8_bitOf 3 = .ok (.iconst 3, 1) := by decide +kernel
theorem dX8_bitOf_4 : decode cX8_bitOf 4 = .ok (.ishl, 1) := by decide +kernel
theorem dX8_bitOf_5 : decode cX8_bitOf 5 = .ok (.ireturn, 1) := by decide +kernel
theorem dX8_setRetirement_0 : decode cX8_setRetirement 0 = .ok (.iload_n 1, 1) := by decide +kernel
theorem dX8_setRetirement_1 : decode cX8_setRetirement 1 = .ok (.invokestatic 67, 3) := by decide +kernel
theorem dX8_setRetirement_4 : decode cX8_setRetirement 4 = .ok (.ifCond .ne 16, 3) := by decide +kernel
theorem dX8_setRetirement_7 : decode cX8_setRetirement 7 = .ok (.aload_n 0, 1) := by decide +kernel
theorem dX8_setRetirement_8 : decode cX8_setRetirement 8 = .ok (.aload_n 3, 1) := by decide +kernel
theorem dX8_setRetirement_9 : decode cX8_setRetirement 9 = .ok (.aload_n 0, 1) := by decide +kernel
theorem dX8_setRetirement_10 : decode cX8_setRetirement 10 = .ok (.getfield 32, 3) := by decide +kernel
theorem dX8_setRetirement_13 : decode cX8_setRetirement 13 = .ok (.iload_n 2, 1) := by decide +kernel
theorem dX8_setRetirement_14 : decode cX8_setRetirement 14 = .ok (.invokevirtual 185, 3) := by decide +kernel
theorem dX8_setRetirement_17 : decode cX8_setRetirement 17 = .ok (.putfield 57, 3) := by decide +kernel
theorem dX8_setRetirement_20 : decode cX8_setRetirement 20 = .ok (.return_, 1) := by decide +kernel
theorem dX8_computeWithNumber_0 : decode cX8_computeWithNumber 0 = .ok (.iload_n 1, 1) := by decide +kernel
theorem dX8_computeWithNumber_1 : decode cX8_computeWithNumber 1 = .ok (.invokestatic 132, 3) := by decide +kernel
theorem dX8_computeWithNumber_4 : decode cX8_computeWithNumber 4 = .ok (.istore_n 2, 1) := by decide +kernel
theorem dX8_computeWithNumber_5 : decode cX8_computeWithNumber 5 = .ok (.iload_n 1, 1) := by decide +kernel
theorem dX8_computeWithNumber_6 : decode cX8_computeWithNumber 6 = .ok (.invokestatic 188, 3) := by decide +kernel
theorem dX8_computeWithNumber_9 : decode cX8_computeWithNumber 9 = .ok (.istore_n 3, 1) := by decide +kernel
theorem dX8_computeWithNumber_10 : decode cX8_computeWithNumber 10 = .ok (.iload_n 1, 1) := by decide +kernel
theorem dX8_computeWithNumber_11 : decode cX8_computeWithNumber 11 = .ok (.invokestatic 113, 3) := by decide +kernel
theorem dX8_computeWithNumber_14 : decode cX8_computeWithNumber 14 = .ok (.istore 4, 2) := by decide +kernel
theorem dX8_computeWithNumber_16 : decode cX8_computeWithNumber 16 = .ok (.iload_n 1, 1) := by decide +kernel
theorem dX8_computeWithNumber_17 : decode cX8_computeWithNumber 17 = .ok (.invokestatic 129, 3) := by decide +kernel
theorem dX8_computeWithNumber_20 : decode cX8_computeWithNumber 20 = .ok (.istore 5, 2) := by decide +kernel
theorem dX8_computeWithNumber_22 : decode cX8_computeWithNumber 22 = .ok (.iload_n 2, 1) := by decide +kernel
theorem dX8_computeWithNumber_23 : decode cX8_computeWithNumber 23 = .ok (.iconst 1, 1) := by decide +kernel
theorem dX8_computeWithNumber_24 : decode cX8_computeWithNumber 24 = .ok (.if_icmp .ne 7, 3) := by decide +kernel
theorem dX8_computeWithNumber_27 : decode cX8_computeWithNumber 27 = .ok (.iload_n 3, 1) := by decide +kernel
theorem dX8_computeWithNumber_28 : decode cX8_computeWithNumber 28 = .ok (.ifCond .ne 18, 3) := by decide +kernel
theorem dX8_computeWithNumber_31 : decode cX8_computeWithNumber 31 = .ok (.iload_n 2, 1) := by decide +kernel
theorem dX8_computeWithNumber_32 : decode cX8_computeWithNumber 32 = .ok (.iconst 5, 1) := by decide +kernel
theorem dX8_computeWithNumber_33 : decode cX8_computeWithNumber 33 = .ok (.if_icmp .ne 17, 3) := by decide +kernel
theorem dX8_computeWithNumber_36 : decode cX8_computeWithNumber 36 = .ok (.iload_n 3, 1) := by decide +kernel
theorem dX8_computeWithNumber_37 : decode cX8_computeWithNumber 37 = .ok (.ifCond .eq 13, 3) := by decide +kernel
theorem dX8_computeWithNumber_40 : decode cX8_computeWithNumber 40 = .ok (.iload_n 3, 1) := by decide +kernel
theorem dX8_computeWithNumber_41 : decode cX8_computeWithNumber 41 = .ok (.bipush 32, 2) := by decide +kernel
theorem dX8_computeWithNumber_43 : decode cX8_computeWithNumber 43 = .ok (.if_icmp .eq 7, 3) := by decide +kernel
theorem dX8_computeWithNumber_46 : decode cX8_computeWithNumber 46 = .ok (.iconst 1, 1) := by decide +kernel
theorem dX8_computeWithNumber_47 : decode cX8_computeWithNumber 47 = .ok (.goto 4, 3) := by decide +kernel
theorem dX8_computeWithNumber_50 : decode cX8_computeWithNumber 50 = .ok (.iconst 0, 1) := by decide +kernel
theorem dX8_computeWithNumber_51 : decode cX8_computeWithNumber 51 = .ok (.istore 6, 2) := by decide +kernel
theorem dX8_computeWithNumber_53 : decode cX8_computeWithNumber 53 = .ok (.iload 6, 2) := by decide +kernel
theorem dX8_computeWithNumber_55 : decode cX8_computeWithNumber 55 = .ok (.ifCond .ne 19, 3) := by decide +kernel
theorem dX8_computeWithNumber_58 : decode cX8_computeWithNumber 58 = .ok (.iload 4, 2) := by decide +kernel
theorem dX8_computeWithNumber_60 : decode cX8_computeWithNumber 60 = .ok (.invokestatic 116, 3) := by decide +kernel
theorem dX8_computeWithNumber_63 : decode cX8_computeWithNumber 63 = .ok (.ifCond .eq 11, 3) := by decide +kernel
theorem dX8_computeWithNumber_66 : decode cX8_computeWithNumber 66 = .ok (.iload 5, 2) := by decide +kernel
theorem dX8_computeWithNumber_68 : decode cX8_computeWithNumber 68 = .ok (.invokestatic 116, 3) := by decide +kernel
theorem dX8_computeWithNumber_71 : decode cX8_computeWithNumber 71 = .ok (.ifCond .ne 7, 3) := by decide +kernel
theorem dX8_computeWithNumber_74 : decode cX8_computeWithNumber 74 = .ok (.getstatic 48, 3) := by decide +kernel
theorem dX8_computeWithNumber_77 : decode cX8_computeWithNumber 77 = .ok (.areturn, 1) := by decide +kernel
theorem dX8_computeWithNumber_78 : decode cX8_computeWithNumber 78 = .ok (.iload_n 2, 1) := by decide +kernel
theorem dX8_computeWithNumber_79 : decode cX8_computeWithNumber 79 = .ok (.iconst 5, 1) := by decide +kernel
theorem dX8_computeWithNumber_80 : decode cX8_computeWithNumber 80 = .ok (.if_icmp .ne 13, 3) := by decide +kernel
theorem dX8_computeWithNumber_83 : decode cX8_computeWithNumber 83 = .ok (.iload_n 3, 1) := by decide +kernel
theorem dX8_computeWithNumber_84 : decode cX8_computeWithNumber 84 = .ok (.bipush 32, 2) := by decide +kernel
theorem dX8_computeWithNumber_86 : decode cX8_computeWithNumber 86 = .ok (.if_icmp .ne 7, 3) := by decide +kernel
theorem dX8_computeWithNumber_89 : decode cX8_computeWithNumber 89 = .ok (.iconst 1, 1) := by decide +kernel
theorem dX8_computeWithNumber_90 : decode cX8_computeWithNumber 90 = .ok (.goto 4, 3) := by decide +kernel
theorem dX8_computeWithNumber_93 : decode cX8_computeWithNumber 93 = .ok (.iconst 0, 1) := by decide +kernel
theorem dX8_computeWithNumber_94 : decode cX8_computeWithNumber 94 = .ok (.istore 7, 2) := by decide +kernel
theorem dX8_computeWithNumber_96 : decode cX8_computeWithNumber 96 = .ok (.aload_n 0, 1) := by decide +kernel
theorem dX8_computeWithNumber_97 : decode cX8_computeWithNumber 97 = .ok (.iload 4, 2) := by decide +kernel
theorem dX8_computeWithNumber_99 : decode cX8_computeWithNumber 99 = .ok (.iload_n 2, 1) := by decide +kernel
theorem dX8_computeWithNumber_100 : decode cX8_computeWithNumber 100 = .ok (.iload 7, 2) := by decide +kernel
theorem dX8_computeWithNumber_102 : decode cX8_computeWithNumber 102 = .ok (.aload_n 0, 1) := by decide +kernel
theorem dX8_computeWithNumber_103 : decode cX8_computeWithNumber 103 = .ok (.getfield 9, 3) := by decide +kernel
theorem dX8_computeWithNumber_106 : decode cX8_computeWithNumber 106 = .ok (.iload 5, 2) := by decide +kernel
theorem dX8_computeWithNumber_108 : decode cX8_computeWithNumber 108 = .ok (.iaload, 1) := by decide +kernel
theorem dX8_computeWithNumber_109 : decode cX8_computeWithNumber 109 = .ok (.iload_n 1, 1) := by decide +kernel
theorem dX8_computeWithNumber_110 : decode cX8_computeWithNumber 110 = .ok (.invokestatic 135, 3) := by decide +kernel
theorem dX8_computeWithNumber_113 : decode cX8_computeWithNumber 113 = .ok (.invokestatic 191, 3) := by decide +kernel
theorem dX8_computeWithNumber_116 : decode cX8_computeWithNumber 116 = .ok (.invokevirtual 122, 3) := by decide +kernel
theorem dX8_computeWithNumber_119 : decode cX8_computeWithNumber 119 = .ok (.getstatic 54, 3) := by decide +kernel
theorem dX8_computeWithNumber_122 : decode cX8_computeWithNumber 122 = .ok (.areturn, 1) := by decide +kernel
theorem dX8_computeWithRegister_0 : decode cX8_computeWithRegister 0 = .ok (.iload_n 1, 1) := by decide +kernel
theorem dX8_computeWithRegister_1 : decode cX8_computeWithRegister 1 = .ok (.invokestatic 132, 3) := by decide +kernel
theorem dX8_computeWithRegister_4 : decode cX8_computeWithRegister 4 = .ok (.istore_n 2, 1) := by decide +kernel
theorem dX8_computeWithRegister_5 : decode cX8_computeWithRegister 5 = .ok (.iload_n 1, 1) := by decide +kernel
theorem dX8_computeWithRegister_6 : decode cX8_computeWithRegister 6 = .ok (.invokestatic 188, 3) := by decide +kernel
theorem dX8_computeWithRegister_9 : decode cX8_computeWithRegister 9 = .ok (.istore_n 3, 1) := by decide +kernel
theorem dX8_computeWithRegister_10 : decode cX8_computeWithRegister 10 = .ok (.iload_n 1, 1) := by decide +kernel
theorem dX8_computeWithRegister_11 : decode cX8_computeWithRegister 11 = .ok (.invokestatic 113, 3) := by decide +kernel
theorem dX8_computeWithRegister_14 : decode cX8_computeWithRegister 14 = .ok (.istore 4, 2) := by decide +kernel
theorem dX8_computeWithRegister_16 : decode cX8_computeWithRegister 16 = .ok (.iload_n 1, 1) := by decide +kernel
theorem dX8_computeWithRegister_17 : decode cX8_computeWithRegister 17 = .ok (.invokestatic 129, 3) := by decide +kernel
theorem dX8_computeWithRegister_20 : decode cX8_computeWithRegister 20 = .ok (.istore 5, 2) := by decide +kernel
theorem dX8_computeWithRegister_22 : decode cX8_computeWithRegister 22 = .ok (.iload_n 1, 1) := by decide +kernel
theorem dX8_computeWithRegister_23 : decode cX8_computeWithRegister 23 = .ok (.invokestatic 138, 3) := by decide +kernel
theorem dX8_computeWithRegister_26 : decode cX8_computeWithRegister 26 = .ok (.istore 6, 2) := by decide +kernel
theorem dX8_computeWithRegister_28 : decode cX8_computeWithRegister 28 = .ok (.iload_n 3, 1) := by decide +kernel
theorem dX8_computeWithRegister_29 : decode cX8_computeWithRegister 29 = .ok (.ifCond .eq 18, 3) := by decide +kernel
theorem dX8_computeWithRegister_32 : decode cX8_computeWithRegister 32 = .ok (.iload_n 3, 1) := by decide +kernel
theorem dX8_computeWithRegister_33 : decode cX8_computeWithRegister 33 = .ok (.bipush 32, 2) := by decide +kernel
theorem dX8_computeWithRegister_35 : decode cX8_computeWithRegister 35 = .ok (.if_icmp .ne 16, 3) := by decide +kernel
theorem dX8_computeWithRegister_38 : decode cX8_computeWithRegister 38 = .ok (.iload_n 2, 1) := by decide +kernel
theorem dX8_computeWithRegister_39 : decode cX8_computeWithRegister 39 = .ok (.ifCond .eq 8, 3) := by decide +kernel
theorem dX8_computeWithRegister_42 : decode cX8_computeWithRegister 42 = .ok (.iload_n 2, 1) := by decide +kernel
theorem dX8_computeWithRegister_43 : decode cX8_computeWithRegister 43 = .ok (.iconst 5, 1) := by decide +kernel
theorem dX8_computeWithRegister_44 : decode cX8_computeWithRegister 44 = .ok (.if_icmp .ne 7, 3) := by decide +kernel
theorem dX8_computeWithRegister_47 : decode cX8_computeWithRegister 47 = .ok (.iconst 1, 1) := by decide +kernel
theorem dX8_computeWithRegister_48 : decode cX8_computeWithRegister 48 = .ok (.goto 4, 3) := by decide +kernel
theorem dX8_computeWithRegister_51 : decode cX8_computeWithRegister 51 = .ok (.iconst 0, 1) := by decide +kernel
theorem dX8_computeWithRegister_52 : decode cX8_computeWithRegister 52 = .ok (.istore 7, 2) := by decide +kernel
theorem dX8_computeWithRegister_54 : decode cX8_computeWithRegister 54 = .ok (.iload 7, 2) := by decide +kernel
theorem dX8_computeWithRegister_56 : decode cX8_computeWithRegister 56 = .ok (.ifCond .eq 27, 3) := by decide +kernel
theorem dX8_computeWithRegister_59 : decode cX8_computeWithRegister 59 = .ok (.iload 4, 2) := by decide +kernel
theorem dX8_computeWithRegister_61 : decode cX8_computeWithRegister 61 = .ok (.invokestatic 116, 3) := by decide +kernel
theorem dX8_computeWithRegister_64 : decode cX8_computeWithRegister 64 = .ok (.ifCond .eq 19, 3) := by decide +kernel
theorem dX8_computeWithRegister_67 : decode cX8_computeWithRegister 67 = .ok (.iload 5, 2) := by decide +kernel
theorem dX8_computeWithRegister_69 : decode cX8_computeWithRegister 69 = .ok (.invokestatic 116, 3) := by decide +kernel
theorem dX8_computeWithRegister_72 : decode cX8_computeWithRegister 72 = .ok (.ifCond .eq 11, 3) := by decide +kernel
theorem dX8_computeWithRegister_75 : decode cX8_computeWithRegister 75 = .ok (.iload 6, 2) := by decide +kernel
theorem dX8_computeWithRegister_77 : decode cX8_computeWithRegister 77 = .ok (.invokestatic 116, 3) := by decide +kernel
theorem dX8_computeWithRegister_80 : decode cX8_computeWithRegister 80 = .ok (.ifCond .ne 7, 3) := by decide +kernel
theorem dX8_computeWithRegister_83 : decode cX8_computeWithRegister 83 = .ok (.getstatic 48, 3) := by decide +kernel
theorem dX8_computeWithRegister_86 : decode cX8_computeWithRegister 86 = .ok (.areturn, 1) := by decide +kernel
theorem dX8_computeWithRegister_87 : decode cX8_computeWithRegister 87 = .ok (.aload_n 0, 1) := by decide +kernel
theorem dX8_computeWithRegister_88 : decode cX8_computeWithRegister 88 = .ok (.iload 4, 2) := by decide +kernel
theorem dX8_computeWithRegister_90 : decode cX8_computeWithRegister 90 = .ok (.iload_n 2, 1) := by decide +kernel
theorem dX8_computeWithRegister_91 : decode cX8_computeWithRegister 91 = .ok (.iload_n 3, 1) := by decide +kernel
theorem dX8_computeWithRegister_92 : decode cX8_computeWithRegister 92 = .ok (.bipush 32, 2) := by decide +kernel
theorem dX8_computeWithRegister_94 : decode cX8_computeWithRegister 94 = .ok (.if_icmp .ne 7, 3) := by decide +kernel
theorem dX8_computeWithRegister_97 : decode cX8_computeWithRegister 97 = .ok (.iconst 1, 1) := by decide +kernel
theorem dX8_computeWithRegister_98 : decode cX8_computeWithRegister 98 = .ok (.goto 4, 3) := by decide +kernel
theorem dX8_computeWithRegister_101 : decode cX8_computeWithRegister 101 = .ok (.iconst 0, 1) := by decide +kernel
theorem dX8_computeWithRegister_102 : decode cX8_computeWithRegister 102 = .ok (.aload_n 0, 1) := by decide +kernel
theorem dX8_computeWithRegister_103 : decode cX8_computeWithRegister 103 = .ok (.getfield 9, 3) := by decide +kernel
theorem dX8_computeWithRegister_106 : decode cX8_computeWithRegister 106 = .ok (.iload 5, 2) := by decide +kernel
theorem dX8_computeWithRegister_108 : decode cX8_computeWithRegister 108 = .ok (.iaload, 1) := by decide +kernel
theorem dX8_computeWithRegister_109 : decode cX8_computeWithRegister 109 = .ok (.aload_n 0, 1) := by decide +kernel
theorem dX8_computeWithRegister_110 : decode cX8_computeWithRegister 110 = .ok (.getfield 9, 3) := by decide +kernel
theorem dX8_computeWithRegister_113 : decode cX8_computeWithRegister 113 = .ok (.iload 6, 2) := by decide +kernel
theorem dX8_computeWithRegister_115 : decode cX8_computeWithRegister 115 = .ok (.iaload, 1) := by decide +kernel
theorem dX8_computeWithRegister_116 : decode cX8_computeWithRegister 116 = .ok (.invokestatic 191, 3) := by decide +kernel
theorem dX8_computeWithRegister_119 : decode cX8_computeWithRegister 119 = .ok (.invokevirtual 122, 3) := by decide +kernel
theorem dX8_computeWithRegister_122 : decode cX8_computeWithRegister 122 = .ok (.getstatic 54, 3) := by decide +kernel
theorem dX8_computeWithRegister_125 : decode cX8_computeWithRegister 125 = .ok (.areturn, 1) := by decide +kernel
theorem dX8_compute_0 : decode cX8_compute 0 = .ok (.iload_n 0, 1) := by decide +kernel
theorem dX8_compute_1 : decode cX8_compute 1 = .ok (.tableswitch 108 0 6 #[43, 57, 61, 72, 86, 90, 104], 43) := by decide +kernel
theorem dX8_compute_44 : decode cX8_compute 44 = .ok (.iload_n 1, 1) := by decide +kernel
theorem dX8_compute_45 : decode cX8_compute 45 = .ok (.ifCond .eq 9, 3) := by decide +kernel
theorem dX8_compute_48 : decode cX8_compute 48 = .ok (.iload_n 2, 1) := by decide +kernel
theorem dX8_compute_49 : decode cX8_compute 49 = .ok (.iload_n 3, 1) := by decide +kernel
theorem dX8_compute_50 : decode cX8_compute 50 = .ok (.isub, 1) := by decide +kernel
theorem dX8_compute_51 : decode cX8_compute 51 = .ok (.goto 6, 3) := by decide +kernel
theorem dX8_compute_54 : decode cX8_compute 54 = .ok (.iload_n 2, 1) := by decide +kernel
theorem dX8_compute_55 : decode cX8_compute 55 = .ok (.iload_n 3, 1) := by decide +kernel
theorem dX8_compute_56 : decode cX8_compute 56 = .ok (.iadd, 1) := by decide +kernel
theorem dX8_compute_57 : decode cX8_compute 57 = .ok (.ireturn, 1) := by decide +kernel
theorem dX8_compute_58 : decode cX8_compute 58 = .ok (.iload_n 2, 1) := by decide +kernel
theorem dX8_compute_59 : decode cX8_compute 59 = .ok (.iload_n 3, 1) := by decide +kernel
theorem dX8_compute_60 : decode cX8_compute 60 = .ok (.ishl, 1) := by decide +kernel
theorem dX8_compute_61 : decode cX8_compute 61 = .ok (.ireturn, 1) := by decide +kernel
theorem dX8_compute_62 : decode cX8_compute 62 = .ok (.iload_n 2, 1) := by decide +kernel
theorem dX8_compute_63 : decode cX8_compute 63 = .ok (.iload_n 3, 1) := by decide +kernel
theorem dX8_compute_64 : decode cX8_compute 64 = .ok (.if_icmp .ge 7, 3) := by decide +kernel
theorem dX8_compute_67 : decode cX8_compute 67 = .ok (.iconst 1, 1) := by decide +kernel
theorem dX8_compute_68 : decode cX8_compute 68 = .ok (.goto 4, 3) := by decide +kernel
theorem dX8_compute_71 : decode cX8_compute 71 = .ok (.iconst 0, 1) := by decide +kernel
theorem dX8_compute_72 : decode cX8_compute 72 = .ok (.ireturn, 1) := by decide +kernel
theorem dX8_compute_73 : decode cX8_compute 73 = .ok (.iload_n 2, 1) := by decide +kernel
theorem dX8_compute_74 : decode cX8_compute 74 = .ok (.iload_n 3, 1) := by decide +kernel
theorem dX8_compute_75 : decode cX8_compute 75 = .ok (.invokestatic 148, 3) := by decide +kernel
theorem dX8_compute_78 : decode cX8_compute 78 = .ok (.ifCond .eq 7, 3) := by decide +kernel
theorem dX8_compute_81 : decode cX8_compute 81 = .ok (.iconst 1, 1) := by decide +kernel
theorem dX8_compute_82 : decode cX8_compute 82 = .ok (.goto 4, 3) := by decide +kernel
theorem dX8_compute_85 : decode cX8_compute 85 = .ok (.iconst 0, 1) := by decide +kernel
theorem dX8_compute_86 : decode cX8_compute 86 = .ok (.ireturn, 1) := by decide +kernel
theorem dX8_compute_87 : decode cX8_compute 87 = .ok (.iload_n 2, 1) := by decide +kernel
theorem dX8_compute_88 : decode cX8_compute 88 = .ok (.iload_n 3, 1) := by decide +kernel
theorem dX8_compute_89 : decode cX8_compute 89 = .ok (.ixor, 1) := by decide +kernel
theorem dX8_compute_90 : decode cX8_compute 90 = .ok (.ireturn, 1) := by decide +kernel
theorem dX8_compute_91 : decode cX8_compute 91 = .ok (.iload_n 1, 1) := by decide +kernel
theorem dX8_compute_92 : decode cX8_compute 92 = .ok (.ifCond .eq 9, 3) := by decide +kernel
theorem dX8_compute_95 : decode cX8_compute 95 = .ok (.iload_n 2, 1) := by decide +kernel
theorem dX8_compute_96 : decode cX8_compute 96 = .ok (.iload_n 3, 1) := by decide +kernel
theorem dX8_compute_97 : decode cX8_compute 97 = .ok (.ishr, 1) := by decide +kernel
theorem dX8_compute_98 : decode cX8_compute 98 = .ok (.goto 6, 3) := by decide +kernel
theorem dX8_compute_101 : decode cX8_compute 101 = .ok (.iload_n 2, 1) := by decide +kernel
theorem dX8_compute_102 : decode cX8_compute 102 = .ok (.iload_n 3, 1) := by decide +kernel
theorem dX8_compute_103 : decode cX8_compute 103 = .ok (.iushr, 1) := by decide +kernel
theorem dX8_compute_104 : decode cX8_compute 104 = .ok (.ireturn, 1) := by decide +kernel
theorem dX8_compute_105 : decode cX8_compute 105 = .ok (.iload_n 2, 1) := by decide +kernel
theorem dX8_compute_106 : decode cX8_compute 106 = .ok (.iload_n 3, 1) := by decide +kernel
theorem dX8_compute_107 : decode cX8_compute 107 = .ok (.ior, 1) := by decide +kernel
theorem dX8_compute_108 : decode cX8_compute 108 = .ok (.ireturn, 1) := by decide +kernel
theorem dX8_compute_109 : decode cX8_compute 109 = .ok (.iload_n 2, 1) := by decide +kernel
theorem dX8_compute_110 : decode cX8_compute 110 = .ok (.iload_n 3, 1) := by decide +kernel
theorem dX8_compute_111 : decode cX8_compute 111 = .ok (.iand, 1) := by decide +kernel
theorem dX8_compute_112 : decode cX8_compute 112 = .ok (.ireturn, 1) := by decide +kernel
theorem dX8_timed_0 : decode cX8_timed 0 = .ok (.iload_n 1, 1) := by decide +kernel
theorem dX8_timed_1 : decode cX8_timed 1 = .ok (.invokestatic 132, 3) := by decide +kernel
theorem dX8_timed_4 : decode cX8_timed 4 = .ok (.istore_n 3, 1) := by decide +kernel
theorem dX8_timed_5 : decode cX8_timed 5 = .ok (.iload_n 1, 1) := by decide +kernel
theorem dX8_timed_6 : decode cX8_timed 6 = .ok (.invokestatic 113, 3) := by decide +kernel
theorem dX8_timed_9 : decode cX8_timed 9 = .ok (.istore 4, 2) := by decide +kernel
theorem dX8_timed_11 : decode cX8_timed 11 = .ok (.iload_n 3, 1) := by decide +kernel
theorem dX8_timed_12 : decode cX8_timed 12 = .ok (.ifCond .ne 12, 3) := by decide +kernel
theorem dX8_timed_15 : decode cX8_timed 15 = .ok (.aload_n 0, 1) := by decide +kernel
theorem dX8_timed_16 : decode cX8_timed 16 = .ok (.iload 4, 2) := by decide +kernel
theorem dX8_timed_18 : decode cX8_timed 18 = .ok (.iload_n 1, 1) := by decide +kernel
theorem dX8_timed_19 : decode cX8_timed 19 = .ok (.iload_n 2, 1) := by decide +kernel
theorem dX8_timed_20 : decode cX8_timed 20 = .ok (.invokevirtual 195, 3) := by decide +kernel
theorem dX8_timed_23 : decode cX8_timed 23 = .ok (.areturn, 1) := by decide +kernel
theorem dX8_timed_24 : decode cX8_timed 24 = .ok (.iload_n 3, 1) := by decide +kernel
theorem dX8_timed_25 : decode cX8_timed 25 = .ok (.iconst 1, 1) := by decide +kernel
theorem dX8_timed_26 : decode cX8_timed 26 = .ok (.if_icmp .ne 11, 3) := by decide +kernel
theorem dX8_timed_29 : decode cX8_timed 29 = .ok (.iload 4, 2) := by decide +kernel
theorem dX8_timed_31 : decode cX8_timed 31 = .ok (.invokestatic 116, 3) := by decide +kernel
theorem dX8_timed_34 : decode cX8_timed 34 = .ok (.ifCond .ne 7, 3) := by decide +kernel
theorem dX8_timed_37 : decode cX8_timed 37 = .ok (.getstatic 48, 3) := by decide +kernel
theorem dX8_timed_40 : decode cX8_timed 40 = .ok (.areturn, 1) := by decide +kernel
theorem dX8_timed_41 : decode cX8_timed 41 = .ok (.aload_n 0, 1) := by decide +kernel
theorem dX8_timed_42 : decode cX8_timed 42 = .ok (.iload 4, 2) := by decide +kernel
theorem dX8_timed_44 : decode cX8_timed 44 = .ok (.iload_n 2, 1) := by decide +kernel
theorem dX8_timed_45 : decode cX8_timed 45 = .ok (.invokevirtual 122, 3) := by decide +kernel
theorem dX8_timed_48 : decode cX8_timed 48 = .ok (.getstatic 54, 3) := by decide +kernel
theorem dX8_timed_51 : decode cX8_timed 51 = .ok (.areturn, 1) := by decide +kernel
theorem dX8_setTimer_0 : decode cX8_setTimer 0 = .ok (.iload_n 2, 1) := by decide +kernel
theorem dX8_setTimer_1 : decode cX8_setTimer 1 = .ok (.invokestatic 129, 3) := by decide +kernel
theorem dX8_setTimer_4 : decode cX8_setTimer 4 = .ok (.istore 4, 2) := by decide +kernel
theorem dX8_setTimer_6 : decode cX8_setTimer 6 = .ok (.iload_n 1, 1) := by decide +kernel
theorem dX8_setTimer_7 : decode cX8_setTimer 7 = .ok (.iconst 4, 1) := by decide +kernel
theorem dX8_setTimer_8 : decode cX8_setTimer 8 = .ok (.if_icmp .ge 11, 3) := by decide +kernel
theorem dX8_setTimer_11 : decode cX8_setTimer 11 = .ok (.iload 4, 2) := by decide +kernel
theorem dX8_setTimer_13 : decode cX8_setTimer 13 = .ok (.invokestatic 116, 3) := by decide +kernel
theorem dX8_setTimer_16 : decode cX8_setTimer 16 = .ok (.ifCond .ne 7, 3) := by decide +kernel
theorem dX8_setTimer_19 : decode cX8_setTimer 19 = .ok (.getstatic 48, 3) := by decide +kernel
theorem dX8_setTimer_22 : decode cX8_setTimer 22 = .ok (.areturn, 1) := by decide +kernel
theorem dX8_setTimer_23 : decode cX8_setTimer 23 = .ok (.iload_n 3, 1) := by decide +kernel
theorem dX8_setTimer_24 : decode cX8_setTimer 24 = .ok (.aload_n 0, 1) := by decide +kernel
theorem dX8_setTimer_25 : decode cX8_setTimer 25 = .ok (.getfield 25, 3) := by decide +kernel
theorem dX8_setTimer_28 : decode cX8_setTimer 28 = .ok (.iload_n 1, 1) := by decide +kernel
theorem dX8_setTimer_29 : decode cX8_setTimer 29 = .ok (.iaload, 1) := by decide +kernel
theorem dX8_setTimer_30 : decode cX8_setTimer 30 = .ok (.if_icmp .ge 7, 3) := by decide +kernel
theorem dX8_setTimer_33 : decode cX8_setTimer 33 = .ok (.getstatic 199, 3) := by decide +kernel
theorem dX8_setTimer_36 : decode cX8_setTimer 36 = .ok (.areturn, 1) := by decide +kernel
theorem dX8_setTimer_37 : decode cX8_setTimer 37 = .ok (.iload_n 3, 1) := by decide +kernel
theorem dX8_setTimer_38 : decode cX8_setTimer 38 = .ok (.i2l, 1) := by decide +kernel
theorem dX8_setTimer_39 : decode cX8_setTimer 39 = .ok (.aload_n 0, 1) := by decide +kernel
theorem dX8_setTimer_40 : decode cX8_setTimer 40 = .ok (.getfield 9, 3) := by decide +kernel
theorem dX8_setTimer_43 : decode cX8_setTimer 43 = .ok (.iload 4, 2) := by decide +kernel
theorem dX8_setTimer_45 : decode cX8_setTimer 45 = .ok (.iaload, 1) := by decide +kernel
theorem dX8_setTimer_46 : decode cX8_setTimer 46 = .ok (.i2l, 1) := by decide +kernel
theorem dX8_setTimer_47 : decode cX8_setTimer 47 = .ok (.ladd, 1) := by decide +kernel
theorem dX8_setTimer_48 : decode cX8_setTimer 48 = .ok (.iload_n 2, 1) := by decide +kernel
theorem dX8_setTimer_49 : decode cX8_setTimer 49 = .ok (.invokestatic 135, 3) := by decide +kernel
theorem dX8_setTimer_52 : decode cX8_setTimer 52 = .ok (.i2l, 1) := by decide +kernel
theorem dX8_setTimer_53 : decode cX8_setTimer 53 = .ok (.ladd, 1) := by decide +kernel
theorem dX8_setTimer_54 : decode cX8_setTimer 54 = .ok (.lstore 5, 2) := by decide +kernel
theorem dX8_setTimer_56 : decode cX8_setTimer 56 = .ok (.aload_n 0, 1) := by decide +kernel
theorem dX8_setTimer_57 : decode cX8_setTimer 57 = .ok (.getfield 25, 3) := by decide +kernel
theorem dX8_setTimer_60 : decode cX8_setTimer 60 = .ok (.iload_n 1, 1) := by decide +kernel
theorem dX8_setTimer_61 : decode cX8_setTimer 61 = .ok (.ldc2_w 202, 3) := by decide +kernel
theorem dX8_setTimer_64 : decode cX8_setTimer 64 = .ok (.iload_n 3, 1) := by decide +kernel
theorem dX8_setTimer_65 : decode cX8_setTimer 65 = .ok (.i2l, 1) := by decide +kernel
theorem dX8_setTimer_66 : decode cX8_setTimer 66 = .ok (.lload 5, 2) := by decide +kernel
theorem dX8_setTimer_68 : decode cX8_setTimer 68 = .ok (.invokestatic 204, 3) := by decide +kernel
theorem dX8_setTimer_71 : decode cX8_setTimer 71 = .ok (.invokestatic 210, 3) := by decide +kernel
theorem dX8_setTimer_74 : decode cX8_setTimer 74 = .ok (.l2i, 1) := by decide +kernel
theorem dX8_setTimer_75 : decode cX8_setTimer 75 = .ok (.iastore, 1) := by decide +kernel
theorem dX8_setTimer_76 : decode cX8_setTimer 76 = .ok (.getstatic 54, 3) := by decide +kernel
theorem dX8_setTimer_79 : decode cX8_setTimer 79 = .ok (.areturn, 1) := by decide +kernel
theorem dX8_halt_0 : decode cX8_halt 0 = .ok (.iload_n 1, 1) := by decide +kernel
theorem dX8_halt_1 : decode cX8_halt 1 = .ok (.bipush 115, 2) := by decide +kernel
theorem dX8_halt_3 : decode cX8_halt 3 = .ok (.if_icmp .eq 7, 3) := by decide +kernel
theorem dX8_halt_6 : decode cX8_halt 6 = .ok (.getstatic 48, 3) := by decide +kernel
theorem dX8_halt_9 : decode cX8_halt 9 = .ok (.areturn, 1) := by decide +kernel
theorem dX8_halt_10 : decode cX8_halt 10 = .ok (.aload_n 0, 1) := by decide +kernel
theorem dX8_halt_11 : decode cX8_halt 11 = .ok (.iconst 2, 1) := by decide +kernel
theorem dX8_halt_12 : decode cX8_halt 12 = .ok (.putfield 28, 3) := by decide +kernel
theorem dX8_halt_15 : decode cX8_halt 15 = .ok (.getstatic 54, 3) := by decide +kernel
theorem dX8_halt_18 : decode cX8_halt 18 = .ok (.areturn, 1) := by decide +kernel
theorem dX8_setRegister_0 : decode cX8_setRegister 0 = .ok (.iload_n 1, 1) := by decide +kernel
theorem dX8_setRegister_1 : decode cX8_setRegister 1 = .ok (.ifCond .eq 10, 3) := by decide +kernel
theorem dX8_setRegister_4 : decode cX8_setRegister 4 = .ok (.aload_n 0, 1) := by decide +kernel
theorem dX8_setRegister_5 : decode cX8_setRegister 5 = .ok (.getfield 9, 3) := by decide +kernel
theorem dX8_setRegister_8 : decode cX8_setRegister 8 = .ok (.iload_n 1, 1) := by decide +kernel
theorem dX8_setRegister_9 : decode cX8_setRegister 9 = .ok (.iload_n 2, 1) := by decide +kernel
theorem dX8_setRegister_10 : decode cX8_setRegister 10 = .ok (.iastore, 1) := by decide +kernel
theorem dX8_setRegister_11 : decode cX8_setRegister 11 = .ok (.return_, 1) := by decide +kernel
theorem dX8_isInStore_0 : decode cX8_isInStore 0 = .ok (.iload_n 0, 1) := by decide +kernel
theorem dX8_isInStore_1 : decode cX8_isInStore 1 = .ok (.ifCond .lt 14, 3) := by decide +kernel
theorem dX8_isInStore_4 : decode cX8_isInStore 4 = .ok (.iload_n 0, 1) := by decide +kernel
theorem dX8_isInStore_5 : decode cX8_isInStore 5 = .ok (.sipush 512, 3) := by decide +kernel
theorem dX8_isInStore_8 : decode cX8_isInStore 8 = .ok (.if_icmp .ge 7, 3) := by decide +kernel
theorem dX8_isInStore_11 : decode cX8_isInStore 11 = .ok (.iconst 1, 1) := by decide +kernel
theorem dX8_isInStore_12 : decode cX8_isInStore 12 = .ok (.goto 4, 3) := by decide +kernel
theorem dX8_isInStore_15 : decode cX8_isInStore 15 = .ok (.iconst 0, 1) := by decide +kernel
theorem dX8_isInStore_16 : decode cX8_isInStore 16 = .ok (.ireturn, 1) := by decide +kernel
theorem dX8_isAligned_0 : decode cX8_isAligned 0 = .ok (.iload_n 0, 1) := by decide +kernel
theorem dX8_isAligned_1 : decode cX8_isAligned 1 = .ok (.iconst 3, 1) := by decide +kernel
theorem dX8_isAligned_2 : decode cX8_isAligned 2 = .ok (.iand, 1) := by decide +kernel
theorem dX8_isAligned_3 : decode cX8_isAligned 3 = .ok (.ifCond .ne 7, 3) := by decide +kernel
theorem dX8_isAligned_6 : decode cX8_isAligned 6 = .ok (.iconst 1, 1) := by decide +kernel
theorem dX8_isAligned_7 : decode cX8_isAligned 7 = .ok (.goto 4, 3) := by decide +kernel
theorem dX8_isAligned_10 : decode cX8_isAligned 10 = .ok (.iconst 0, 1) := by decide +kernel
theorem dX8_isAligned_11 : decode cX8_isAligned 11 = .ok (.ireturn, 1) := by decide +kernel
theorem dX10_init_0 : decode cX10_init 0 = .ok (.aload_n 0, 1) := by decide +kernel
theorem dX10_init_1 : decode cX10_init 1 = .ok (.invokespecial 1, 3) := by decide +kernel
theorem dX10_init_4 : decode cX10_init 4 = .ok (.aload_n 0, 1) := by decide +kernel
theorem dX10_init_5 : decode cX10_init 5 = .ok (.new 7, 3) := by decide +kernel
theorem dX10_init_8 : decode cX10_init 8 = .ok (.dup, 1) := by decide +kernel
theorem dX10_init_9 : decode cX10_init 9 = .ok (.iconst 1, 1) := by decide +kernel
theorem dX10_init_10 : decode cX10_init 10 = .ok (.bipush 8, 2) := by decide +kernel
theorem dX10_init_12 : decode cX10_init 12 = .ok (.iload_n 1, 1) := by decide +kernel
theorem dX10_init_13 : decode cX10_init 13 = .ok (.invokestatic 11, 3) := by decide +kernel
theorem dX10_init_16 : decode cX10_init 16 = .ok (.invokestatic 17, 3) := by decide +kernel
theorem dX10_init_19 : decode cX10_init 19 = .ok (.invokespecial 20, 3) := by decide +kernel
theorem dX10_init_22 : decode cX10_init 22 = .ok (.putfield 23, 3) := by decide +kernel
theorem dX10_init_25 : decode cX10_init 25 = .ok (.aload_n 0, 1) := by decide +kernel
theorem dX10_init_26 : decode cX10_init 26 = .ok (.iconst 4, 1) := by decide +kernel
theorem dX10_init_27 : decode cX10_init 27 = .ok (.anewarray 27, 3) := by decide +kernel
theorem dX10_init_30 : decode cX10_init 30 = .ok (.putfield 29, 3) := by decide +kernel
theorem dX10_init_33 : decode cX10_init 33 = .ok (.iconst 0, 1) := by decide +kernel
theorem dX10_init_34 : decode cX10_init 34 = .ok (.istore_n 2, 1) := by decide +kernel
theorem dX10_init_35 : decode cX10_init 35 = .ok (.iload_n 2, 1) := by decide +kernel
theorem dX10_init_36 : decode cX10_init 36 = .ok (.iconst 4, 1) := by decide +kernel
theorem dX10_init_37 : decode cX10_init 37 = .ok (.if_icmp .ge 23, 3) := by decide +kernel
theorem dX10_init_40 : decode cX10_init 40 = .ok (.aload_n 0, 1) := by decide +kernel
theorem dX10_init_41 : decode cX10_init 41 = .ok (.getfield 29, 3) := by decide +kernel
theorem dX10_init_44 : decode cX10_init 44 = .ok (.iload_n 2, 1) := by decide +kernel
theorem dX10_init_45 : decode cX10_init 45 = .ok (.new 27, 3) := by decide +kernel
theorem dX10_init_48 : decode cX10_init 48 = .ok (.dup, 1) := by decide +kernel
theorem dX10_init_49 : decode cX10_init 49 = .ok (.iload_n 2, 1) := by decide +kernel
theorem dX10_init_50 : decode cX10_init 50 = .ok (.invokespecial 33, 3) := by decide +kernel
theorem dX10_init_53 : decode cX10_init 53 = .ok (.aastore, 1) := by decide +kernel
theorem dX10_init_54 : decode cX10_init 54 = .ok (.iinc 2 1, 3) := by decide +kernel
theorem dX10_init_57 : decode cX10_init 57 = .ok (.goto (-22), 3) := by decide +kernel
theorem dX10_init_60 : decode cX10_init 60 = .ok (.aload_n 0, 1) := by decide +kernel
theorem dX10_init_61 : decode cX10_init 61 = .ok (.new 34, 3) := by decide +kernel
theorem dX10_init_64 : decode cX10_init 64 = .ok (.dup, 1) := by decide +kernel
theorem dX10_init_65 : decode cX10_init 65 = .ok (.invokespecial 36, 3) := by decide +kernel
theorem dX10_init_68 : decode cX10_init 68 = .ok (.putfield 37, 3) := by decide +kernel
theorem dX10_init_71 : decode cX10_init 71 = .ok (.aload_n 0, 1) := by decide +kernel
theorem dX10_init_72 : decode cX10_init 72 = .ok (.new 41, 3) := by decide +kernel
theorem dX10_init_75 : decode cX10_init 75 = .ok (.dup, 1) := by decide +kernel
theorem dX10_init_76 : decode cX10_init 76 = .ok (.invokespecial 43, 3) := by decide +kernel
theorem dX10_init_79 : decode cX10_init 79 = .ok (.putfield 44, 3) := by decide +kernel
theorem dX10_init_82 : decode cX10_init 82 = .ok (.return_, 1) := by decide +kernel
theorem dX10_type_0 : decode cX10_type 0 = .ok (.lload_n 1, 1) := by decide +kernel
theorem dX10_type_1 : decode cX10_type 1 = .ok (.iload_n 3, 1) := by decide +kernel
theorem dX10_type_2 : decode cX10_type 2 = .ok (.invokestatic 48, 3) := by decide +kernel
theorem dX10_type_5 : decode cX10_type 5 = .ok (.ifCond .ne 11, 3) := by decide +kernel
theorem dX10_type_8 : decode cX10_type 8 = .ok (.new 52, 3) := by decide +kernel
theorem dX10_type_11 : decode cX10_type 11 = .ok (.dup, 1) := by decide +kernel
theorem dX10_type_12 : decode cX10_type 12 = .ok (.invokespecial 54, 3) := by decide +kernel
theorem dX10_type_15 : decode cX10_type 15 = .ok (.athrow, 1) := by decide +kernel
theorem dX10_type_16 : decode cX10_type 16 = .ok (.aload_n 0, 1) := by decide +kernel
theorem dX10_type_17 : decode cX10_type 17 = .ok (.getfield 37, 3) := by decide +kernel
theorem dX10_type_20 : decode cX10_type 20 = .ok (.getfield 55, 3) := by decide +kernel
theorem dX10_type_23 : decode cX10_type 23 = .ok (.iload_n 3, 1) := by decide +kernel
theorem dX10_type_24 : decode cX10_type 24 = .ok (.iadd, 1) := by decide +kernel
theorem dX10_type_25 : decode cX10_type 25 = .ok (.sipush 400, 3) := by decide +kernel
theorem dX10_type_28 : decode cX10_type 28 = .ok (.if_icmp .le 11, 3) := by decide +kernel
theorem dX10_type_31 : decode cX10_type 31 = .ok (.new 59, 3) := by decide +kernel
theorem dX10_type_34 : decode cX10_type 34 = .ok (.dup, 1) := by decide +kernel
theorem dX10_type_35 : decode cX10_type 35 = .ok (.invokespecial 61, 3) := by decide +kernel
theorem dX10_type_38 : decode cX10_type 38 = .ok (.athrow, 1) := by decide +kernel
theorem dX10_type_39 : decode cX10_type 39 = .ok (.aload_n 0, 1) := by decide +kernel
theorem dX10_type_40 : decode cX10_type 40 = .ok (.getfield 37, 3) := by decide +kernel
theorem dX10_type_43 : decode cX10_type 43 = .ok (.lload_n 1, 1) := by decide +kernel
theorem dX10_type_44 : decode cX10_type 44 = .ok (.iload_n 3, 1) := by decide +kernel
theorem dX10_type_45 : decode cX10_type 45 = .ok (.invokevirtual 62, 3) := by decide +kernel
theorem dX10_type_48 : decode cX10_type 48 = .ok (.aload_n 0, 1) := by decide +kernel
theorem dX10_type_49 : decode cX10_type 49 = .ok (.getfield 37, 3) := by decide +kernel
theorem dX10_type_52 : decode cX10_type 52 = .ok (.getfield 55, 3) := by decide +kernel
theorem dX10_type_55 : decode cX10_type 55 = .ok (.ireturn, 1) := by decide +kernel
theorem dX10_clear_0 : decode cX10_clear 0 = .ok (.aload_n 0, 1) := by decide +kernel
theorem dX10_clear_1 : decode cX10_clear 1 = .ok (.getfield 37, 3) := by decide +kernel
theorem dX10_clear_4 : decode cX10_clear 4 = .ok (.getfield 55, 3) := by decide +kernel
theorem dX10_clear_7 : decode cX10_clear 7 = .ok (.istore_n 1, 1) := by decide +kernel
theorem dX10_clear_8 : decode cX10_clear 8 = .ok (.aload_n 0, 1) := by decide +kernel
theorem dX10_clear_9 : decode cX10_clear 9 = .ok (.getfield 37, 3) := by decide +kernel
theorem dX10_clear_12 : decode cX10_clear 12 = .ok (.iconst 0, 1) := by decide +kernel
theorem dX10_clear_13 : decode cX10_clear 13 = .ok (.putfield 55, 3) := by decide +kernel
theorem dX10_clear_16 : decode cX10_clear 16 = .ok (.iload_n 1, 1) := by decide +kernel
theorem dX10_clear_17 : decode cX10_clear 17 = .ok (.ireturn, 1) := by decide +kernel
theorem dX10_assemble_0 : decode cX10_assemble 0 = .ok (.iload_n 1, 1) := by decide +kernel
theorem dX10_assemble_1 : decode cX10_assemble 1 = .ok (.iload_n 2, 1) := by decide +kernel
theorem dX10_assemble_2 : decode cX10_assemble 2 = .ok (.invokestatic 66, 3) := by decide +kernel
theorem dX10_assemble_5 : decode cX10_assemble 5 = .ok (.ifCond .ne 11, 3) := by decide +kernel
theorem dX10_assemble_8 : decode cX10_assemble 8 = .ok (.new 70, 3) := by decide +kernel
theorem dX10_assemble_11 : decode cX10_assemble 11 = .ok (.dup, 1) := by decide +kernel
theorem dX10_assemble_12 : decode cX10_assemble 12 = .ok (.invokespecial 72, 3) := by decide +kernel
theorem dX10_assemble_15 : decode cX10_assemble 15 = .ok (.athrow, 1) := by decide +kernel
theorem dX10_assemble_16 : decode cX10_assemble 16 = .ok (.aload_n 0, 1) := by decide +kernel
theorem dX10_assemble_17 : decode cX10_assemble 17 = .ok (.getfield 44, 3) := by decide +kernel
theorem dX10_assemble_20 : decode cX10_assemble 20 = .ok (.aload_n 0, 1) := by decide +kernel
theorem dX10_assemble_21 : decode cX10_assemble 21 = .ok (.getfield 37, 3) := by decide +kernel
theorem dX10_assemble_24 : decode cX10_assemble 24 = .ok (.iload_n 2, 1) := by decide +kernel
theorem dX10_assemble_25 : decode cX10_assemble 25 = .ok (.invokevirtual 73, 3) := by decide +kernel
theorem dX10_assemble_28 : decode cX10_assemble 28 = .ok (.aload_n 0, 1) := by decide +kernel
theorem dX10_assemble_29 : decode cX10_assemble 29 = .ok (.getfield 44, 3) := by decide +kernel
theorem dX10_assemble_32 : decode cX10_assemble 32 = .ok (.getfield 77, 3) := by decide +kernel
theorem dX10_assemble_35 : decode cX10_assemble 35 = .ok (.ifCond .eq 11, 3) := by decide +kernel
theorem dX10_assemble_38 : decode cX10_assemble 38 = .ok (.new 52, 3) := by decide +kernel
theorem dX10_assemble_41 : decode cX10_assemble 41 = .ok (.dup, 1) := by decide +kernel
theorem dX10_assemble_42 : decode cX10_assemble 42 = .ok (.invokespecial 54, 3) := by decide +kernel
theorem dX10_assemble_45 : decode cX10_assemble 45 = .ok (.athrow, 1) := by decide +kernel
theorem dX10_assemble_46 : decode cX10_assemble 46 = .ok (.aload_n 0, 1) := by decide +kernel
theorem dX10_assemble_47 : decode cX10_assemble 47 = .ok (.getfield 44, 3) := by decide +kernel
theorem dX10_assemble_50 : decode cX10_assemble 50 = .ok (.getfield 80, 3) := by decide +kernel
theorem dX10_assemble_53 : decode cX10_assemble 53 = .ok (.iconst 0, 1) := by decide +kernel
theorem dX10_assemble_54 : decode cX10_assemble 54 = .ok (.aload_n 0, 1) := by decide +kernel
theorem dX10_assemble_55 : decode cX10_assemble 55 = .ok (.getfield 29, 3) := by decide +kernel
theorem dX10_assemble_58 : decode cX10_assemble 58 = .ok (.iload_n 1, 1) := by decide +kernel
theorem dX10_assemble_59 : decode cX10_assemble 59 = .ok (.aaload, 1) := by decide +kernel
theorem dX10_assemble_60 : decode cX10_assemble 60 = .ok (.getfield 84, 3) := by decide +kernel
theorem dX10_assemble_63 : decode cX10_assemble 63 = .ok (.iload_n 2, 1) := by decide +kernel
theorem dX10_assemble_64 : decode cX10_assemble 64 = .ok (.aload_n 0, 1) := by decide +kernel
theorem dX10_assemble_65 : decode cX10_assemble 65 = .ok (.getfield 44, 3) := by decide +kernel
theorem dX10_assemble_68 : decode cX10_assemble 68 = .ok (.getfield 87, 3) := by decide +kernel
theorem dX10_assemble_71 : decode cX10_assemble 71 = .ok (.invokestatic 90, 3) := by decide +kernel
theorem dX10_assemble_74 : decode cX10_assemble 74 = .ok (.aload_n 0, 1) := by decide +kernel
theorem dX10_assemble_75 : decode cX10_assemble 75 = .ok (.getfield 44, 3) := by decide +kernel
theorem dX10_assemble_78 : decode cX10_assemble 78 = .ok (.getfield 87, 3) := by decide +kernel
theorem dX10_assemble_81 : decode cX10_assemble 81 = .ok (.ireturn, 1) := by decide +kernel
theorem dX10_fault_0 : decode cX10_fault 0 = .ok (.iload_n 1, 1) := by decide +kernel
theorem dX10_fault_1 : decode cX10_fault 1 = .ok (.ifCond .ne 11, 3) := by decide +kernel
theorem dX10_fault_4 : decode cX10_fault 4 = .ok (.aload_n 0, 1) := by decide +kernel
theorem dX10_fault_5 : decode cX10_fault 5 = .ok (.getfield 44, 3) := by decide +kernel
theorem dX10_fault_8 : decode cX10_fault 8 = .ok (.getfield 77, 3) := by decide +kernel
theorem dX10_fault_11 : decode cX10_fault 11 = .ok (.ireturn, 1) := by decide +kernel
theorem dX10_fault_12 : decode cX10_fault 12 = .ok (.iload_n 1, 1) := by decide +kernel
theorem dX10_fault_13 : decode cX10_fault 13 = .ok (.iconst 1, 1) := by decide +kernel
theorem dX10_fault_14 : decode cX10_fault 14 = .ok (.if_icmp .ne 13, 3) := by decide +kernel
theorem dX10_fault_17 : decode cX10_fault 17 = .ok (.aload_n 0, 1) := by decide +kernel
theorem dX10_fault_18 : decode cX10_fault 18 = .ok (.getfield 44, 3) := by decide +kernel
theorem dX10_fault_21 : decode cX10_fault 21 = .ok (.getfield 96, 3) := by decide +kernel
theorem dX10_fault_24 : decode cX10_fault 24 = .ok (.goto 4, 3) := by decide +kernel
theorem dX10_fault_27 : decode cX10_fault 27 = .ok (.iconst 0, 1) := by decide +kernel
theorem dX10_fault_28 : decode cX10_fault 28 = .ok (.ireturn, 1) := by decide +kernel
theorem dX10_peek_0 : decode cX10_peek 0 = .ok (.iload_n 1, 1) := by decide +kernel
theorem dX10_peek_1 : decode cX10_peek 1 = .ok (.iload_n 2, 1) := by decide +kernel
theorem dX10_peek_2 : decode cX10_peek 2 = .ok (.invokestatic 66, 3) := by decide +kernel
theorem dX10_peek_5 : decode cX10_peek 5 = .ok (.ifCond .eq 17, 3) := by decide +kernel
theorem dX10_peek_8 : decode cX10_peek 8 = .ok (.aload_n 0, 1) := by decide +kernel
theorem dX10_peek_9 : decode cX10_peek 9 = .ok (.getfield 29, 3) := by decide +kernel
theorem dX10_peek_12 : decode cX10_peek 12 = .ok (.iload_n 1, 1) := by decide +kernel
theorem dX10_peek_13 : decode cX10_peek 13 = .ok (.aaload, 1) := by decide +kernel
theorem dX10_peek_14 : decode cX10_peek 14 = .ok (.getfield 84, 3) := by decide +kernel
theorem dX10_peek_17 : decode cX10_peek 17 = .ok (.iload_n 2, 1) := by decide +kernel
theorem dX10_peek_18 : decode cX10_peek 18 = .ok (.iaload, 1) := by decide +kernel
theorem dX10_peek_19 : decode cX10_peek 19 = .ok (.goto 4, 3) := by decide +kernel
theorem dX10_peek_22 : decode cX10_peek 22 = .ok (.iconst 0, 1) := by decide +kernel
theorem dX10_peek_23 : decode cX10_peek 23 = .ok (.ireturn, 1) := by decide +kernel
theorem dX10_poke_0 : decode cX10_poke 0 = .ok (.iload_n 1, 1) := by decide +kernel
theorem dX10_poke_1 : decode cX10_poke 1 = .ok (.iload_n 2, 1) := by decide +kernel
theorem dX10_poke_2 : decode cX10_poke 2 = .ok (.invokestatic 66, 3) := by decide +kernel
theorem dX10_poke_5 : decode cX10_poke 5 = .ok (.ifCond .ne 5, 3) := by decide +kernel
theorem dX10_poke_8 : decode cX10_poke 8 = .ok (.iconst 0, 1) := by decide +kernel
theorem dX10_poke_9 : decode cX10_poke 9 = .ok (.ireturn, 1) := by decide +kernel
theorem dX10_poke_10 : decode cX10_poke 10 = .ok (.aload_n 0, 1) := by decide +kernel
theorem dX10_poke_11 : decode cX10_poke 11 = .ok (.getfield 29, 3) := by decide +kernel
theorem dX10_poke_14 : decode cX10_poke 14 = .ok (.iload_n 1, 1) := by decide +kernel
theorem dX10_poke_15 : decode cX10_poke 15 = .ok (.aaload, 1) := by decide +kernel
theorem dX10_poke_16 : decode cX10_poke 16 = .ok (.getfield 84, 3) := by decide +kernel
theorem dX10_poke_19 : decode cX10_poke 19 = .ok (.iload_n 2, 1) := by decide +kernel
theorem dX10_poke_20 : decode cX10_poke 20 = .ok (.iload_n 3, 1) := by decide +kernel
theorem dX10_poke_21 : decode cX10_poke 21 = .ok (.iastore, 1) := by decide +kernel
theorem dX10_poke_22 : decode cX10_poke 22 = .ok (.iconst 1, 1) := by decide +kernel
theorem dX10_poke_23 : decode cX10_poke 23 = .ok (.ireturn, 1) := by decide +kernel
theorem dX10_shared_0 : decode cX10_shared 0 = .ok (.iload_n 1, 1) := by decide +kernel
theorem dX10_shared_1 : decode cX10_shared 1 = .ok (.ifCond .lt 21, 3) := by decide +kernel
theorem dX10_shared_4 : decode cX10_shared 4 = .ok (.iload_n 1, 1) := by decide +kernel
theorem dX10_shared_5 : decode cX10_shared 5 = .ok (.bipush 64, 2) := by decide +kernel
theorem dX10_shared_7 : decode cX10_shared 7 = .ok (.if_icmp .ge 15, 3) := by decide +kernel
theorem dX10_shared_10 : decode cX10_shared 10 = .ok (.aload_n 0, 1) := by decide +kernel
theorem dX10_shared_11 : decode cX10_shared 11 = .ok (.getfield 23, 3) := by decide +kernel
theorem dX10_shared_14 : decode cX10_shared 14 = .ok (.getfield 99, 3) := by decide +kernel
theorem dX10_shared_17 : decode cX10_shared 17 = .ok (.iload_n 1, 1) := by decide +kernel
theorem dX10_shared_18 : decode cX10_shared 18 = .ok (.iaload, 1) := by decide +kernel
theorem dX10_shared_19 : decode cX10_shared 19 = .ok (.goto 4, 3) := by decide +kernel
theorem dX10_shared_22 : decode cX10_shared 22 = .ok (.iconst 0, 1) := by decide +kernel
theorem dX10_shared_23 : decode cX10_shared 23 = .ok (.ireturn, 1) := by decide +kernel
theorem dX10_part_0 : decode cX10_part 0 = .ok (.iload_n 1, 1) := by decide +kernel
theorem dX10_part_1 : decode cX10_part 1 = .ok (.invokestatic 100, 3) := by decide +kernel
theorem dX10_part_4 : decode cX10_part 4 = .ok (.ifCond .eq 18, 3) := by decide +kernel
theorem dX10_part_7 : decode cX10_part 7 = .ok (.iload_n 2, 1) := by decide +kernel
theorem dX10_part_8 : decode cX10_part 8 = .ok (.ifCond .lt 14, 3) := by decide +kernel
theorem dX10_part_11 : decode cX10_part 11 = .ok (.iload_n 2, 1) := by decide +kernel
theorem dX10_part_12 : decode cX10_part 12 = .ok (.iload_n 3, 1) := by decide +kernel
theorem dX10_part_13 : decode cX10_part 13 = .ok (.if_icmp .gt 9, 3) := by decide +kernel
theorem dX10_part_16 : decode cX10_part 16 = .ok (.iload_n 3, 1) := by decide +kernel
theorem dX10_part_17 : decode cX10_part 17 = .ok (.bipush 64, 2) := by decide +kernel
theorem dX10_part_19 : decode cX10_part 19 = .ok (.if_icmp .le 5, 3) := by decide +kernel
theorem dX10_part_22 : decode cX10_part 22 = .ok (.iconst 0, 1) := by decide +kernel
theorem dX10_part_23 : decode cX10_part 23 = .ok (.ireturn, 1) := by decide +kernel
theorem dX10_part_24 : decode cX10_part 24 = .ok (.aload_n 0, 1) := by decide +kernel
theorem dX10_part_25 : decode cX10_part 25 = .ok (.getfield 29, 3) := by decide +kernel
theorem dX10_part_28 : decode cX10_part 28 = .ok (.iload_n 1, 1) := by decide +kernel
theorem dX10_part_29 : decode cX10_part 29 = .ok (.aaload, 1) := by decide +kernel
theorem dX10_part_30 : decode cX10_part 30 = .ok (.iload_n 2, 1) := by decide +kernel
theorem dX10_part_31 : decode cX10_part 31 = .ok (.putfield 104, 3) := by decide +kernel
theorem dX10_part_34 : decode cX10_part 34 = .ok (.aload_n 0, 1) := by decide +kernel
theorem dX10_part_35 : decode cX10_part 35 = .ok (.getfield 29, 3) := by decide +kernel
theorem dX10_part_38 : decode cX10_part 38 = .ok (.iload_n 1, 1) := by decide +kernel
theorem dX10_part_39 : decode cX10_part 39 = .ok (.aaload, 1) := by decide +kernel
theorem dX10_part_40 : decode cX10_part 40 = .ok (.iload_n 3, 1) := by decide +kernel
theorem dX10_part_41 : decode cX10_part 41 = .ok (.putfield 107, 3) := by decide +kernel
theorem dX10_part_44 : decode cX10_part 44 = .ok (.iconst 1, 1) := by decide +kernel
theorem dX10_part_45 : decode cX10_part 45 = .ok (.ireturn, 1) := by decide +kernel
theorem dX10_start_0 : decode cX10_start 0 = .ok (.iload_n 1, 1) := by decide +kernel
theorem dX10_start_1 : decode cX10_start 1 = .ok (.invokestatic 100, 3) := by decide +kernel
theorem dX10_start_4 : decode cX10_start 4 = .ok (.ifCond .ne 5, 3) := by decide +kernel
theorem dX10_start_7 : decode cX10_start 7 = .ok (.iconst 0, 1) := by decide +kernel
theorem dX10_start_8 : decode cX10_start 8 = .ok (.ireturn, 1) := by decide +kernel
theorem dX10_start_9 : decode cX10_start 9 = .ok (.aload_n 0, 1) := by decide +kernel
theorem dX10_start_10 : decode cX10_start 10 = .ok (.getfield 29, 3) := by decide +kernel
theorem dX10_start_13 : decode cX10_start 13 = .ok (.iload_n 1, 1) := by decide +kernel
theorem dX10_start_14 : decode cX10_start 14 = .ok (.aaload, 1) := by decide +kernel
theorem dX10_start_15 : decode cX10_start 15 = .ok (.iload_n 2, 1) := by decide +kernel
theorem dX10_start_16 : decode cX10_start 16 = .ok (.aload_n 0, 1) := by decide +kernel
theorem dX10_start_17 : decode cX10_start 17 = .ok (.getfield 110, 3) := by decide +kernel
theorem dX10_start_20 : decode cX10_start 20 = .ok (.invokevirtual 113, 3) := by decide +kernel
theorem dX10_start_23 : decode cX10_start 23 = .ok (.iconst 1, 1) := by decide +kernel
theorem dX10_start_24 : decode cX10_start 24 = .ok (.ireturn, 1) := by decide +kernel
theorem dX10_run_0 : decode cX10_run 0 = .ok (.iload_n 1, 1) := by decide +kernel
theorem dX10_run_1 : decode cX10_run 1 = .ok (.ifCond .lt 10, 3) := by decide +kernel
theorem dX10_run_4 : decode cX10_run 4 = .ok (.iload_n 1, 1) := by decide +kernel
theorem dX10_run_5 : decode cX10_run 5 = .ok (.sipush 2000, 3) := by decide +kernel
theorem dX10_run_8 : decode cX10_run 8 = .ok (.if_icmp .le 5, 3) := by decide +kernel
theorem dX10_run_11 : decode cX10_run 11 = .ok (.iconst (-1), 1) := by decide +kernel
theorem dX10_run_12 : decode cX10_run 12 = .ok (.ireturn, 1) := by decide +kernel
theorem dX10_run_13 : decode cX10_run 13 = .ok (.iconst 0, 1) := by decide +kernel
theorem dX10_run_14 : decode cX10_run 14 = .ok (.istore_n 2, 1) := by decide +kernel
theorem dX10_run_15 : decode cX10_run 15 = .ok (.iconst 0, 1) := by decide +kernel
theorem dX10_run_16 : decode cX10_run 16 = .ok (.istore_n 3, 1) := by decide +kernel
theorem dX10_run_17 : decode cX10_run 17 = .ok (.iload_n 3, 1) := by decide +kernel
theorem dX10_run_18 : decode cX10_run 18 = .ok (.iload_n 1, 1) := by decide +kernel
theorem dX10_run_19 : decode cX10_run 19 = .ok (.if_icmp .ge 49, 3) := by decide +kernel
theorem dX10_run_22 : decode cX10_run 22 = .ok (.aload_n 0, 1) := by decide +kernel
theorem dX10_run_23 : decode cX10_run 23 = .ok (.getfield 29, 3) := by decide +kernel
theorem dX10_run_26 : decode cX10_run 26 = .ok (.aload_n 0, 1) := by decide +kernel
theorem dX10_run_27 : decode cX10_run 27 = .ok (.getfield 110, 3) := by decide +kernel
theorem dX10_run_30 : decode cX10_run 30 = .ok (.iconst 4, 1) := by decide +kernel
theorem dX10_run_31 : decode cX10_run 31 = .ok (.invokestatic 117, 3) := by decide +kernel
theorem dX10_run_34 : decode cX10_run 34 = .ok (.aaload, 1) := by decide +kernel
theorem dX10_run_35 : decode cX10_run 35 = .ok (.aload_n 0, 1) := by decide +kernel
theorem dX10_run_36 : decode cX10_run 36 = .ok (.getfield 110, 3) := by decide +kernel
theorem dX10_run_39 : decode cX10_run 39 = .ok (.aload_n 0, 1) := by decide +kernel
theorem dX10_run_40 : decode cX10_run 40 = .ok (.getfield 23, 3) := by decide +kernel
theorem dX10_run_43 : decode cX10_run 43 = .ok (.invokevirtual 120, 3) := by decide +kernel
theorem dX10_run_46 : decode cX10_run 46 = .ok (.ifCond .eq 6, 3) := by decide +kernel
theorem dX10_run_49 : decode cX10_run 49 = .ok (.iinc 2 1, 3) := by decide +kernel
theorem dX10_run_52 : decode cX10_run 52 = .ok (.aload_n 0, 1) := by decide +kernel
theorem dX10_run_53 : decode cX10_run 53 = .ok (.dup, 1) := by decide +kernel
theorem dX10_run_54 : decode cX10_run 54 = .ok (.getfield 110, 3) := by decide +kernel
theorem dX10_run_57 : decode cX10_run 57 = .ok (.iconst 1, 1) := by decide +kernel
theorem dX10_run_58 : decode cX10_run 58 = .ok (.iadd, 1) := by decide +kernel
theorem dX10_run_59 : decode cX10_run 59 = .ok (.putfield 110, 3) := by decide +kernel
theorem dX10_run_62 : decode cX10_run 62 = .ok (.iinc 3 1, 3) := by decide +kernel
theorem dX10_run_65 : decode cX10_run 65 = .ok (.goto (-48), 3) := by decide +kernel
theorem dX10_run_68 : decode cX10_run 68 = .ok (.iload_n 2, 1) := by decide +kernel
theorem dX10_run_69 : decode cX10_run 69 = .ok (.ireturn, 1) := by decide +kernel
theorem dX10_now_0 : decode cX10_now 0 = .ok (.aload_n 0, 1) := by decide +kernel
theorem dX10_now_1 : decode cX10_now 1 = .ok (.getfield 110, 3) := by decide +kernel
theorem dX10_now_4 : decode cX10_now 4 = .ok (.ireturn, 1) := by decide +kernel
theorem dX10_register_0 : decode cX10_register 0 = .ok (.iload_n 1, 1) := by decide +kernel
theorem dX10_register_1 : decode cX10_register 1 = .ok (.invokestatic 100, 3) := by decide +kernel
theorem dX10_register_4 : decode cX10_register 4 = .ok (.ifCond .eq 24, 3) := by decide +kernel
theorem dX10_register_7 : decode cX10_register 7 = .ok (.iload_n 2, 1) := by decide +kernel
theorem dX10_register_8 : decode cX10_register 8 = .ok (.invokestatic 124, 3) := by decide +kernel
theorem dX10_register_11 : decode cX10_register 11 = .ok (.ifCond .eq 17, 3) := by decide +kernel
theorem dX10_register_14 : decode cX10_register 14 = .ok (.aload_n 0, 1) := by decide +kernel
theorem dX10_register_15 : decode cX10_register 15 = .ok (.getfield 29, 3) := by decide +kernel
theorem dX10_register_18 : decode cX10_register 18 = .ok (.iload_n 1, 1) := by decide +kernel
theorem dX10_register_19 : decode cX10_register 19 = .ok (.aaload, 1) := by decide +kernel
theorem dX10_register_20 : decode cX10_register 20 = .ok (.getfield 127, 3) := by decide +kernel
theorem dX10_register_23 : decode cX10_register 23 = .ok (.iload_n 2, 1) := by decide +kernel
theorem dX10_register_24 : decode cX10_register 24 = .ok (.iaload, 1) := by decide +kernel
theorem dX10_register_25 : decode cX10_register 25 = .ok (.goto 4, 3) := by decide +kernel
theorem dX10_register_28 : decode cX10_register 28 = .ok (.iconst 0, 1) := by decide +kernel
theorem dX10_register_29 : decode cX10_register 29 = .ok (.ireturn, 1) := by decide +kernel
theorem dX10_state_0 : decode cX10_state 0 = .ok (.iload_n 1, 1) := by decide +kernel
theorem dX10_state_1 : decode cX10_state 1 = .ok (.invokestatic 100, 3) := by decide +kernel
theorem dX10_state_4 : decode cX10_state 4 = .ok (.ifCond .eq 16, 3) := by decide +kernel
theorem dX10_state_7 : decode cX10_state 7 = .ok (.aload_n 0, 1) := by decide +kernel
theorem dX10_state_8 : decode cX10_state 8 = .ok (.getfield 29, 3) := by decide +kernel
theorem dX10_state_11 : decode cX10_state 11 = .ok (.iload_n 1, 1) := by decide +kernel
theorem dX10_state_12 : decode cX10_state 12 = .ok (.aaload, 1) := by decide +kernel
theorem dX10_state_13 : decode cX10_state 13 = .ok (.iload_n 2, 1) := by decide +kernel
theorem dX10_state_14 : decode cX10_state 14 = .ok (.invokevirtual 130, 3) := by decide +kernel
theorem dX10_state_17 : decode cX10_state 17 = .ok (.goto 4, 3) := by decide +kernel
theorem dX10_state_20 : decode cX10_state 20 = .ok (.iconst (-1), 1) := by decide +kernel
theorem dX10_state_21 : decode cX10_state 21 = .ok (.ireturn, 1) := by decide +kernel
theorem dX10_trace_0 : decode cX10_trace 0 = .ok (.iload_n 1, 1) := by decide +kernel
theorem dX10_trace_1 : decode cX10_trace 1 = .ok (.invokestatic 100, 3) := by decide +kernel
theorem dX10_trace_4 : decode cX10_trace 4 = .ok (.ifCond .eq 20, 3) := by decide +kernel
theorem dX10_trace_7 : decode cX10_trace 7 = .ok (.aload_n 0, 1) := by decide +kernel
theorem dX10_trace_8 : decode cX10_trace 8 = .ok (.getfield 29, 3) := by decide +kernel
theorem dX10_trace_11 : decode cX10_trace 11 = .ok (.iload_n 1, 1) := by decide +kernel
theorem dX10_trace_12 : decode cX10_trace 12 = .ok (.aaload, 1) := by decide +kernel
theorem dX10_trace_13 : decode cX10_trace 13 = .ok (.getfield 134, 3) := by decide +kernel
theorem dX10_trace_16 : decode cX10_trace 16 = .ok (.iload_n 2, 1) := by decide +kernel
theorem dX10_trace_17 : decode cX10_trace 17 = .ok (.iload_n 3, 1) := by decide +kernel
theorem dX10_trace_18 : decode cX10_trace 18 = .ok (.invokevirtual 138, 3) := by decide +kernel
theorem dX10_trace_21 : decode cX10_trace 21 = .ok (.goto 4, 3) := by decide +kernel
theorem dX10_trace_24 : decode cX10_trace 24 = .ok (.iconst (-1), 1) := by decide +kernel
theorem dX10_trace_25 : decode cX10_trace 25 = .ok (.ireturn, 1) := by decide +kernel
theorem dX10_isThread_0 : decode cX10_isThread 0 = .ok (.iload_n 0, 1) := by decide +kernel
theorem dX10_isThread_1 : decode cX10_isThread 1 = .ok (.ifCond .lt 12, 3) := by decide +kernel
theorem dX10_isThread_4 : decode cX10_isThread 4 = .ok (.iload_n 0, 1) := by decide +kernel
theorem dX10_isThread_5 : decode cX10_isThread 5 = .ok (.iconst 4, 1) := by decide +kernel
theorem dX10_isThread_6 : decode cX10_isThread 6 = .ok (.if_icmp .ge 7, 3) := by decide +kernel
theorem dX10_isThread_9 : decode cX10_isThread 9 = .ok (.iconst 1, 1) := by decide +kernel
theorem dX10_isThread_10 : decode cX10_isThread 10 = .ok (.goto 4, 3) := by decide +kernel
theorem dX10_isThread_13 : decode cX10_isThread 13 = .ok (.iconst 0, 1) := by decide +kernel
theorem dX10_isThread_14 : decode cX10_isThread 14 = .ok (.ireturn, 1) := by decide +kernel
theorem dX10_isStoreWord_0 : decode cX10_isStoreWord 0 = .ok (.iload_n 0, 1) := by decide +kernel
theorem dX10_isStoreWord_1 : decode cX10_isStoreWord 1 = .ok (.invokestatic 100, 3) := by decide +kernel
theorem dX10_isStoreWord_4 : decode cX10_isStoreWord 4 = .ok (.ifCond .eq 18, 3) := by decide +kernel
theorem dX10_isStoreWord_7 : decode cX10_isStoreWord 7 = .ok (.iload_n 1, 1) := by decide +kernel
theorem dX10_isStoreWord_8 : decode cX10_isStoreWord 8 = .ok (.ifCond .lt 14, 3) := by decide +kernel
theorem dX10_isStoreWord_11 : decode cX10_isStoreWord 11 = .ok (.iload_n 1, 1) := by decide +kernel
theorem dX10_isStoreWord_12 : decode cX10_isStoreWord 12 = .ok (.sipush 128, 3) := by decide +kernel
theorem dX10_isStoreWord_15 : decode cX10_isStoreWord 15 = .ok (.if_icmp .ge 7, 3) := by decide +kernel
theorem dX10_isStoreWord_18 : decode cX10_isStoreWord 18 = .ok (.iconst 1, 1) := by decide +kernel
theorem dX10_isStoreWord_19 : decode cX10_isStoreWord 19 = .ok (.goto 4, 3) := by decide +kernel
theorem dX10_isStoreWord_22 : decode cX10_isStoreWord 22 = .ok (.iconst 0, 1) := by decide +kernel
theorem dX10_isStoreWord_23 : decode cX10_isStoreWord 23 = .ok (.ireturn, 1) := by decide +kernel
theorem dX10_isRegister_0 : decode cX10_isRegister 0 = .ok (.iload_n 0, 1) := by decide +kernel
theorem dX10_isRegister_1 : decode cX10_isRegister 1 = .ok (.ifCond .lt 13, 3) := by decide +kernel
theorem dX10_isRegister_4 : decode cX10_isRegister 4 = .ok (.iload_n 0, 1) := by decide +kernel
theorem dX10_isRegister_5 : decode cX10_isRegister 5 = .ok (.bipush 16, 2) := by decide +kernel
theorem dX10_isRegister_7 : decode cX10_isRegister 7 = .ok (.if_icmp .ge 7, 3) := by decide +kernel
theorem dX10_isRegister_10 : decode cX10_isRegister 10 = .ok (.iconst 1, 1) := by decide +kernel
theorem dX10_isRegister_11 : decode cX10_isRegister 11 = .ok (.goto 4, 3) := by decide +kernel
theorem dX10_isRegister_14 : decode cX10_isRegister 14 = .ok (.iconst 0, 1) := by decide +kernel
theorem dX10_isRegister_15 : decode cX10_isRegister 15 = .ok (.ireturn, 1) := by decide +kernel
end
section
theorem dX11_init_0 : decode cX11_init 0 = .ok (.aload_n 0, 1) := by decide +kernel
theorem dX11_init_1 : decode cX11_init 1 = .ok (.invokespecial 1, 3) := by decide +kernel
theorem dX11_init_4 : decode cX11_init 4 = .ok (.aload_n 0, 1) := by decide +kernel
theorem dX11_init_5 : decode cX11_init 5 = .ok (.sipush 400, 3) := by decide +kernel
theorem dX11_init_8 : decode cX11_init 8 = .ok (.newarray .char, 2) := by decide +kernel
theorem dX11_init_10 : decode cX11_init 10 = .ok (.putfield 7, 3) := by decide +kernel
theorem dX11_init_13 : decode cX11_init 13 = .ok (.aload_n 0, 1) := by decide +kernel
theorem dX11_init_14 : decode cX11_init 14 = .ok (.sipush 128, 3) := by decide +kernel
theorem dX11_init_17 : decode cX11_init 17 = .ok (.newarray .int, 2) := by decide +kernel
theorem dX11_init_19 : decode cX11_init 19 = .ok (.putfield 13, 3) := by decide +kernel
theorem dX11_init_22 : decode cX11_init 22 = .ok (.aload_n 0, 1) := by decide +kernel
theorem dX11_init_23 : decode cX11_init 23 = .ok (.bipush 16, 2) := by decide +kernel
theorem dX11_init_25 : decode cX11_init 25 = .ok (.newarray .long, 2) := by decide +kernel
theorem dX11_init_27 : decode cX11_init 27 = .ok (.putfield 17, 3) := by decide +kernel
theorem dX11_init_30 : decode cX11_init 30 = .ok (.aload_n 0, 1) := by decide +kernel
theorem dX11_init_31 : decode cX11_init 31 = .ok (.bipush 16, 2) := by decide +kernel
theorem dX11_init_33 : decode cX11_init 33 = .ok (.newarray .int, 2) := by decide +kernel
theorem dX11_init_35 : decode cX11_init 35 = .ok (.putfield 21, 3) := by decide +kernel
theorem dX11_init_38 : decode cX11_init 38 = .ok (.aload_n 0, 1) := by decide +kernel
theorem dX11_init_39 : decode cX11_init 39 = .ok (.sipush 128, 3) := by decide +kernel
theorem dX11_init_42 : decode cX11_init 42 = .ok (.newarray .long, 2) := by decide +kernel
theorem dX11_init_44 : decode cX11_init 44 = .ok (.putfield 24, 3) := by decide +kernel
theorem dX11_init_47 : decode cX11_init 47 = .ok (.aload_n 0, 1) := by decide +kernel
theorem dX11_init_48 : decode cX11_init 48 = .ok (.sipush 128, 3) := by decide +kernel
theorem dX11_init_51 : decode cX11_init 51 = .ok (.newarray .int, 2) := by decide +kernel
theorem dX11_init_53 : decode cX11_init 53 = .ok (.putfield 27, 3) := by decide +kernel
theorem dX11_init_56 : decode cX11_init 56 = .ok (.aload_n 0, 1) := by decide +kernel
theorem dX11_init_57 : decode cX11_init 57 = .ok (.sipush 128, 3) := by decide +kernel
theorem dX11_init_60 : decode cX11_init 60 = .ok (.newarray .int, 2) := by decide +kernel
theorem dX11_init_62 : decode cX11_init 62 = .ok (.putfield 30, 3) := by decide +kernel
theorem dX11_init_65 : decode cX11_init 65 = .ok (.aload_n 0, 1) := by decide +kernel
theorem dX11_init_66 : decode cX11_init 66 = .ok (.sipush 512, 3) := by decide +kernel
theorem dX11_init_69 : decode cX11_init 69 = .ok (.newarray .int, 2) := by decide +kernel
theorem dX11_init_71 : decode cX11_init 71 = .ok (.putfield 33, 3) := by decide +kernel
theorem dX11_init_74 : decode cX11_init 74 = .ok (.aload_n 0, 1) := by decide +kernel
theorem dX11_init_75 : decode cX11_init 75 = .ok (.bipush 64, 2) := by decide +kernel
theorem dX11_init_77 : decode cX11_init 77 = .ok (.newarray .int, 2) := by decide +kernel
theorem dX11_init_79 : decode cX11_init 79 = .ok (.putfield 36, 3) := by decide +kernel
theorem dX11_init_82 : decode cX11_init 82 = .ok (.aload_n 0, 1) := by decide +kernel
theorem dX11_init_83 : decode cX11_init 83 = .ok (.iconst 4, 1) := by decide +kernel
theorem dX11_init_84 : decode cX11_init 84 = .ok (.newarray .int, 2) := by decide +kernel
theorem dX11_init_86 : decode cX11_init 86 = .ok (.putfield 39, 3) := by decide +kernel
theorem dX11_init_89 : decode cX11_init 89 = .ok (.aload_n 0, 1) := by decide +kernel
theorem dX11_init_90 : decode cX11_init 90 = .ok (.iconst 4, 1) := by decide +kernel
theorem dX11_init_91 : decode cX11_init 91 = .ok (.newarray .int, 2) := by decide +kernel
theorem dX11_init_93 : decode cX11_init 93 = .ok (.putfield 42, 3) := by decide +kernel
theorem dX11_init_96 : decode cX11_init 96 = .ok (.aload_n 0, 1) := by decide +kernel
theorem dX11_init_97 : decode cX11_init 97 = .ok (.bipush 64, 2) := by decide +kernel
theorem dX11_init_99 : decode cX11_init 99 = .ok (.newarray .int, 2) := by decide +kernel
theorem dX11_init_101 : decode cX11_init 101 = .ok (.putfield 45, 3) := by decide +kernel
theorem dX11_init_104 : decode cX11_init 104 = .ok (.aload_n 0, 1) := by decide +kernel
theorem dX11_init_105 : decode cX11_init 105 = .ok (.iconst 4, 1) := by decide +kernel
theorem dX11_init_106 : decode cX11_init 106 = .ok (.newarray .int, 2) := by decide +kernel
theorem dX11_init_108 : decode cX11_init 108 = .ok (.putfield 48, 3) := by decide +kernel
theorem dX11_init_111 : decode cX11_init 111 = .ok (.aload_n 0, 1) := by decide +kernel
theorem dX11_init_112 : decode cX11_init 112 = .ok (.iconst 4, 1) := by decide +kernel
theorem dX11_init_113 : decode cX11_init 113 = .ok (.newarray .int, 2) := by decide +kernel
theorem dX11_init_115 : decode cX11_init 115 = .ok (.putfield 51, 3) := by decide +kernel
theorem dX11_init_118 : decode cX11_init 118 = .ok (.aload_n 0, 1) := by decide +kernel
theorem dX11_init_119 : decode cX11_init 119 = .ok (.iconst 4, 1) := by decide +kernel
theorem dX11_init_120 : decode cX11_init 120 = .ok (.newarray .int, 2) := by decide +kernel
theorem dX11_init_122 : decode cX11_init 122 = .ok (.putfield 54, 3) := by decide +kernel
theorem dX11_init_125 : decode cX11_init 125 = .ok (.aload_n 0, 1) := by decide +kernel
theorem dX11_init_126 : decode cX11_init 126 = .ok (.iconst 4, 1) := by decide +kernel
theorem dX11_init_127 : decode cX11_init 127 = .ok (.newarray .int, 2) := by decide +kernel
theorem dX11_init_129 : decode cX11_init 129 = .ok (.putfield 57, 3) := by decide +kernel
theorem dX11_init_132 : decode cX11_init 132 = .ok (.aload_n 0, 1) := by decide +kernel
theorem dX11_init_133 : decode cX11_init 133 = .ok (.bipush 16, 2) := by decide +kernel
theorem dX11_init_135 : decode cX11_init 135 = .ok (.newarray .int, 2) := by decide +kernel
theorem dX11_init_137 : decode cX11_init 137 = .ok (.putfield 60, 3) := by decide +kernel
theorem dX11_init_140 : decode cX11_init 140 = .ok (.aload_n 0, 1) := by decide +kernel
theorem dX11_init_141 : decode cX11_init 141 = .ok (.sipush 192, 3) := by decide +kernel
theorem dX11_init_144 : decode cX11_init 144 = .ok (.newarray .int, 2) := by decide +kernel
theorem dX11_init_146 : decode cX11_init 146 = .ok (.putfield 63, 3) := by decide +kernel
theorem dX11_init_149 : decode cX11_init 149 = .ok (.aload_n 0, 1) := by decide +kernel
theorem dX11_init_150 : decode cX11_init 150 = .ok (.iload_n 1, 1) := by decide +kernel
theorem dX11_init_151 : decode cX11_init 151 = .ok (.iconst 1, 1) := by decide +kernel
theorem dX11_init_152 : decode cX11_init 152 = .ok (.if_icmp .ge 7, 3) := by decide +kernel
theorem dX11_init_155 : decode cX11_init 155 = .ok (.iconst 1, 1) := by decide +kernel
theorem dX11_init_156 : decode cX11_init 156 = .ok (.goto 15, 3) := by decide +kernel
theorem dX11_init_159 : decode cX11_init 159 = .ok (.iload_n 1, 1) := by decide +kernel
theorem dX11_init_160 : decode cX11_init 160 = .ok (.bipush 8, 2) := by decide +kernel
theorem dX11_init_162 : decode cX11_init 162 = .ok (.if_icmp .le 8, 3) := by decide +kernel
theorem dX11_init_165 : decode cX11_init 165 = .ok (.bipush 8, 2) := by decide +kernel
theorem dX11_init_167 : decode cX11_init 167 = .ok (.goto 4, 3) := by decide +kernel
theorem dX11_init_170 : decode cX11_init 170 = .ok (.iload_n 1, 1) := by decide +kernel
theorem dX11_init_171 : decode cX11_init 171 = .ok (.putfield 66, 3) := by decide +kernel
theorem dX11_init_174 : decode cX11_init 174 = .ok (.return_, 1) := by decide +kernel
theorem dX11_thrown_0 : decode cX11_thrown 0 = .ok (.aload_n 0, 1) := by decide +kernel
theorem dX11_thrown_1 : decode cX11_thrown 1 = .ok (.getfield 70, 3) := by decide +kernel
theorem dX11_thrown_4 : decode cX11_thrown 4 = .ok (.ireturn, 1) := by decide +kernel
theorem dX11_refuse_0 : decode cX11_refuse 0 = .ok (.aload_n 0, 1) := by decide +kernel
theorem dX11_refuse_1 : decode cX11_refuse 1 = .ok (.iload_n 1, 1) := by decide +kernel
theorem dX11_refuse_2 : decode cX11_refuse 2 = .ok (.putfield 70, 3) := by decide +kernel
theorem dX11_refuse_5 : decode cX11_refuse 5 = .ok (.iconst 0, 1) := by decide +kernel
theorem dX11_refuse_6 : decode cX11_refuse 6 = .ok (.ireturn, 1) := by decide +kernel
theorem dX11_isCharacter_0 : decode cX11_isCharacter 0 = .ok (.lload_n 0, 1) := by decide +kernel
theorem dX11_isCharacter_1 : decode cX11_isCharacter 1 = .ok (.ldc2_w 73, 3) := by decide +kernel
theorem dX11_isCharacter_4 : decode cX11_isCharacter 4 = .ok (.lcmp, 1) := by decide +kernel
theorem dX11_isCharacter_5 : decode cX11_isCharacter 5 = .ok (.ifCond .eq 19, 3) := by decide +kernel
theorem dX11_isCharacter_8 : decode cX11_isCharacter 8 = .ok (.lload_n 0, 1) := by decide +kernel
theorem dX11_isCharacter_9 : decode cX11_isCharacter 9 = .ok (.ldc2_w 75, 3) := by decide +kernel
theorem dX11_isCharacter_12 : decode cX11_isCharacter 12 = .ok (.lcmp, 1) := by decide +kernel
theorem dX11_isCharacter_13 : decode cX11_isCharacter 13 = .ok (.ifCond .lt 15, 3) := by decide +kernel
theorem dX11_isCharacter_16 : decode cX11_isCharacter 16 = .ok (.lload_n 0, 1) := by decide +kernel
theorem dX11_isCharacter_17 : decode cX11_isCharacter 17 = .ok (.ldc2_w 77, 3) := by decide +kernel
theorem dX11_isCharacter_20 : decode cX11_isCharacter 20 = .ok (.lcmp, 1) := by decide +kernel
theorem dX11_isCharacter_21 : decode cX11_isCharacter 21 = .ok (.ifCond .gt 7, 3) := by decide +kernel
theorem dX11_isCharacter_24 : decode cX11_isCharacter 24 = .ok (.iconst 1, 1) := by decide +kernel
theorem dX11_isCharacter_25 : decode cX11_isCharacter 25 = .ok (.goto 4, 3) := by decide +kernel
theorem dX11_isCharacter_28 : decode cX11_isCharacter 28 = .ok (.iconst 0, 1) := by decide +kernel
theorem dX11_isCharacter_29 : decode cX11_isCharacter 29 = .ok (.ireturn, 1) := by decide +kernel
theorem dX11_type_0 : decode cX11_type 0 = .ok (.iload_n 3, 1) := by decide +kernel
theorem dX11_type_1 : decode cX11_type 1 = .ok (.iconst 1, 1) := by decide +kernel
theorem dX11_type_2 : decode cX11_type 2 = .ok (.if_icmp .lt 13, 3) := by decide +kernel
theorem dX11_type_5 : decode cX11_type 5 = .ok (.iload_n 3, 1) := by decide +kernel
theorem dX11_type_6 : decode cX11_type 6 = .ok (.bipush 8, 2) := by decide +kernel
theorem dX11_type_8 : decode cX11_type 8 = .ok (.if_icmp .gt 7, 3) := by decide +kernel
theorem dX11_type_11 : decode cX11_type 11 = .ok (.iconst 1, 1) := by decide +kernel
theorem dX11_type_12 : decode cX11_type 12 = .ok (.goto 4, 3) := by decide +kernel
theorem dX11_type_15 : decode cX11_type 15 = .ok (.iconst 0, 1) := by decide +kernel
theorem dX11_type_16 : decode cX11_type 16 = .ok (.istore 4, 2) := by decide +kernel
theorem dX11_type_18 : decode cX11_type 18 = .ok (.iconst 0, 1) := by decide +kernel
theorem dX11_type_19 : decode cX11_type 19 = .ok (.istore 5, 2) := by decide +kernel
theorem dX11_type_21 : decode cX11_type 21 = .ok (.iload 5, 2) := by decide +kernel
theorem dX11_type_23 : decode cX11_type 23 = .ok (.iload_n 3, 1) := by decide +kernel
theorem dX11_type_24 : decode cX11_type 24 = .ok (.if_icmp .ge 30, 3) := by decide +kernel
theorem dX11_type_27 : decode cX11_type 27 = .ok (.iload 4, 2) := by decide +kernel
theorem dX11_type_29 : decode cX11_type 29 = .ok (.ifCond .eq 25, 3) := by decide +kernel
theorem dX11_type_32 : decode cX11_type 32 = .ok (.lload_n 1, 1) := by decide +kernel
theorem dX11_type_33 : decode cX11_type 33 = .ok (.bipush 8, 2) := by decide +kernel
theorem dX11_type_35 : decode cX11_type 35 = .ok (.iload 5, 2) := by decide +kernel
theorem dX11_type_37 : decode cX11_type 37 = .ok (.imul, 1) := by decide +kernel
theorem dX11_type_38 : decode cX11_type 38 = .ok (.lshr, 1) := by decide +kernel
theorem dX11_type_39 : decode cX11_type 39 = .ok (.ldc2_w 79, 3) := by decide +kernel
theorem dX11_type_42 : decode cX11_type 42 = .ok (.land, 1) := by decide +kernel
theorem dX11_type_43 : decode cX11_type 43 = .ok (.invokestatic 81, 3) := by decide +kernel
theorem dX11_type_46 : decode cX11_type 46 = .ok (.istore 4, 2) := by decide +kernel
theorem dX11_type_48 : decode cX11_type 48 = .ok (.iinc 5 1, 3) := by decide +kernel
theorem dX11_type_51 : decode cX11_type 51 = .ok (.goto (-30), 3) := by decide +kernel
theorem dX11_type_54 : decode cX11_type 54 = .ok (.aload_n 0, 1) := by decide +kernel
theorem dX11_type_55 : decode cX11_type 55 = .ok (.iload 4, 2) := by decide +kernel
theorem dX11_type_57 : decode cX11_type 57 = .ok (.ifCond .ne 7, 3) := by decide +kernel
theorem dX11_type_60 : decode cX11_type 60 = .ok (.iconst 1, 1) := by decide +kernel
theorem dX11_type_61 : decode cX11_type 61 = .ok (.goto 20, 3) := by decide +kernel
theorem dX11_type_64 : decode cX11_type 64 = .ok (.aload_n 0, 1) := by decide +kernel
theorem dX11_type_65 : decode cX11_type 65 = .ok (.getfield 85, 3) := by decide +kernel
theorem dX11_type_68 : decode cX11_type 68 = .ok (.iload_n 3, 1) := by decide +kernel
theorem dX11_type_69 : decode cX11_type 69 = .ok (.iadd, 1) := by decide +kernel
theorem dX11_type_70 : decode cX11_type 70 = .ok (.sipush 400, 3) := by decide +kernel
theorem dX11_type_73 : decode cX11_type 73 = .ok (.if_icmp .le 7, 3) := by decide +kernel
theorem dX11_type_76 : decode cX11_type 76 = .ok (.iconst 2, 1) := by decide +kernel
theorem dX11_type_77 : decode cX11_type 77 = .ok (.goto 4, 3) := by decide +kernel
theorem dX11_type_80 : decode cX11_type 80 = .ok (.iconst 0, 1) := by decide +kernel
theorem dX11_type_81 : decode cX11_type 81 = .ok (.putfield 70, 3) := by decide +kernel
theorem dX11_type_84 : decode cX11_type 84 = .ok (.iconst 0, 1) := by decide +kernel
theorem dX11_type_85 : decode cX11_type 85 = .ok (.istore 5, 2) := by decide +kernel
theorem dX11_type_87 : decode cX11_type 87 = .ok (.iload 5, 2) := by decide +kernel
theorem dX11_type_89 : decode cX11_type 89 = .ok (.iload_n 3, 1) := by decide +kernel
theorem dX11_type_90 : decode cX11_type 90 = .ok (.if_icmp .ge 41, 3) := by decide +kernel
theorem dX11_type_93 : decode cX11_type 93 = .ok (.aload_n 0, 1) := by decide +kernel
theorem dX11_type_94 : decode cX11_type 94 = .ok (.getfield 70, 3) := by decide +kernel
theorem dX11_type_97 : decode cX11_type 97 = .ok (.ifCond .ne 34, 3) := by decide +kernel
theorem dX11_type_100 : decode cX11_type 100 = .ok (.aload_n 0, 1) := by decide +kernel
theorem dX11_type_101 : decode cX11_type 101 = .ok (.getfield 7, 3) := by decide +kernel
theorem dX11_type_104 : decode cX11_type 104 = .ok (.aload_n 0, 1) := by decide +kernel
theorem dX11_type_105 : decode cX11_type 105 = .ok (.getfield 85, 3) := by decide +kernel
theorem dX11_type_108 : decode cX11_type 108 = .ok (.iload 5, 2) := by decide +kernel
theorem dX11_type_110 : decode cX11_type 110 = .ok (.iadd, 1) := by decide +kernel
theorem dX11_type_111 : decode cX11_type 111 = .ok (.lload_n 1, 1) := by decide +kernel
theorem dX11_type_112 : decode cX11_type 112 = .ok (.bipush 8, 2) := by decide +kernel
theorem dX11_type_114 : decode cX11_type 114 = .ok (.iload 5, 2) := by decide +kernel
theorem dX11_type_116 : decode cX11_type 116 = .ok (.imul, 1) := by decide +kernel
theorem dX11_type_117 : decode cX11_type 117 = .ok (.lshr, 1) := by decide +kernel
theorem dX11_type_118 : decode cX11_type 118 = .ok (.ldc2_w 79, 3) := by decide +kernel
theorem dX11_type_121 : decode cX11_type 121 = .ok (.land, 1) := by decide +kernel
theorem dX11_type_122 : decode cX11_type 122 = .ok (.l2i, 1) := by decide +kernel
theorem dX11_type_123 : decode cX11_type 123 = .ok (.i2c, 1) := by decide +kernel
theorem dX11_type_124 : decode cX11_type 124 = .ok (.castore, 1) := by decide +kernel
theorem dX11_type_125 : decode cX11_type 125 = .ok (.iinc 5 1, 3) := by decide +kernel
theorem dX11_type_128 : decode cX11_type 128 = .ok (.goto (-41), 3) := by decide +kernel
theorem dX11_type_131 : decode cX11_type 131 = .ok (.aload_n 0, 1) := by decide +kernel
theorem dX11_type_132 : decode cX11_type 132 = .ok (.dup, 1) := by decide +kernel
theorem dX11_type_133 : decode cX11_type 133 = .ok (.getfield 85, 3) := by decide +kernel
theorem dX11_type_136 : decode cX11_type 136 = .ok (.aload_n 0, 1) := by decide +kernel
theorem dX11_type_137 : decode cX11_type 137 = .ok (.getfield 70, 3) := by decide +kernel
theorem dX11_type_140 : decode cX11_type 140 = .ok (.ifCond .ne 7, 3) := by decide +kernel
theorem dX11_type_143 : decode cX11_type 143 = .ok (.iload_n 3, 1) := by decide +kernel
theorem dX11_type_144 : decode cX11_type 144 = .ok (.goto 4, 3) := by decide +kernel
theorem dX11_type_147 : decode cX11_type 147 = .ok (.iconst 0, 1) := by decide +kernel
theorem dX11_type_148 : decode cX11_type 148 = .ok (.iadd, 1) := by decide +kernel
theorem dX11_type_149 : decode cX11_type 149 = .ok (.putfield 85, 3) := by decide +kernel
theorem dX11_type_152 : decode cX11_type 152 = .ok (.aload_n 0, 1) := by decide +kernel
theorem dX11_type_153 : decode cX11_type 153 = .ok (.getfield 70, 3) := by decide +kernel
theorem dX11_type_156 : decode cX11_type 156 = .ok (.ifCond .ne 10, 3) := by decide +kernel
theorem dX11_type_159 : decode cX11_type 159 = .ok (.aload_n 0, 1) := by decide +kernel
theorem dX11_type_160 : decode cX11_type 160 = .ok (.getfield 85, 3) := by decide +kernel
theorem dX11_type_163 : decode cX11_type 163 = .ok (.goto 4, 3) := by decide +kernel
theorem dX11_type_166 : decode cX11_type 166 = .ok (.iconst 0, 1) := by decide +kernel
theorem dX11_type_167 : decode cX11_type 167 = .ok (.ireturn, 1) := by decide +kernel
theorem dX11_clear_0 : decode cX11_clear 0 = .ok (.aload_n 0, 1) := by decide +kernel
theorem dX11_clear_1 : decode cX11_clear 1 = .ok (.iconst 0, 1) := by decide +kernel
theorem dX11_clear_2 : decode cX11_clear 2 = .ok (.putfield 70, 3) := by decide +kernel
theorem dX11_clear_5 : decode cX11_clear 5 = .ok (.aload_n 0, 1) := by decide +kernel
theorem dX11_clear_6 : decode cX11_clear 6 = .ok (.getfield 85, 3) := by decide +kernel
theorem dX11_clear_9 : decode cX11_clear 9 = .ok (.istore_n 1, 1) := by decide +kernel
theorem dX11_clear_10 : decode cX11_clear 10 = .ok (.aload_n 0, 1) := by decide +kernel
theorem dX11_clear_11 : decode cX11_clear 11 = .ok (.iconst 0, 1) := by decide +kernel
theorem dX11_clear_12 : decode cX11_clear 12 = .ok (.putfield 85, 3) := by decide +kernel
theorem dX11_clear_15 : decode cX11_clear 15 = .ok (.iload_n 1, 1) := by decide +kernel
theorem dX11_clear_16 : decode cX11_clear 16 = .ok (.ireturn, 1) := by decide +kernel
theorem dX11_character_0 : decode cX11_character 0 = .ok (.iload_n 1, 1) := by decide +kernel
theorem dX11_character_1 : decode cX11_character 1 = .ok (.aload_n 0, 1) := by decide +kernel
theorem dX11_character_2 : decode cX11_character 2 = .ok (.getfield 85, 3) := by decide +kernel
theorem dX11_character_5 : decode cX11_character 5 = .ok (.if_icmp .ge 12, 3) := by decide +kernel
theorem dX11_character_8 : decode cX11_character 8 = .ok (.aload_n 0, 1) := by decide +kernel
theorem dX11_character_9 : decode cX11_character 9 = .ok (.getfield 7, 3) := by decide +kernel
theorem dX11_character_12 : decode cX11_character 12 = .ok (.iload_n 1, 1) := by decide +kernel
theorem dX11_character_13 : decode cX11_character 13 = .ok (.caload, 1) := by decide +kernel
theorem dX11_character_14 : decode cX11_character 14 = .ok (.goto 5, 3) := by decide +kernel
theorem dX11_character_17 : decode cX11_character 17 = .ok (.bipush 10, 2) := by decide +kernel
theorem dX11_character_19 : decode cX11_character 19 = .ok (.ireturn, 1) := by decide +kernel
theorem dX11_isLetter_0 : decode cX11_isLetter 0 = .ok (.iload_n 0, 1) := by decide +kernel
theorem dX11_isLetter_1 : decode cX11_isLetter 1 = .ok (.bipush 97, 2) := by decide +kernel
theorem dX11_isLetter_3 : decode cX11_isLetter 3 = .ok (.if_icmp .lt 13, 3) := by decide +kernel
theorem dX11_isLetter_6 : decode cX11_isLetter 6 = .ok (.iload_n 0, 1) := by decide +kernel
theorem dX11_isLetter_7 : decode cX11_isLetter 7 = .ok (.bipush 122, 2) := by decide +kernel
theorem dX11_isLetter_9 : decode cX11_isLetter 9 = .ok (.if_icmp .gt 7, 3) := by decide +kernel
theorem dX11_isLetter_12 : decode cX11_isLetter 12 = .ok (.iconst 1, 1) := by decide +kernel
theorem dX11_isLetter_13 : decode cX11_isLetter 13 = .ok (.goto 4, 3) := by decide +kernel
theorem dX11_isLetter_16 : decode cX11_isLetter 16 = .ok (.iconst 0, 1) := by decide +kernel
theorem dX11_isLetter_17 : decode cX11_isLetter 17 = .ok (.ireturn, 1) := by decide +kernel
theorem dX11_isDigit_0 : decode cX11_isDigit 0 = .ok (.iload_n 0, 1) := by decide +kernel
theorem dX11_isDigit_1 : decode cX11_isDigit 1 = .ok (.bipush 48, 2) := by decide +kernel
theorem dX11_isDigit_3 : decode cX11_isDigit 3 = .ok (.if_icmp .lt 13, 3) := by decide +kernel
theorem dX11_isDigit_6 : decode cX11_isDigit 6 = .ok (.iload_n 0, 1) := by decide +kernel
theorem dX11_isDigit_7 : decode cX11_isDigit 7 = .ok (.bipush 57, 2) := by decide +kernel
theorem dX11_isDigit_9 : decode cX11_isDigit 9 = .ok (.if_icmp .gt 7, 3) := by decide +kernel
theorem dX11_isDigit_12 : decode cX11_isDigit 12 = .ok (.iconst 1, 1) := by decide +kernel
theorem dX11_isDigit_13 : decode cX11_isDigit 13 = .ok (.goto 4, 3) := by decide +kernel
theorem dX11_isDigit_16 : decode cX11_isDigit 16 = .ok (.iconst 0, 1) := by decide +kernel
theorem dX11_isDigit_17 : decode cX11_isDigit 17 = .ok (.ireturn, 1) := by decide +kernel
theorem dX11_skip_0 : decode cX11_skip 0 = .ok (.aload_n 0, 1) := by decide +kernel
theorem dX11_skip_1 : decode cX11_skip 1 = .ok (.aload_n 0, 1) := by decide +kernel
theorem dX11_skip_2 : decode cX11_skip 2 = .ok (.getfield 88, 3) := by decide +kernel
theorem dX11_skip_5 : decode cX11_skip 5 = .ok (.invokevirtual 91, 3) := by decide +kernel
theorem dX11_skip_8 : decode cX11_skip 8 = .ok (.bipush 32, 2) := by decide +kernel
theorem dX11_skip_10 : decode cX11_skip 10 = .ok (.if_icmp .ne 16, 3) := by decide +kernel
theorem dX11_skip_13 : decode cX11_skip 13 = .ok (.aload_n 0, 1) := by decide +kernel
theorem dX11_skip_14 : decode cX11_skip 14 = .ok (.dup, 1) := by decide +kernel
theorem dX11_skip_15 : decode cX11_skip 15 = .ok (.getfield 88, 3) := by decide +kernel
theorem dX11_skip_18 : decode cX11_skip 18 = .ok (.iconst 1, 1) := by decide +kernel
theorem dX11_skip_19 : decode cX11_skip 19 = .ok (.iadd, 1) := by decide +kernel
theorem dX11_skip_20 : decode cX11_skip 20 = .ok (.putfield 88, 3) := by decide +kernel
theorem dX11_skip_23 : decode cX11_skip 23 = .ok (.goto (-23), 3) := by decide +kernel
theorem dX11_skip_26 : decode cX11_skip 26 = .ok (.return_, 1) := by decide +kernel
theorem dX11_isEnd_0 : decode cX11_isEnd 0 = .ok (.aload_n 0, 1) := by decide +kernel
theorem dX11_isEnd_1 : decode cX11_isEnd 1 = .ok (.aload_n 0, 1) := by decide +kernel
theorem dX11_isEnd_2 : decode cX11_isEnd 2 = .ok (.getfield 88, 3) := by decide +kernel
theorem dX11_isEnd_5 : decode cX11_isEnd 5 = .ok (.invokevirtual 91, 3) := by decide +kernel
theorem dX11_isEnd_8 : decode cX11_isEnd 8 = .ok (.bipush 10, 2) := by decide +kernel
theorem dX11_isEnd_10 : decode cX11_isEnd 10 = .ok (.if_icmp .eq 16, 3) := by decide +kernel
theorem dX11_isEnd_13 : decode cX11_isEnd 13 = .ok (.aload_n 0, 1) := by decide +kernel
theorem dX11_isEnd_14 : decode cX11_isEnd 14 = .ok (.aload_n 0, 1) := by decide +kernel
theorem dX11_isEnd_15 : decode cX11_isEnd 15 = .ok (.getfield 88, 3) := by decide +kernel
theorem dX11_isEnd_18 : decode cX11_isEnd 18 = .ok (.invokevirtual 91, 3) := by decide +kernel
theorem dX11_isEnd_21 : decode cX11_isEnd 21 = .ok (.bipush 59, 2) := by decide +kernel
theorem dX11_isEnd_23 : decode cX11_isEnd 23 = .ok (.if_icmp .ne 7, 3) := by decide +kernel
theorem dX11_isEnd_26 : decode cX11_isEnd 26 = .ok (.iconst 1, 1) := by decide +kernel
theorem dX11_isEnd_27 : decode cX11_isEnd 27 = .ok (.goto 4, 3) := by decide +kernel
theorem dX11_isEnd_30 : decode cX11_isEnd 30 = .ok (.iconst 0, 1) := by decide +kernel
theorem dX11_isEnd_31 : decode cX11_isEnd 31 = .ok (.ireturn, 1) := by decide +kernel
theorem dX11_letters_0 : decode cX11_letters 0 = .ok (.aload_n 0, 1) := by decide +kernel
theorem dX11_letters_1 : decode cX11_letters 1 = .ok (.invokevirtual 95, 3) := by decide +kernel
theorem dX11_letters_4 : decode cX11_letters 4 = .ok (.aload_n 0, 1) := by decide +kernel
theorem dX11_letters_5 : decode cX11_letters 5 = .ok (.getfield 88, 3) := by decide +kernel
theorem dX11_letters_8 : decode cX11_letters 8 = .ok (.istore_n 1, 1) := by decide +kernel
theorem dX11_letters_9 : decode cX11_letters 9 = .ok (.lconst 0, 1) := by decide +kernel
theorem dX11_letters_10 : decode cX11_letters 10 = .ok (.lstore_n 2, 1) := by decide +kernel
theorem dX11_letters_11 : decode cX11_letters 11 = .ok (.aload_n 0, 1) := by decide +kernel
theorem dX11_letters_12 : decode cX11_letters 12 = .ok (.aload_n 0, 1) := by decide +kernel
theorem dX11_letters_13 : decode cX11_letters 13 = .ok (.getfield 88, 3) := by decide +kernel
theorem dX11_letters_16 : decode cX11_letters 16 = .ok (.invokevirtual 91, 3) := by decide +kernel
theorem dX11_letters_19 : decode cX11_letters 19 = .ok (.invokestatic 98, 3) := by decide +kernel
theorem dX11_letters_22 : decode cX11_letters 22 = .ok (.ifCond .eq 53, 3) := by decide +kernel
theorem dX11_letters_25 : decode cX11_letters 25 = .ok (.aload_n 0, 1) := by decide +kernel
theorem dX11_letters_26 : decode cX11_letters 26 = .ok (.getfield 88, 3) := by decide +kernel
theorem dX11_letters_29 : decode cX11_letters 29 = .ok (.iload_n 1, 1) := by decide +kernel
theorem dX11_letters_30 : decode cX11_letters 30 = .ok (.isub, 1) := by decide +kernel
theorem dX11_letters_31 : decode cX11_letters 31 = .ok (.bipush 8, 2) := by decide +kernel
theorem dX11_letters_33 : decode cX11_letters 33 = .ok (.if_icmp .ge 27, 3) := by decide +kernel
theorem dX11_letters_36 : decode cX11_letters 36 = .ok (.lload_n 2, 1) := by decide +kernel
theorem dX11_letters_37 : decode cX11_letters 37 = .ok (.aload_n 0, 1) := by decide +kernel
theorem dX11_letters_38 : decode cX11_letters 38 = .ok (.aload_n 0, 1) := by decide +kernel
theorem dX11_letters_39 : decode cX11_letters 39 = .ok (.getfield 88, 3) := by decide +kernel
theorem dX11_letters_42 : decode cX11_letters 42 = .ok (.invokevirtual 91, 3) := by decide +kernel
theorem dX11_letters_45 : decode cX11_letters 45 = .ok (.i2l, 1) := by decide +kernel
theorem dX11_letters_46 : decode cX11_letters 46 = .ok (.bipush 8, 2) := by decide +kernel
theorem dX11_letters_48 : decode cX11_letters 48 = .ok (.aload_n 0, 1) := by decide +kernel
theorem dX11_letters_49 : decode cX11_letters 49 = .ok (.getfield 88, 3) := by decide +kernel
theorem dX11_letters_52 : decode cX11_letters 52 = .ok (.iload_n 1, 1) := by decide +kernel
theorem dX11_letters_53 : decode cX11_letters 53 = .ok (.isub, 1) := by decide +kernel
theorem dX11_letters_54 : decode cX11_letters 54 = .ok (.imul, 1) := by decide +kernel
theorem dX11_letters_55 : decode cX11_letters 55 = .ok (.lshl, 1) := by decide +kernel
theorem dX11_letters_56 : decode cX11_letters 56 = .ok (.lor, 1) := by decide +kernel
theorem dX11_letters_57 : decode cX11_letters 57 = .ok (.goto 4, 3) := by decide +kernel
theorem dX11_letters_60 : decode cX11_letters 60 = .ok (.lconst 0, 1) := by decide +kernel
theorem dX11_letters_61 : decode cX11_letters 61 = .ok (.lstore_n 2, 1) := by decide +kernel
theorem dX11_letters_62 : decode cX11_letters 62 = .ok (.aload_n 0, 1) := by decide +kernel
theorem dX11_letters_63 : decode cX11_letters 63 = .ok (.dup, 1) := by decide +kernel
theorem dX11_letters_64 : decode cX11_letters 64 = .ok (.getfield 88, 3) := by decide +kernel
theorem dX11_letters_67 : decode cX11_letters 67 = .ok (.iconst 1, 1) := by decide +kernel
theorem dX11_letters_68 : decode cX11_letters 68 = .ok (.iadd, 1) := by decide +kernel
theorem dX11_letters_69 : decode cX11_letters 69 = .ok (.putfield 88, 3) := by decide +kernel
theorem dX11_letters_72 : decode cX11_letters 72 = .ok (.goto (-61), 3) := by decide +kernel
theorem dX11_letters_75 : decode cX11_letters 75 = .ok (.aload_n 0, 1) := by decide +kernel
theorem dX11_letters_76 : decode cX11_letters 76 = .ok (.getfield 88, 3) := by decide +kernel
theorem dX11_letters_79 : decode cX11_letters 79 = .ok (.iload_n 1, 1) := by decide +kernel
theorem dX11_letters_80 : decode cX11_letters 80 = .ok (.isub, 1) := by decide +kernel
theorem dX11_letters_81 : decode cX11_letters 81 = .ok (.bipush 8, 2) := by decide +kernel
theorem dX11_letters_83 : decode cX11_letters 83 = .ok (.if_icmp .le 7, 3) := by decide +kernel
theorem dX11_letters_86 : decode cX11_letters 86 = .ok (.lconst 0, 1) := by decide +kernel
theorem dX11_letters_87 : decode cX11_letters 87 = .ok (.goto 4, 3) := by decide +kernel
theorem dX11_letters_90 : decode cX11_letters 90 = .ok (.lload_n 2, 1) := by decide +kernel
theorem dX11_letters_91 : decode cX11_letters 91 = .ok (.lreturn, 1) := by decide +kernel
theorem dX11_need_0 : decode cX11_need 0 = .ok (.aload_n 0, 1) := by decide +kernel
theorem dX11_need_1 : decode cX11_need 1 = .ok (.invokevirtual 95, 3) := by decide +kernel
theorem dX11_need_4 : decode cX11_need 4 = .ok (.aload_n 0, 1) := by decide +kernel
theorem dX11_need_5 : decode cX11_need 5 = .ok (.aload_n 0, 1) := by decide +kernel
theorem dX11_need_6 : decode cX11_need 6 = .ok (.getfield 102, 3) := by decide +kernel
theorem dX11_need_9 : decode cX11_need 9 = .ok (.ifCond .ne 15, 3) := by decide +kernel
theorem dX11_need_12 : decode cX11_need 12 = .ok (.aload_n 0, 1) := by decide +kernel
theorem dX11_need_13 : decode cX11_need 13 = .ok (.aload_n 0, 1) := by decide +kernel
theorem dX11_need_14 : decode cX11_need 14 = .ok (.getfield 88, 3) := by decide +kernel
theorem dX11_need_17 : decode cX11_need 17 = .ok (.invokevirtual 91, 3) := by decide +kernel
theorem dX11_need_20 : decode cX11_need 20 = .ok (.iload_n 1, 1) := by decide +kernel
theorem dX11_need_21 : decode cX11_need 21 = .ok (.if_icmp .eq 7, 3) := by decide +kernel
theorem dX11_need_24 : decode cX11_need 24 = .ok (.iconst 1, 1) := by decide +kernel
theorem dX11_need_25 : decode cX11_need 25 = .ok (.goto 4, 3) := by decide +kernel
theorem dX11_need_28 : decode cX11_need 28 = .ok (.iconst 0, 1) := by decide +kernel
theorem dX11_need_29 : decode cX11_need 29 = .ok (.putfield 102, 3) := by decide +kernel
theorem dX11_need_32 : decode cX11_need 32 = .ok (.aload_n 0, 1) := by decide +kernel
theorem dX11_need_33 : decode cX11_need 33 = .ok (.getfield 102, 3) := by decide +kernel
theorem dX11_need_36 : decode cX11_need 36 = .ok (.ifCond .ne 13, 3) := by decide +kernel
theorem dX11_need_39 : decode cX11_need 39 = .ok (.aload_n 0, 1) := by decide +kernel
theorem dX11_need_40 : decode cX11_need 40 = .ok (.dup, 1) := by decide +kernel
theorem dX11_need_41 : decode cX11_need 41 = .ok (.getfield 88, 3) := by decide +kernel
theorem dX11_need_44 : decode cX11_need 44 = .ok (.iconst 1, 1) := by decide +kernel
theorem dX11_need_45 : decode cX11_need 45 = .ok (.iadd, 1) := by decide +kernel
theorem dX11_need_46 : decode cX11_need 46 = .ok (.putfield 88, 3) := by decide +kernel
theorem dX11_need_49 : decode cX11_need 49 = .ok (.return_, 1) := by decide +kernel
theorem dX11_takeRegister_0 : decode cX11_takeRegister 0 = .ok (.aload_n 0, 1) := by decide +kernel
theorem dX11_takeRegister_1 : decode cX11_takeRegister 1 = .ok (.invokevirtual 95, 3) := by decide +kernel
theorem dX11_takeRegister_4 : decode cX11_takeRegister 4 = .ok (.aload_n 0, 1) := by decide +kernel
theorem dX11_takeRegister_5 : decode cX11_takeRegister 5 = .ok (.aload_n 0, 1) := by decide +kernel
theorem dX11_takeRegister_6 : decode cX11_takeRegister 6 = .ok (.getfield 102, 3) := by decide +kernel
theorem dX11_takeRegister_9 : decode cX11_takeRegister 9 = .ok (.ifCond .ne 32, 3) := by decide +kernel
theorem dX11_takeRegister_12 : decode cX11_takeRegister 12 = .ok (.aload_n 0, 1) := by decide +kernel
theorem dX11_takeRegister_13 : decode cX11_takeRegister 13 = .ok (.aload_n 0, 1) := by decide +kernel
theorem dX11_takeRegister_14 : decode cX11_takeRegister 14 = .ok (.getfield 88, 3) := by decide +kernel
theorem dX11_takeRegister_17 : decode cX11_takeRegister 17 = .ok (.invokevirtual 91, 3) := by decide +kernel
theorem dX11_takeRegister_20 : decode cX11_takeRegister 20 = .ok (.bipush 120, 2) := by decide +kernel
theorem dX11_takeRegister_22 : decode cX11_takeRegister 22 = .ok (.if_icmp .ne 19, 3) := by decide +kernel
theorem dX11_takeRegister_25 : decode cX11_takeRegister 25 = .ok (.aload_n 0, 1) := by decide +kernel
theorem dX11_takeRegister_26 : decode cX11_takeRegister 26 = .ok (.aload_n 0, 1) := by decide +kernel
theorem dX11_takeRegister_27 : decode cX11_takeRegister 27 = .ok (.getfield 88, 3) := by decide +kernel
theorem dX11_takeRegister_30 : decode cX11_takeRegister 30 = .ok (.iconst 1, 1) := by decide +kernel
theorem dX11_takeRegister_31 : decode cX11_takeRegister 31 = .ok (.iadd, 1) := by decide +kernel
theorem dX11_takeRegister_32 : decode cX11_takeRegister 32 = .ok (.invokevirtual 91, 3) := by decide +kernel
theorem dX11_takeRegister_35 : decode cX11_takeRegister 35 = .ok (.invokestatic 106, 3) := by decide +kernel
theorem dX11_takeRegister_38 : decode cX11_takeRegister 38 = .ok (.ifCond .ne 7, 3) := by decide +kernel
theorem dX11_takeRegister_41 : decode cX11_takeRegister 41 = .ok (.iconst 1, 1) := by decide +kernel
theorem dX11_takeRegister_42 : decode cX11_takeRegister 42 = .ok (.goto 4, 3) := by decide +kernel
theorem dX11_takeRegister_45 : decode cX11_takeRegister 45 = .ok (.iconst 0, 1) := by decide +kernel
theorem dX11_takeRegister_46 : decode cX11_takeRegister 46 = .ok (.putfield 102, 3) := by decide +kernel
theorem dX11_takeRegister_49 : decode cX11_takeRegister 49 = .ok (.aload_n 0, 1) := by decide +kernel
theorem dX11_takeRegister_50 : decode cX11_takeRegister 50 = .ok (.getfield 102, 3) := by decide +kernel
theorem dX11_takeRegister_53 : decode cX11_takeRegister 53 = .ok (.ifCond .eq 5, 3) := by decide +kernel
theorem dX11_takeRegister_56 : decode cX11_takeRegister 56 = .ok (.iconst 0, 1) := by decide +kernel
theorem dX11_takeRegister_57 : decode cX11_takeRegister 57 = .ok (.ireturn, 1) := by decide +kernel
theorem dX11_takeRegister_58 : decode cX11_takeRegister 58 = .ok (.aload_n 0, 1) := by decide +kernel
theorem dX11_takeRegister_59 : decode cX11_takeRegister 59 = .ok (.aload_n 0, 1) := by decide +kernel
theorem dX11_takeRegister_60 : decode cX11_takeRegister 60 = .ok (.getfield 88, 3) := by decide +kernel
theorem dX11_takeRegister_63 : decode cX11_takeRegister 63 = .ok (.iconst 1, 1) := by decide +kernel
theorem dX11_takeRegister_64 : decode cX11_takeRegister 64 = .ok (.iadd, 1) := by decide +kernel
theorem dX11_takeRegister_65 : decode cX11_takeRegister 65 = .ok (.invokevirtual 91, 3) := by decide +kernel
theorem dX11_takeRegister_68 : decode cX11_takeRegister 68 = .ok (.bipush 48, 2) := by decide +kernel
theorem dX11_takeRegister_70 : decode cX11_takeRegister 70 = .ok (.isub, 1) := by decide +kernel
theorem dX11_takeRegister_71 : decode cX11_takeRegister 71 = .ok (.istore_n 1, 1) := by decide +kernel
theorem dX11_takeRegister_72 : decode cX11_takeRegister 72 = .ok (.aload_n 0, 1) := by decide +kernel
theorem dX11_takeRegister_73 : decode cX11_takeRegister 73 = .ok (.dup, 1) := by decide +kernel
theorem dX11_takeRegister_74 : decode cX11_takeRegister 74 = .ok (.getfield 88, 3) := by decide +kernel
theorem dX11_takeRegister_77 : decode cX11_takeRegister 77 = .ok (.iconst 2, 1) := by decide +kernel
theorem dX11_takeRegister_78 : decode cX11_takeRegister 78 = .ok (.iadd, 1) := by decide +kernel
theorem dX11_takeRegister_79 : decode cX11_takeRegister 79 = .ok (.putfield 88, 3) := by decide +kernel
theorem dX11_takeRegister_82 : decode cX11_takeRegister 82 = .ok (.aload_n 0, 1) := by decide +kernel
theorem dX11_takeRegister_83 : decode cX11_takeRegister 83 = .ok (.aload_n 0, 1) := by decide +kernel
theorem dX11_takeRegister_84 : decode cX11_takeRegister 84 = .ok (.getfield 88, 3) := by decide +kernel
theorem dX11_takeRegister_87 : decode cX11_takeRegister 87 = .ok (.invokevirtual 91, 3) := by decide +kernel
theorem dX11_takeRegister_90 : decode cX11_takeRegister 90 = .ok (.invokestatic 106, 3) := by decide +kernel
theorem dX11_takeRegister_93 : decode cX11_takeRegister 93 = .ok (.ifCond .eq 30, 3) := by decide +kernel
theorem dX11_takeRegister_96 : decode cX11_takeRegister 96 = .ok (.bipush 10, 2) := by decide +kernel
theorem dX11_takeRegister_98 : decode cX11_takeRegister 98 = .ok (.iload_n 1, 1) := by decide +kernel
theorem dX11_takeRegister_99 : decode cX11_takeRegister 99 = .ok (.imul, 1) := by decide +kernel
theorem dX11_takeRegister_100 : decode cX11_takeRegister 100 = .ok (.aload_n 0, 1) := by decide +kernel
theorem dX11_takeRegister_101 : decode cX11_takeRegister 101 = .ok (.aload_n 0, 1) := by decide +kernel
theorem dX11_takeRegister_102 : decode cX11_takeRegister 102 = .ok (.getfield 88, 3) := by decide +kernel
theorem dX11_takeRegister_105 : decode cX11_takeRegister 105 = .ok (.invokevirtual 91, 3) := by decide +kernel
theorem dX11_takeRegister_108 : decode cX11_takeRegister 108 = .ok (.iadd, 1) := by decide +kernel
theorem dX11_takeRegister_109 : decode cX11_takeRegister 109 = .ok (.bipush 48, 2) := by decide +kernel
theorem dX11_takeRegister_111 : decode cX11_takeRegister 111 = .ok (.isub, 1) := by decide +kernel
theorem dX11_takeRegister_112 : decode cX11_takeRegister 112 = .ok (.istore_n 1, 1) := by decide +kernel
theorem dX11_takeRegister_113 : decode cX11_takeRegister 113 = .ok (.aload_n 0, 1) := by decide +kernel
theorem dX11_takeRegister_114 : decode cX11_takeRegister 114 = .ok (.dup, 1) := by decide +kernel
theorem dX11_takeRegister_115 : decode cX11_takeRegister 115 = .ok (.getfield 88, 3) := by decide +kernel
theorem dX11_takeRegister_118 : decode cX11_takeRegister 118 = .ok (.iconst 1, 1) := by decide +kernel
theorem dX11_takeRegister_119 : decode cX11_takeRegister 119 = .ok (.iadd, 1) := by decide +kernel
theorem dX11_takeRegister_120 : decode cX11_takeRegister 120 = .ok (.putfield 88, 3) := by decide +kernel
theorem dX11_takeRegister_123 : decode cX11_takeRegister 123 = .ok (.aload_n 0, 1) := by decide +kernel
theorem dX11_takeRegister_124 : decode cX11_takeRegister 124 = .ok (.aload_n 0, 1) := by decide +kernel
theorem dX11_takeRegister_125 : decode cX11_takeRegister 125 = .ok (.aload_n 0, 1) := by decide +kernel
theorem dX11_takeRegister_126 : decode cX11_takeRegister 126 = .ok (.getfield 88, 3) := by decide +kernel
theorem dX11_takeRegister_129 : decode cX11_takeRegister 129 = .ok (.invokevirtual 91, 3) := by decide +kernel
theorem dX11_takeRegister_132 : decode cX11_takeRegister 132 = .ok (.invokestatic 106, 3) := by decide +kernel
theorem dX11_takeRegister_135 : decode cX11_takeRegister 135 = .ok (.ifCond .ne 9, 3) := by decide +kernel
theorem dX11_takeRegister_138 : decode cX11_takeRegister 138 = .ok (.iload_n 1, 1) := by decide +kernel
theorem dX11_takeRegister_139 : decode cX11_takeRegister 139 = .ok (.bipush 15, 2) := by decide +kernel
theorem dX11_takeRegister_141 : decode cX11_takeRegister 141 = .ok (.if_icmp .le 7, 3) := by decide +kernel
theorem dX11_takeRegister_144 : decode cX11_takeRegister 144 = .ok (.iconst 1, 1) := by decide +kernel
theorem dX11_takeRegister_145 : decode cX11_takeRegister 145 = .ok (.goto 4, 3) := by decide +kernel
theorem dX11_takeRegister_148 : decode cX11_takeRegister 148 = .ok (.iconst 0, 1) := by decide +kernel
theorem dX11_takeRegister_149 : decode cX11_takeRegister 149 = .ok (.putfield 102, 3) := by decide +kernel
theorem dX11_takeRegister_152 : decode cX11_takeRegister 152 = .ok (.iload_n 1, 1) := by decide +kernel
theorem dX11_takeRegister_153 : decode cX11_takeRegister 153 = .ok (.ireturn, 1) := by decide +kernel
theorem dX11_number_0 : decode cX11_number 0 = .ok (.aload_n 0, 1) := by decide +kernel
theorem dX11_number_1 : decode cX11_number 1 = .ok (.invokevirtual 95, 3) := by decide +kernel
theorem dX11_number_4 : decode cX11_number 4 = .ok (.aload_n 0, 1) := by decide +kernel
theorem dX11_number_5 : decode cX11_number 5 = .ok (.aload_n 0, 1) := by decide +kernel
theorem dX11_number_6 : decode cX11_number 6 = .ok (.getfield 88, 3) := by decide +kernel
theorem dX11_number_9 : decode cX11_number 9 = .ok (.invokevirtual 91, 3) := by decide +kernel
theorem dX11_number_12 : decode cX11_number 12 = .ok (.bipush 45, 2) := by decide +kernel
theorem dX11_number_14 : decode cX11_number 14 = .ok (.if_icmp .ne 7, 3) := by decide +kernel
theorem dX11_number_17 : decode cX11_number 17 = .ok (.iconst 1, 1) := by decide +kernel
theorem dX11_number_18 : decode cX11_number 18 = .ok (.goto 4, 3) := by decide +kernel
theorem dX11_number_21 : decode cX11_number 21 = .ok (.iconst 0, 1) := by decide +kernel
theorem dX11_number_22 : decode cX11_number 22 = .ok (.istore 5, 2) := by decide +kernel
theorem dX11_number_24 : decode cX11_number 24 = .ok (.iload 5, 2) := by decide +kernel
theorem dX11_number_26 : decode cX11_number 26 = .ok (.ifCond .eq 12, 3) := by decide +kernel
theorem dX11_number_29 : decode cX11_number 29 = .ok (.aload_n 0, 1) := by decide +kernel
theorem dX11_number_30 : decode cX11_number 30 = .ok (.getfield 88, 3) := by decide +kernel
theorem dX11_number_33 : decode cX11_number 33 = .ok (.iconst 1, 1) := by decide +kernel
theorem dX11_number_34 : decode cX11_number 34 = .ok (.iadd, 1) := by decide +kernel
theorem dX11_number_35 : decode cX11_number 35 = .ok (.goto 7, 3) := by decide +kernel
theorem dX11_number_38 : decode cX11_number 38 = .ok (.aload_n 0, 1) := by decide +kernel
theorem dX11_number_39 : decode cX11_number 39 = .ok (.getfield 88, 3) := by decide +kernel
theorem dX11_number_42 : decode cX11_number 42 = .ok (.istore 6, 2) := by decide +kernel
theorem dX11_number_44 : decode cX11_number 44 = .ok (.aload_n 0, 1) := by decide +kernel
theorem dX11_number_45 : decode cX11_number 45 = .ok (.aload_n 0, 1) := by decide +kernel
theorem dX11_number_46 : decode cX11_number 46 = .ok (.getfield 102, 3) := by decide +kernel
theorem dX11_number_49 : decode cX11_number 49 = .ok (.ifCond .ne 15, 3) := by decide +kernel
theorem dX11_number_52 : decode cX11_number 52 = .ok (.aload_n 0, 1) := by decide +kernel
theorem dX11_number_53 : decode cX11_number 53 = .ok (.iload 6, 2) := by decide +kernel
theorem dX11_number_55 : decode cX11_number 55 = .ok (.invokevirtual 91, 3) := by decide +kernel
theorem dX11_number_58 : decode cX11_number 58 = .ok (.invokestatic 106, 3) := by decide +kernel
theorem dX11_number_61 : decode cX11_number 61 = .ok (.ifCond .ne 7, 3) := by decide +kernel
theorem dX11_number_64 : decode cX11_number 64 = .ok (.iconst 1, 1) := by decide +kernel
theorem dX11_number_65 : decode cX11_number 65 = .ok (.goto 4, 3) := by decide +kernel
theorem dX11_number_68 : decode cX11_number 68 = .ok (.iconst 0, 1) := by decide +kernel
theorem dX11_number_69 : decode cX11_number 69 = .ok (.putfield 102, 3) := by decide +kernel
theorem dX11_number_72 : decode cX11_number 72 = .ok (.aload_n 0, 1) := by decide +kernel
theorem dX11_number_73 : decode cX11_number 73 = .ok (.getfield 102, 3) := by decide +kernel
theorem dX11_number_76 : decode cX11_number 76 = .ok (.ifCond .eq 5, 3) := by decide +kernel
theorem dX11_number_79 : decode cX11_number 79 = .ok (.lconst 0, 1) := by decide +kernel
theorem dX11_number_80 : decode cX11_number 80 = .ok (.lreturn, 1) := by decide +kernel
theorem dX11_number_81 : decode cX11_number 81 = .ok (.iload 6, 2) := by decide +kernel
theorem dX11_number_83 : decode cX11_number 83 = .ok (.istore 7, 2) := by decide +kernel
theorem dX11_number_85 : decode cX11_number 85 = .ok (.lconst 0, 1) := by decide +kernel
theorem dX11_number_86 : decode cX11_number 86 = .ok (.lstore 8, 2) := by decide +kernel
theorem dX11_number_88 : decode cX11_number 88 = .ok (.aload_n 0, 1) := by decide +kernel
theorem dX11_number_89 : decode cX11_number 89 = .ok (.iload 6, 2) := by decide +kernel
theorem dX11_number_91 : decode cX11_number 91 = .ok (.invokevirtual 91, 3) := by decide +kernel
theorem dX11_number_94 : decode cX11_number 94 = .ok (.invokestatic 106, 3) := by decide +kernel
theorem dX11_number_97 : decode cX11_number 97 = .ok (.ifCond .eq 44, 3) := by decide +kernel
theorem dX11_number_100 : decode cX11_number 100 = .ok (.iload 6, 2) := by decide +kernel
theorem dX11_number_102 : decode cX11_number 102 = .ok (.iload 7, 2) := by decide +kernel
theorem dX11_number_104 : decode cX11_number 104 = .ok (.isub, 1) := by decide +kernel
theorem dX11_number_105 : decode cX11_number 105 = .ok (.bipush 10, 2) := by decide +kernel
theorem dX11_number_107 : decode cX11_number 107 = .ok (.if_icmp .ge 24, 3) := by decide +kernel
theorem dX11_number_110 : decode cX11_number 110 = .ok (.ldc2_w 73, 3) := by decide +kernel
theorem dX11_number_113 : decode cX11_number 113 = .ok (.lload 8, 2) := by decide +kernel
theorem dX11_number_115 : decode cX11_number 115 = .ok (.lmul, 1) := by decide +kernel
theorem dX11_number_116 : decode cX11_number 116 = .ok (.aload_n 0, 1) := by decide +kernel
theorem dX11_number_117 : decode cX11_number 117 = .ok (.iload 6, 2) := by decide +kernel
theorem dX11_number_119 : decode cX11_number 119 = .ok (.invokevirtual 91, 3) := by decide +kernel
theorem dX11_number_122 : decode cX11_number 122 = .ok (.i2l, 1) := by decide +kernel
theorem dX11_number_123 : decode cX11_number 123 = .ok (.ladd, 1) := by decide +kernel
theorem dX11_number_124 : decode cX11_number 124 = .ok (.ldc2_w 109, 3) := by decide +kernel
theorem dX11_number_127 : decode cX11_number 127 = .ok (.lsub, 1) := by decide +kernel
theorem dX11_number_128 : decode cX11_number 128 = .ok (.goto 5, 3) := by decide +kernel
theorem dX11_number_131 : decode cX11_number 131 = .ok (.lload 8, 2) := by decide +kernel
theorem dX11_number_133 : decode cX11_number 133 = .ok (.lstore 8, 2) := by decide +kernel
theorem dX11_number_135 : decode cX11_number 135 = .ok (.iinc 6 1, 3) := by decide +kernel
theorem dX11_number_138 : decode cX11_number 138 = .ok (.goto (-50), 3) := by decide +kernel
theorem dX11_number_141 : decode cX11_number 141 = .ok (.aload_n 0, 1) := by decide +kernel
theorem dX11_number_142 : decode cX11_number 142 = .ok (.iload 6, 2) := by decide +kernel
theorem dX11_number_144 : decode cX11_number 144 = .ok (.putfield 88, 3) := by decide +kernel
theorem dX11_number_147 : decode cX11_number 147 = .ok (.iload 5, 2) := by decide +kernel
theorem dX11_number_149 : decode cX11_number 149 = .ok (.ifCond .eq 9, 3) := by decide +kernel
theorem dX11_number_152 : decode cX11_number 152 = .ok (.lload 8, 2) := by decide +kernel
theorem dX11_number_154 : decode cX11_number 154 = .ok (.lneg, 1) := by decide +kernel
theorem dX11_number_155 : decode cX11_number 155 = .ok (.goto 5, 3) := by decide +kernel
theorem dX11_number_158 : decode cX11_number 158 = .ok (.lload 8, 2) := by decide +kernel
theorem dX11_number_160 : decode cX11_number 160 = .ok (.lstore 8, 2) := by decide +kernel
theorem dX11_number_162 : decode cX11_number 162 = .ok (.aload_n 0, 1) := by decide +kernel
theorem dX11_number_163 : decode cX11_number 163 = .ok (.aload_n 0, 1) := by decide +kernel
theorem dX11_number_164 : decode cX11_number 164 = .ok (.getfield 111, 3) := by decide +kernel
theorem dX11_number_167 : decode cX11_number 167 = .ok (.ifCond .ne 27, 3) := by decide +kernel
theorem dX11_number_170 : decode cX11_number 170 = .ok (.iload 6, 2) := by decide +kernel
theorem dX11_number_172 : decode cX11_number 172 = .ok (.iload 7, 2) := by decide +kernel
theorem dX11_number_174 : decode cX11_number 174 = .ok (.isub, 1) := by decide +kernel
theorem dX11_number_175 : decode cX11_number 175 = .ok (.bipush 10, 2) := by decide +kernel
theorem dX11_number_177 : decode cX11_number 177 = .ok (.if_icmp .gt 17, 3) := by decide +kernel
theorem dX11_number_180 : decode cX11_number 180 = .ok (.lload 8, 2) := by decide +kernel
theorem dX11_number_182 : decode cX11_number 182 = .ok (.lload_n 1, 1) := by decide +kernel
theorem dX11_number_183 : decode cX11_number 183 = .ok (.lcmp, 1) := by decide +kernel
theorem dX11_number_184 : decode cX11_number 184 = .ok (.ifCond .lt 10, 3) := by decide +kernel
theorem dX11_number_187 : decode cX11_number 187 = .ok (.lload 8, 2) := by decide +kernel
theorem dX11_number_189 : decode cX11_number 189 = .ok (.lload_n 3, 1) := by decide +kernel
theorem dX11_number_190 : decode cX11_number 190 = .ok (.lcmp, 1) := by decide +kernel
theorem dX11_number_191 : decode cX11_number 191 = .ok (.ifCond .le 7, 3) := by decide +kernel
theorem dX11_number_194 : decode cX11_number 194 = .ok (.iconst 1, 1) := by decide +kernel
theorem dX11_number_195 : decode cX11_number 195 = .ok (.goto 4, 3) := by decide +kernel
theorem dX11_number_198 : decode cX11_number 198 = .ok (.iconst 0, 1) := by decide +kernel
theorem dX11_number_199 : decode cX11_number 199 = .ok (.putfield 111, 3) := by decide +kernel
theorem dX11_number_202 : decode cX11_number 202 = .ok (.lload 8, 2) := by decide +kernel
theorem dX11_number_204 : decode cX11_number 204 = .ok (.lreturn, 1) := by decide +kernel
theorem dX11_lookup_0 : decode cX11_lookup 0 = .ok (.lload_n 0, 1) := by decide +kernel
theorem dX11_lookup_1 : decode cX11_lookup 1 = .ok (.ldc2_w 114, 3) := by decide +kernel
theorem dX11_lookup_4 : decode cX11_lookup 4 = .ok (.lcmp, 1) := by decide +kernel
theorem dX11_lookup_5 : decode cX11_lookup 5 = .ok (.ifCond .ne 7, 3) := by decide +kernel
theorem dX11_lookup_8 : decode cX11_lookup 8 = .ok (.sipush 887, 3) := by decide +kernel
theorem dX11_lookup_11 : decode cX11_lookup 11 = .ok (.ireturn, 1) := by decide +kernel
theorem dX11_lookup_12 : decode cX11_lookup 12 = .ok (.lload_n 0, 1) := by decide +kernel
theorem dX11_lookup_13 : decode cX11_lookup 13 = .ok (.ldc2_w 116, 3) := by decide +kernel
theorem dX11_lookup_16 : decode cX11_lookup 16 = .ok (.lcmp, 1) := by decide +kernel
theorem dX11_lookup_17 : decode cX11_lookup 17 = .ok (.ifCond .ne 7, 3) := by decide +kernel
theorem dX11_lookup_20 : decode cX11_lookup 20 = .ok (.sipush 1782, 3) := by decide +kernel
theorem dX11_lookup_23 : decode cX11_lookup 23 = .ok (.ireturn, 1) := by decide +kernel
theorem dX11_lookup_24 : decode cX11_lookup 24 = .ok (.lload_n 0, 1) := by decide +kernel
theorem dX11_lookup_25 : decode cX11_lookup 25 = .ok (.ldc2_w 118, 3) := by decide +kernel
theorem dX11_lookup_28 : decode cX11_lookup 28 = .ok (.lcmp, 1) := by decide +kernel
theorem dX11_lookup_29 : decode cX11_lookup 29 = .ok (.ifCond .ne 7, 3) := by decide +kernel
theorem dX11_lookup_32 : decode cX11_lookup 32 = .ok (.sipush 1651, 3) := by decide +kernel
theorem dX11_lookup_35 : decode cX11_lookup 35 = .ok (.ireturn, 1) := by decide +kernel
theorem dX11_lookup_36 : decode cX11_lookup 36 = .ok (.lload_n 0, 1) := by decide +kernel
theorem dX11_lookup_37 : decode cX11_lookup 37 = .ok (.ldc2_w 120, 3) := by decide +kernel
theorem dX11_lookup_40 : decode cX11_lookup 40 = .ok (.lcmp, 1) := by decide +kernel
theorem dX11_lookup_41 : decode cX11_lookup 41 = .ok (.ifCond .ne 7, 3) := by decide +kernel
theorem dX11_lookup_44 : decode cX11_lookup 44 = .ok (.sipush 1589, 3) := by decide +kernel
theorem dX11_lookup_47 : decode cX11_lookup 47 = .ok (.ireturn, 1) := by decide +kernel
theorem dX11_lookup_48 : decode cX11_lookup 48 = .ok (.lload_n 0, 1) := by decide +kernel
theorem dX11_lookup_49 : decode cX11_lookup 49 = .ok (.ldc2_w 122, 3) := by decide +kernel
theorem dX11_lookup_52 : decode cX11_lookup 52 = .ok (.lcmp, 1) := by decide +kernel
theorem dX11_lookup_53 : decode cX11_lookup 53 = .ok (.ifCond .ne 7, 3) := by decide +kernel
theorem dX11_lookup_56 : decode cX11_lookup 56 = .ok (.sipush 3637, 3) := by decide +kernel
theorem dX11_lookup_59 : decode cX11_lookup 59 = .ok (.ireturn, 1) := by decide +kernel
theorem dX11_lookup_60 : decode cX11_lookup 60 = .ok (.lload_n 0, 1) := by decide +kernel
theorem dX11_lookup_61 : decode cX11_lookup 61 = .ok (.ldc2_w 124, 3) := by decide +kernel
theorem dX11_lookup_64 : decode cX11_lookup 64 = .ok (.lcmp, 1) := by decide +kernel
theorem dX11_lookup_65 : decode cX11_lookup 65 = .ok (.ifCond .ne 7, 3) := by decide +kernel
theorem dX11_lookup_68 : decode cX11_lookup 68 = .ok (.sipush 9781, 3) := by decide +kernel
theorem dX11_lookup_71 : decode cX11_lookup 71 = .ok (.ireturn, 1) := by decide +kernel
theorem dX11_lookup_72 : decode cX11_lookup 72 = .ok (.lload_n 0, 1) := by decide +kernel
theorem dX11_lookup_73 : decode cX11_lookup 73 = .ok (.ldc2_w 126, 3) := by decide +kernel
theorem dX11_lookup_76 : decode cX11_lookup 76 = .ok (.lcmp, 1) := by decide +kernel
theorem dX11_lookup_77 : decode cX11_lookup 77 = .ok (.ifCond .ne 7, 3) := by decide +kernel
theorem dX11_lookup_80 : decode cX11_lookup 80 = .ok (.sipush 11829, 3) := by decide +kernel
theorem dX11_lookup_83 : decode cX11_lookup 83 = .ok (.ireturn, 1) := by decide +kernel
theorem dX11_lookup_84 : decode cX11_lookup 84 = .ok (.lload_n 0, 1) := by decide +kernel
theorem dX11_lookup_85 : decode cX11_lookup 85 = .ok (.ldc2_w 128, 3) := by decide +kernel
theorem dX11_lookup_88 : decode cX11_lookup 88 = .ok (.lcmp, 1) := by decide +kernel
theorem dX11_lookup_89 : decode cX11_lookup 89 = .ok (.ifCond .ne 7, 3) := by decide +kernel
theorem dX11_lookup_92 : decode cX11_lookup 92 = .ok (.sipush 13877, 3) := by decide +kernel
theorem dX11_lookup_95 : decode cX11_lookup 95 = .ok (.ireturn, 1) := by decide +kernel
theorem dX11_lookup_96 : decode cX11_lookup 96 = .ok (.lload_n 0, 1) := by decide +kernel
theorem dX11_lookup_97 : decode cX11_lookup 97 = .ok (.ldc2_w 130, 3) := by decide +kernel
theorem dX11_lookup_100 : decode cX11_lookup 100 = .ok (.lcmp, 1) := by decide +kernel
theorem dX11_lookup_101 : decode cX11_lookup 101 = .ok (.ifCond .ne 7, 3) := by decide +kernel
theorem dX11_lookup_104 : decode cX11_lookup 104 = .ok (.sipush 15925, 3) := by decide +kernel
theorem dX11_lookup_107 : decode cX11_lookup 107 = .ok (.ireturn, 1) := by decide +kernel
theorem dX11_lookup_108 : decode cX11_lookup 108 = .ok (.lload_n 0, 1) := by decide +kernel
theorem dX11_lookup_109 : decode cX11_lookup 109 = .ok (.ldc2_w 132, 3) := by decide +kernel
theorem dX11_lookup_112 : decode cX11_lookup 112 = .ok (.lcmp, 1) := by decide +kernel
theorem dX11_lookup_113 : decode cX11_lookup 113 = .ok (.ifCond .ne 7, 3) := by decide +kernel
theorem dX11_lookup_116 : decode cX11_lookup 116 = .ok (.sipush 4147, 3) := by decide +kernel
theorem dX11_lookup_119 : decode cX11_lookup 119 = .ok (.ireturn, 1) := by decide +kernel
theorem dX11_lookup_120 : decode cX11_lookup 120 = .ok (.lload_n 0, 1) := by decide +kernel
theorem dX11_lookup_121 : decode cX11_lookup 121 = .ok (.ldc2_w 134, 3) := by decide +kernel
theorem dX11_lookup_124 : decode cX11_lookup 124 = .ok (.lcmp, 1) := by decide +kernel
theorem dX11_lookup_125 : decode cX11_lookup 125 = .ok (.ifCond .ne 6, 3) := by decide +kernel
theorem dX11_lookup_128 : decode cX11_lookup 128 = .ok (.bipush 51, 2) := by decide +kernel
theorem dX11_lookup_130 : decode cX11_lookup 130 = .ok (.ireturn, 1) := by decide +kernel
theorem dX11_lookup_131 : decode cX11_lookup 131 = .ok (.lload_n 0, 1) := by decide +kernel
theorem dX11_lookup_132 : decode cX11_lookup 132 = .ok (.ldc2_w 136, 3) := by decide +kernel
theorem dX11_lookup_135 : decode cX11_lookup 135 = .ok (.lcmp, 1) := by decide +kernel
theorem dX11_lookup_136 : decode cX11_lookup 136 = .ok (.ifCond .ne 7, 3) := by decide +kernel
theorem dX11_lookup_139 : decode cX11_lookup 139 = .ok (.sipush 8243, 3) := by decide +kernel
theorem dX11_lookup_142 : decode cX11_lookup 142 = .ok (.ireturn, 1) := by decide +kernel
theorem dX11_lookup_143 : decode cX11_lookup 143 = .ok (.lload_n 0, 1) := by decide +kernel
theorem dX11_lookup_144 : decode cX11_lookup 144 = .ok (.ldc2_w 138, 3) := by decide +kernel
theorem dX11_lookup_147 : decode cX11_lookup 147 = .ok (.lcmp, 1) := by decide +kernel
theorem dX11_lookup_148 : decode cX11_lookup 148 = .ok (.ifCond .ne 7, 3) := by decide +kernel
theorem dX11_lookup_151 : decode cX11_lookup 151 = .ok (.sipush 4660, 3) := by decide +kernel
theorem dX11_lookup_154 : decode cX11_lookup 154 = .ok (.ireturn, 1) := by decide +kernel
theorem dX11_lookup_155 : decode cX11_lookup 155 = .ok (.lload_n 0, 1) := by decide +kernel
theorem dX11_lookup_156 : decode cX11_lookup 156 = .ok (.ldc2_w 140, 3) := by decide +kernel
theorem dX11_lookup_159 : decode cX11_lookup 159 = .ok (.lcmp, 1) := by decide +kernel
theorem dX11_lookup_160 : decode cX11_lookup 160 = .ok (.ifCond .ne 7, 3) := by decide +kernel
theorem dX11_lookup_163 : decode cX11_lookup 163 = .ok (.sipush 564, 3) := by decide +kernel
theorem dX11_lookup_166 : decode cX11_lookup 166 = .ok (.ireturn, 1) := by decide +kernel
theorem dX11_lookup_167 : decode cX11_lookup 167 = .ok (.lload_n 0, 1) := by decide +kernel
theorem dX11_lookup_168 : decode cX11_lookup 168 = .ok (.ldc2_w 142, 3) := by decide +kernel
theorem dX11_lookup_171 : decode cX11_lookup 171 = .ok (.lcmp, 1) := by decide +kernel
theorem dX11_lookup_172 : decode cX11_lookup 172 = .ok (.ifCond .ne 7, 3) := by decide +kernel
theorem dX11_lookup_175 : decode cX11_lookup 175 = .ok (.sipush 306, 3) := by decide +kernel
theorem dX11_lookup_178 : decode cX11_lookup 178 = .ok (.ireturn, 1) := by decide +kernel
theorem dX11_lookup_179 : decode cX11_lookup 179 = .ok (.lload_n 0, 1) := by decide +kernel
theorem dX11_lookup_180 : decode cX11_lookup 180 = .ok (.ldc2_w 144, 3) := by decide +kernel
theorem dX11_lookup_183 : decode cX11_lookup 183 = .ok (.lcmp, 1) := by decide +kernel
theorem dX11_lookup_184 : decode cX11_lookup 184 = .ok (.ifCond .ne 7, 3) := by decide +kernel
theorem dX11_lookup_187 : decode cX11_lookup 187 = .ok (.sipush 4402, 3) := by decide +kernel
theorem dX11_lookup_190 : decode cX11_lookup 190 = .ok (.ireturn, 1) := by decide +kernel
theorem dX11_lookup_191 : decode cX11_lookup 191 = .ok (.lload_n 0, 1) := by decide +kernel
theorem dX11_lookup_192 : decode cX11_lookup 192 = .ok (.ldc2_w 146, 3) := by decide +kernel
theorem dX11_lookup_195 : decode cX11_lookup 195 = .ok (.lcmp, 1) := by decide +kernel
theorem dX11_lookup_196 : decode cX11_lookup 196 = .ok (.ifCond .ne 7, 3) := by decide +kernel
theorem dX11_lookup_199 : decode cX11_lookup 199 = .ok (.sipush 6450, 3) := by decide +kernel
theorem dX11_lookup_202 : decode cX11_lookup 202 = .ok (.ireturn, 1) := by decide +kernel
theorem dX11_lookup_203 : decode cX11_lookup 203 = .ok (.lload_n 0, 1) := by decide +kernel
theorem dX11_lookup_204 : decode cX11_lookup 204 = .ok (.ldc2_w 148, 3) := by decide +kernel
theorem dX11_lookup_207 : decode cX11_lookup 207 = .ok (.lcmp, 1) := by decide +kernel
theorem dX11_lookup_208 : decode cX11_lookup 208 = .ok (.ifCond .ne 7, 3) := by decide +kernel
theorem dX11_lookup_211 : decode cX11_lookup 211 = .ok (.sipush 8498, 3) := by decide +kernel
theorem dX11_lookup_214 : decode cX11_lookup 214 = .ok (.ireturn, 1) := by decide +kernel
theorem dX11_lookup_215 : decode cX11_lookup 215 = .ok (.lload_n 0, 1) := by decide +kernel
theorem dX11_lookup_216 : decode cX11_lookup 216 = .ok (.ldc2_w 150, 3) := by decide +kernel
theorem dX11_lookup_219 : decode cX11_lookup 219 = .ok (.lcmp, 1) := by decide +kernel
theorem dX11_lookup_220 : decode cX11_lookup 220 = .ok (.ifCond .ne 7, 3) := by decide +kernel
theorem dX11_lookup_223 : decode cX11_lookup 223 = .ok (.sipush 12594, 3) := by decide +kernel
theorem dX11_lookup_226 : decode cX11_lookup 226 = .ok (.ireturn, 1) := by decide +kernel
theorem dX11_lookup_227 : decode cX11_lookup 227 = .ok (.lload_n 0, 1) := by decide +kernel
theorem dX11_lookup_228 : decode cX11_lookup 228 = .ok (.ldc2_w 152, 3) := by decide +kernel
theorem dX11_lookup_231 : decode cX11_lookup 231 = .ok (.lcmp, 1) := by decide +kernel
theorem dX11_lookup_232 : decode cX11_lookup 232 = .ok (.ifCond .ne 7, 3) := by decide +kernel
theorem dX11_lookup_235 : decode cX11_lookup 235 = .ok (.sipush 14642, 3) := by decide +kernel
theorem dX11_lookup_238 : decode cX11_lookup 238 = .ok (.ireturn, 1) := by decide +kernel
theorem dX11_lookup_239 : decode cX11_lookup 239 = .ok (.lload_n 0, 1) := by decide +kernel
theorem dX11_lookup_240 : decode cX11_lookup 240 = .ok (.ldc2_w 154, 3) := by decide +kernel
theorem dX11_lookup_243 : decode cX11_lookup 243 = .ok (.lcmp, 1) := by decide +kernel
theorem dX11_lookup_244 : decode cX11_lookup 244 = .ok (.ifCond .ne 7, 3) := by decide +kernel
theorem dX11_lookup_247 : decode cX11_lookup 247 = .ok (.sipush 2360, 3) := by decide +kernel
theorem dX11_lookup_250 : decode cX11_lookup 250 = .ok (.ireturn, 1) := by decide +kernel
theorem dX11_lookup_251 : decode cX11_lookup 251 = .ok (.lload_n 0, 1) := by decide +kernel
theorem dX11_lookup_252 : decode cX11_lookup 252 = .ok (.ldc2_w 156, 3) := by decide +kernel
theorem dX11_lookup_255 : decode cX11_lookup 255 = .ok (.lcmp, 1) := by decide +kernel
theorem dX11_lookup_256 : decode cX11_lookup 256 = .ok (.ifCond .ne 7, 3) := by decide +kernel
theorem dX11_lookup_259 : decode cX11_lookup 259 = .ok (.sipush 10552, 3) := by decide +kernel
theorem dX11_lookup_262 : decode cX11_lookup 262 = .ok (.ireturn, 1) := by decide +kernel
theorem dX11_lookup_263 : decode cX11_lookup 263 = .ok (.lload_n 0, 1) := by decide +kernel
theorem dX11_lookup_264 : decode cX11_lookup 264 = .ok (.ldc2_w 158, 3) := by decide +kernel
theorem dX11_lookup_267 : decode cX11_lookup 267 = .ok (.lcmp, 1) := by decide +kernel
theorem dX11_lookup_268 : decode cX11_lookup 268 = .ok (.ifCond .ne 6, 3) := by decide +kernel
theorem dX11_lookup_271 : decode cX11_lookup 271 = .ok (.ldc 160, 2) := by decide +kernel
theorem dX11_lookup_273 : decode cX11_lookup 273 = .ok (.ireturn, 1) := by decide +kernel
theorem dX11_lookup_274 : decode cX11_lookup 274 = .ok (.lload_n 0, 1) := by decide +kernel
theorem dX11_lookup_275 : decode cX11_lookup 275 = .ok (.ldc2_w 161, 3) := by decide +kernel
theorem dX11_lookup_278 : decode cX11_lookup 278 = .ok (.lcmp, 1) := by decide +kernel
theorem dX11_lookup_279 : decode cX11_lookup 279 = .ok (.ifCond .ne 7, 3) := by decide +kernel
theorem dX11_lookup_282 : decode cX11_lookup 282 = .ok (.sipush 817, 3) := by decide +kernel
theorem dX11_lookup_285 : decode cX11_lookup 285 = .ok (.ireturn, 1) := by decide +kernel
theorem dX11_lookup_286 : decode cX11_lookup 286 = .ok (.lload_n 0, 1) := by decide +kernel
theorem dX11_lookup_287 : decode cX11_lookup 287 = .ok (.ldc2_w 163, 3) := by decide +kernel
theorem dX11_lookup_290 : decode cX11_lookup 290 = .ok (.lcmp, 1) := by decide +kernel
theorem dX11_lookup_291 : decode cX11_lookup 291 = .ok (.ifCond .ne 7, 3) := by decide +kernel
theorem dX11_lookup_294 : decode cX11_lookup 294 = .ok (.sipush 2865, 3) := by decide +kernel
theorem dX11_lookup_297 : decode cX11_lookup 297 = .ok (.ireturn, 1) := by decide +kernel
theorem dX11_lookup_298 : decode cX11_lookup 298 = .ok (.lload_n 0, 1) := by decide +kernel
theorem dX11_lookup_299 : decode cX11_lookup 299 = .ok (.ldc2_w 165, 3) := by decide +kernel
theorem dX11_lookup_302 : decode cX11_lookup 302 = .ok (.lcmp, 1) := by decide +kernel
theorem dX11_lookup_303 : decode cX11_lookup 303 = .ok (.ifCond .ne 7, 3) := by decide +kernel
theorem dX11_lookup_306 : decode cX11_lookup 306 = .ok (.sipush 4913, 3) := by decide +kernel
theorem dX11_lookup_309 : decode cX11_lookup 309 = .ok (.ireturn, 1) := by decide +kernel
theorem dX11_lookup_310 : decode cX11_lookup 310 = .ok (.lload_n 0, 1) := by decide +kernel
theorem dX11_lookup_311 : decode cX11_lookup 311 = .ok (.ldc2_w 167, 3) := by decide +kernel
theorem dX11_lookup_314 : decode cX11_lookup 314 = .ok (.lcmp, 1) := by decide +kernel
theorem dX11_lookup_315 : decode cX11_lookup 315 = .ok (.ifCond .ne 7, 3) := by decide +kernel
theorem dX11_lookup_318 : decode cX11_lookup 318 = .ok (.sipush 6961, 3) := by decide +kernel
theorem dX11_lookup_321 : decode cX11_lookup 321 = .ok (.ireturn, 1) := by decide +kernel
theorem dX11_lookup_322 : decode cX11_lookup 322 = .ok (.lload_n 0, 1) := by decide +kernel
theorem dX11_lookup_323 : decode cX11_lookup 323 = .ok (.ldc2_w 169, 3) := by decide +kernel
theorem dX11_lookup_326 : decode cX11_lookup 326 = .ok (.lcmp, 1) := by decide +kernel
theorem dX11_lookup_327 : decode cX11_lookup 327 = .ok (.ifCond .ne 7, 3) := by decide +kernel
theorem dX11_lookup_330 : decode cX11_lookup 330 = .ok (.sipush 9009, 3) := by decide +kernel
theorem dX11_lookup_333 : decode cX11_lookup 333 = .ok (.ireturn, 1) := by decide +kernel
theorem dX11_lookup_334 : decode cX11_lookup 334 = .ok (.lload_n 0, 1) := by decide +kernel
theorem dX11_lookup_335 : decode cX11_lookup 335 = .ok (.ldc2_w 171, 3) := by decide +kernel
theorem dX11_lookup_338 : decode cX11_lookup 338 = .ok (.lcmp, 1) := by decide +kernel
theorem dX11_lookup_339 : decode cX11_lookup 339 = .ok (.ifCond .ne 7, 3) := by decide +kernel
theorem dX11_lookup_342 : decode cX11_lookup 342 = .ok (.sipush 11057, 3) := by decide +kernel
theorem dX11_lookup_345 : decode cX11_lookup 345 = .ok (.ireturn, 1) := by decide +kernel
theorem dX11_lookup_346 : decode cX11_lookup 346 = .ok (.lload_n 0, 1) := by decide +kernel
theorem dX11_lookup_347 : decode cX11_lookup 347 = .ok (.ldc2_w 173, 3) := by decide +kernel
theorem dX11_lookup_350 : decode cX11_lookup 350 = .ok (.lcmp, 1) := by decide +kernel
theorem dX11_lookup_351 : decode cX11_lookup 351 = .ok (.ifCond .ne 7, 3) := by decide +kernel
theorem dX11_lookup_354 : decode cX11_lookup 354 = .ok (.sipush 13105, 3) := by decide +kernel
theorem dX11_lookup_357 : decode cX11_lookup 357 = .ok (.ireturn, 1) := by decide +kernel
theorem dX11_lookup_358 : decode cX11_lookup 358 = .ok (.lload_n 0, 1) := by decide +kernel
theorem dX11_lookup_359 : decode cX11_lookup 359 = .ok (.ldc2_w 175, 3) := by decide +kernel
theorem dX11_lookup_362 : decode cX11_lookup 362 = .ok (.lcmp, 1) := by decide +kernel
theorem dX11_lookup_363 : decode cX11_lookup 363 = .ok (.ifCond .ne 7, 3) := by decide +kernel
theorem dX11_lookup_366 : decode cX11_lookup 366 = .ok (.sipush 15153, 3) := by decide +kernel
theorem dX11_lookup_369 : decode cX11_lookup 369 = .ok (.ireturn, 1) := by decide +kernel
theorem dX11_lookup_370 : decode cX11_lookup 370 = .ok (.lload_n 0, 1) := by decide +kernel
theorem dX11_lookup_371 : decode cX11_lookup 371 = .ok (.ldc2_w 177, 3) := by decide +kernel
theorem dX11_lookup_374 : decode cX11_lookup 374 = .ok (.lcmp, 1) := by decide +kernel
theorem dX11_lookup_375 : decode cX11_lookup 375 = .ok (.ifCond .ne 6, 3) := by decide +kernel
theorem dX11_lookup_378 : decode cX11_lookup 378 = .ok (.ldc 179, 2) := by decide +kernel
theorem dX11_lookup_380 : decode cX11_lookup 380 = .ok (.ireturn, 1) := by decide +kernel
theorem dX11_lookup_381 : decode cX11_lookup 381 = .ok (.lload_n 0, 1) := by decide +kernel
theorem dX11_lookup_382 : decode cX11_lookup 382 = .ok (.ldc2_w 180, 3) := by decide +kernel
theorem dX11_lookup_385 : decode cX11_lookup 385 = .ok (.lcmp, 1) := by decide +kernel
theorem dX11_lookup_386 : decode cX11_lookup 386 = .ok (.ifCond .ne 6, 3) := by decide +kernel
theorem dX11_lookup_389 : decode cX11_lookup 389 = .ok (.ldc 182, 2) := by decide +kernel
theorem dX11_lookup_391 : decode cX11_lookup 391 = .ok (.ireturn, 1) := by decide +kernel
theorem dX11_lookup_392 : decode cX11_lookup 392 = .ok (.lload_n 0, 1) := by decide +kernel
theorem dX11_lookup_393 : decode cX11_lookup 393 = .ok (.ldc2_w 183, 3) := by decide +kernel
theorem dX11_lookup_396 : decode cX11_lookup 396 = .ok (.lcmp, 1) := by decide +kernel
theorem dX11_lookup_397 : decode cX11_lookup 397 = .ok (.ifCond .ne 7, 3) := by decide +kernel
theorem dX11_lookup_400 : decode cX11_lookup 400 = .ok (.sipush 185, 3) := by decide +kernel
theorem dX11_lookup_403 : decode cX11_lookup 403 = .ok (.ireturn, 1) := by decide +kernel
theorem dX11_lookup_404 : decode cX11_lookup 404 = .ok (.lload_n 0, 1) := by decide +kernel
theorem dX11_lookup_405 : decode cX11_lookup 405 = .ok (.ldc2_w 185, 3) := by decide +kernel
theorem dX11_lookup_408 : decode cX11_lookup 408 = .ok (.lcmp, 1) := by decide +kernel
theorem dX11_lookup_409 : decode cX11_lookup 409 = .ok (.ifCond .ne 7, 3) := by decide +kernel
theorem dX11_lookup_412 : decode cX11_lookup 412 = .ok (.sipush 2234, 3) := by decide +kernel
theorem dX11_lookup_415 : decode cX11_lookup 415 = .ok (.ireturn, 1) := by decide +kernel
theorem dX11_lookup_416 : decode cX11_lookup 416 = .ok (.lload_n 0, 1) := by decide +kernel
theorem dX11_lookup_417 : decode cX11_lookup 417 = .ok (.ldc2_w 187, 3) := by decide +kernel
theorem dX11_lookup_420 : decode cX11_lookup 420 = .ok (.lcmp, 1) := by decide +kernel
theorem dX11_lookup_421 : decode cX11_lookup 421 = .ok (.ifCond .ne 7, 3) := by decide +kernel
theorem dX11_lookup_424 : decode cX11_lookup 424 = .ok (.sipush 1851, 3) := by decide +kernel
theorem dX11_lookup_427 : decode cX11_lookup 427 = .ok (.ireturn, 1) := by decide +kernel
theorem dX11_lookup_428 : decode cX11_lookup 428 = .ok (.lload_n 0, 1) := by decide +kernel
theorem dX11_lookup_429 : decode cX11_lookup 429 = .ok (.ldc2_w 189, 3) := by decide +kernel
theorem dX11_lookup_432 : decode cX11_lookup 432 = .ok (.lcmp, 1) := by decide +kernel
theorem dX11_lookup_433 : decode cX11_lookup 433 = .ok (.ifCond .ne 6, 3) := by decide +kernel
theorem dX11_lookup_436 : decode cX11_lookup 436 = .ok (.bipush 12, 2) := by decide +kernel
theorem dX11_lookup_438 : decode cX11_lookup 438 = .ok (.ireturn, 1) := by decide +kernel
theorem dX11_lookup_439 : decode cX11_lookup 439 = .ok (.iconst 0, 1) := by decide +kernel
theorem dX11_lookup_440 : decode cX11_lookup 440 = .ok (.ireturn, 1) := by decide +kernel
theorem dX11_immediate_0 : decode cX11_immediate 0 = .ok (.iload_n 0, 1) := by decide +kernel
theorem dX11_immediate_1 : decode cX11_immediate 1 = .ok (.bipush 20, 2) := by decide +kernel
theorem dX11_immediate_3 : decode cX11_immediate 3 = .ok (.ishl, 1) := by decide +kernel
theorem dX11_immediate_4 : decode cX11_immediate 4 = .ok (.ireturn, 1) := by decide +kernel
theorem dX11_storing_0 : decode cX11_storing 0 = .ok (.iload_n 0, 1) := by decide +kernel
theorem dX11_storing_1 : decode cX11_storing 1 = .ok (.bipush 31, 2) := by decide +kernel
theorem dX11_storing_3 : decode cX11_storing 3 = .ok (.iand, 1) := by decide +kernel
theorem dX11_storing_4 : decode cX11_storing 4 = .ok (.bipush 7, 2) := by decide +kernel
theorem dX11_storing_6 : decode cX11_storing 6 = .ok (.ishl, 1) := by decide +kernel
theorem dX11_storing_7 : decode cX11_storing 7 = .ok (.iload_n 0, 1) := by decide +kernel
theorem dX11_storing_8 : decode cX11_storing 8 = .ok (.iconst 5, 1) := by decide +kernel
theorem dX11_storing_9 : decode cX11_storing 9 = .ok (.ishr, 1) := by decide +kernel
theorem dX11_storing_10 : decode cX11_storing 10 = .ok (.bipush 25, 2) := by decide +kernel
theorem dX11_storing_12 : decode cX11_storing 12 = .ok (.ishl, 1) := by decide +kernel
theorem dX11_storing_13 : decode cX11_storing 13 = .ok (.ior, 1) := by decide +kernel
theorem dX11_storing_14 : decode cX11_storing 14 = .ok (.ireturn, 1) := by decide +kernel
theorem dX11_branching_0 : decode cX11_branching 0 = .ok (.iload_n 0, 1) := by decide +kernel
theorem dX11_branching_1 : decode cX11_branching 1 = .ok (.iconst 1, 1) := by decide +kernel
theorem dX11_branching_2 : decode cX11_branching 2 = .ok (.ishr, 1) := by decide +kernel
theorem dX11_branching_3 : decode cX11_branching 3 = .ok (.bipush 15, 2) := by decide +kernel
theorem dX11_branching_5 : decode cX11_branching 5 = .ok (.iand, 1) := by decide +kernel
theorem dX11_branching_6 : decode cX11_branching 6 = .ok (.bipush 8, 2) := by decide +kernel
theorem dX11_branching_8 : decode cX11_branching 8 = .ok (.ishl, 1) := by decide +kernel
theorem dX11_branching_9 : decode cX11_branching 9 = .ok (.iload_n 0, 1) := by decide +kernel
theorem dX11_branching_10 : decode cX11_branching 10 = .ok (.iconst 5, 1) := by decide +kernel
theorem dX11_branching_11 : decode cX11_branching 11 = .ok (.ishr, 1) := by decide +kernel
theorem dX11_branching_12 : decode cX11_branching 12 = .ok (.bipush 63, 2) := by decide +kernel
theorem dX11_branching_14 : decode cX11_branching 14 = .ok (.iand, 1) := by decide +kernel
theorem dX11_branching_15 : decode cX11_branching 15 = .ok (.bipush 25, 2) := by decide +kernel
theorem dX11_branching_17 : decode cX11_branching 17 = .ok (.ishl, 1) := by decide +kernel
theorem dX11_branching_18 : decode cX11_branching 18 = .ok (.ior, 1) := by decide +kernel
theorem dX11_branching_19 : decode cX11_branching 19 = .ok (.iload_n 0, 1) := by decide +kernel
theorem dX11_branching_20 : decode cX11_branching 20 = .ok (.bipush 11, 2) := by decide +kernel
theorem dX11_branching_22 : decode cX11_branching 22 = .ok (.ishr, 1) := by decide +kernel
theorem dX11_branching_23 : decode cX11_branching 23 = .ok (.iconst 1, 1) := by decide +kernel
theorem dX11_branching_24 : decode cX11_branching 24 = .ok (.iand, 1) := by decide +kernel
theorem dX11_branching_25 : decode cX11_branching 25 = .ok (.bipush 7, 2) := by decide +kernel
theorem dX11_branching_27 : decode cX11_branching 27 = .ok (.ishl, 1) := by decide +kernel
theorem dX11_branching_28 : decode cX11_branching 28 = .ok (.ior, 1) := by decide +kernel
theorem dX11_branching_29 : decode cX11_branching 29 = .ok (.iload_n 0, 1) := by decide +kernel
theorem dX11_branching_30 : decode cX11_branching 30 = .ok (.bipush 12, 2) := by decide +kernel
theorem dX11_branching_32 : decode cX11_branching 32 = .ok (.ishr, 1) := by decide +kernel
theorem dX11_branching_33 : decode cX11_branching 33 = .ok (.bipush 31, 2) := by decide +kernel
theorem dX11_branching_35 : decode cX11_branching 35 = .ok (.ishl, 1) := by decide +kernel
theorem dX11_branching_36 : decode cX11_branching 36 = .ok (.ior, 1) := by decide +kernel
theorem dX11_branching_37 : decode cX11_branching 37 = .ok (.ireturn, 1) := by decide +kernel
theorem dX11_jumping_0 : decode cX11_jumping 0 = .ok (.iload_n 0, 1) := by decide +kernel
theorem dX11_jumping_1 : decode cX11_jumping 1 = .ok (.iconst 1, 1) := by decide +kernel
theorem dX11_jumping_2 : decode cX11_jumping 2 = .ok (.ishr, 1) := by decide +kernel
theorem dX11_jumping_3 : decode cX11_jumping 3 = .ok (.sipush 1023, 3) := by decide +kernel
theorem dX11_jumping_6 : decode cX11_jumping 6 = .ok (.iand, 1) := by decide +kernel
theorem dX11_jumping_7 : decode cX11_jumping 7 = .ok (.bipush 21, 2) := by decide +kernel
theorem dX11_jumping_9 : decode cX11_jumping 9 = .ok (.ishl, 1) := by decide +kernel
theorem dX11_jumping_10 : decode cX11_jumping 10 = .ok (.iload_n 0, 1) := by decide +kernel
theorem dX11_jumping_11 : decode cX11_jumping 11 = .ok (.bipush 11, 2) := by decide +kernel
theorem dX11_jumping_13 : decode cX11_jumping 13 = .ok (.ishr, 1) := by decide +kernel
theorem dX11_jumping_14 : decode cX11_jumping 14 = .ok (.iconst 1, 1) := by decide +kernel
theorem dX11_jumping_15 : decode cX11_jumping 15 = .ok (.iand, 1) := by decide +kernel
theorem dX11_jumping_16 : decode cX11_jumping 16 = .ok (.bipush 20, 2) := by decide +kernel
theorem dX11_jumping_18 : decode cX11_jumping 18 = .ok (.ishl, 1) := by decide +kernel
theorem dX11_jumping_19 : decode cX11_jumping 19 = .ok (.ior, 1) := by decide +kernel
theorem dX11_jumping_20 : decode cX11_jumping 20 = .ok (.iload_n 0, 1) := by decide +kernel
theorem dX11_jumping_21 : decode cX11_jumping 21 = .ok (.bipush 12, 2) := by decide +kernel
theorem dX11_jumping_23 : decode cX11_jumping 23 = .ok (.ishr, 1) := by decide +kernel
theorem dX11_jumping_24 : decode cX11_jumping 24 = .ok (.sipush 255, 3) := by decide +kernel
theorem dX11_jumping_27 : decode cX11_jumping 27 = .ok (.iand, 1) := by decide +kernel
theorem dX11_jumping_28 : decode cX11_jumping 28 = .ok (.bipush 12, 2) := by decide +kernel
theorem dX11_jumping_30 : decode cX11_jumping 30 = .ok (.ishl, 1) := by decide +kernel
theorem dX11_jumping_31 : decode cX11_jumping 31 = .ok (.ior, 1) := by decide +kernel
theorem dX11_jumping_32 : decode cX11_jumping 32 = .ok (.iload_n 0, 1) := by decide +kernel
theorem dX11_jumping_33 : decode cX11_jumping 33 = .ok (.bipush 20, 2) := by decide +kernel
theorem dX11_jumping_35 : decode cX11_jumping 35 = .ok (.ishr, 1) := by decide +kernel
theorem dX11_jumping_36 : decode cX11_jumping 36 = .ok (.bipush 31, 2) := by decide +kernel
theorem dX11_jumping_38 : decode cX11_jumping 38 = .ok (.ishl, 1) := by decide +kernel
theorem dX11_jumping_39 : decode cX11_jumping 39 = .ok (.ior, 1) := by decide +kernel
theorem dX11_jumping_40 : decode cX11_jumping 40 = .ok (.ireturn, 1) := by decide +kernel
theorem dX11_distance_0 : decode cX11_distance 0 = .ok (.aload_n 0, 1) := by decide +kernel
theorem dX11_distance_1 : decode cX11_distance 1 = .ok (.invokevirtual 95, 3) := by decide +kernel
theorem dX11_distance_4 : decode cX11_distance 4 = .ok (.iload_n 1, 1) := by decide +kernel
theorem dX11_distance_5 : decode cX11_distance 5 = .ok (.ifCond .eq 9, 3) := by decide +kernel
theorem dX11_distance_8 : decode cX11_distance 8 = .ok (.ldc2_w 191, 3) := by decide +kernel
theorem dX11_distance_11 : decode cX11_distance 11 = .ok (.goto 6, 3) := by decide +kernel
theorem dX11_distance_14 : decode cX11_distance 14 = .ok (.ldc2_w 193, 3) := by decide +kernel
theorem dX11_distance_17 : decode cX11_distance 17 = .ok (.lstore_n 2, 1) := by decide +kernel
theorem dX11_distance_18 : decode cX11_distance 18 = .ok (.aload_n 0, 1) := by decide +kernel
theorem dX11_distance_19 : decode cX11_distance 19 = .ok (.aload_n 0, 1) := by decide +kernel
theorem dX11_distance_20 : decode cX11_distance 20 = .ok (.getfield 88, 3) := by decide +kernel
theorem dX11_distance_23 : decode cX11_distance 23 = .ok (.invokevirtual 91, 3) := by decide +kernel
theorem dX11_distance_26 : decode cX11_distance 26 = .ok (.invokestatic 98, 3) := by decide +kernel
theorem dX11_distance_29 : decode cX11_distance 29 = .ok (.ifCond .eq 119, 3) := by decide +kernel
theorem dX11_distance_32 : decode cX11_distance 32 = .ok (.aload_n 0, 1) := by decide +kernel
theorem dX11_distance_33 : decode cX11_distance 33 = .ok (.invokevirtual 195, 3) := by decide +kernel
theorem dX11_distance_36 : decode cX11_distance 36 = .ok (.lstore 4, 2) := by decide +kernel
theorem dX11_distance_38 : decode cX11_distance 38 = .ok (.aload_n 0, 1) := by decide +kernel
theorem dX11_distance_39 : decode cX11_distance 39 = .ok (.aload_n 0, 1) := by decide +kernel
theorem dX11_distance_40 : decode cX11_distance 40 = .ok (.getfield 102, 3) := by decide +kernel
theorem dX11_distance_43 : decode cX11_distance 43 = .ok (.ifCond .ne 10, 3) := by decide +kernel
theorem dX11_distance_46 : decode cX11_distance 46 = .ok (.lload 4, 2) := by decide +kernel
theorem dX11_distance_48 : decode cX11_distance 48 = .ok (.lconst 0, 1) := by decide +kernel
theorem dX11_distance_49 : decode cX11_distance 49 = .ok (.lcmp, 1) := by decide +kernel
theorem dX11_distance_50 : decode cX11_distance 50 = .ok (.ifCond .ne 7, 3) := by decide +kernel
theorem dX11_distance_53 : decode cX11_distance 53 = .ok (.iconst 1, 1) := by decide +kernel
theorem dX11_distance_54 : decode cX11_distance 54 = .ok (.goto 4, 3) := by decide +kernel
theorem dX11_distance_57 : decode cX11_distance 57 = .ok (.iconst 0, 1) := by decide +kernel
theorem dX11_distance_58 : decode cX11_distance 58 = .ok (.putfield 102, 3) := by decide +kernel
theorem dX11_distance_61 : decode cX11_distance 61 = .ok (.aload_n 0, 1) := by decide +kernel
theorem dX11_distance_62 : decode cX11_distance 62 = .ok (.getfield 102, 3) := by decide +kernel
theorem dX11_distance_65 : decode cX11_distance 65 = .ok (.ifCond .ne 50, 3) := by decide +kernel
theorem dX11_distance_68 : decode cX11_distance 68 = .ok (.aload_n 0, 1) := by decide +kernel
theorem dX11_distance_69 : decode cX11_distance 69 = .ok (.getfield 199, 3) := by decide +kernel
theorem dX11_distance_72 : decode cX11_distance 72 = .ok (.sipush 128, 3) := by decide +kernel
theorem dX11_distance_75 : decode cX11_distance 75 = .ok (.if_icmp .ge 40, 3) := by decide +kernel
theorem dX11_distance_78 : decode cX11_distance 78 = .ok (.aload_n 0, 1) := by decide +kernel
theorem dX11_distance_79 : decode cX11_distance 79 = .ok (.getfield 24, 3) := by decide +kernel
theorem dX11_distance_82 : decode cX11_distance 82 = .ok (.aload_n 0, 1) := by decide +kernel
theorem dX11_distance_83 : decode cX11_distance 83 = .ok (.getfield 199, 3) := by decide +kernel
theorem dX11_distance_86 : decode cX11_distance 86 = .ok (.lload 4, 2) := by decide +kernel
theorem dX11_distance_88 : decode cX11_distance 88 = .ok (.lastore, 1) := by decide +kernel
theorem dX11_distance_89 : decode cX11_distance 89 = .ok (.aload_n 0, 1) := by decide +kernel
theorem dX11_distance_90 : decode cX11_distance 90 = .ok (.getfield 27, 3) := by decide +kernel
theorem dX11_distance_93 : decode cX11_distance 93 = .ok (.aload_n 0, 1) := by decide +kernel
theorem dX11_distance_94 : decode cX11_distance 94 = .ok (.getfield 199, 3) := by decide +kernel
theorem dX11_distance_97 : decode cX11_distance 97 = .ok (.aload_n 0, 1) := by decide +kernel
theorem dX11_distance_98 : decode cX11_distance 98 = .ok (.getfield 202, 3) := by decide +kernel
theorem dX11_distance_101 : decode cX11_distance 101 = .ok (.iastore, 1) := by decide +kernel
theorem dX11_distance_102 : decode cX11_distance 102 = .ok (.aload_n 0, 1) := by decide +kernel
theorem dX11_distance_103 : decode cX11_distance 103 = .ok (.getfield 30, 3) := by decide +kernel
theorem dX11_distance_106 : decode cX11_distance 106 = .ok (.aload_n 0, 1) := by decide +kernel
theorem dX11_distance_107 : decode cX11_distance 107 = .ok (.getfield 199, 3) := by decide +kernel
theorem dX11_distance_110 : decode cX11_distance 110 = .ok (.aload_n 0, 1) := by decide +kernel
theorem dX11_distance_111 : decode cX11_distance 111 = .ok (.getfield 205, 3) := by decide +kernel
theorem dX11_distance_114 : decode cX11_distance 114 = .ok (.iastore, 1) := by decide +kernel
theorem dX11_distance_115 : decode cX11_distance 115 = .ok (.aload_n 0, 1) := by decide +kernel
theorem dX11_distance_116 : decode cX11_distance 116 = .ok (.dup, 1) := by decide +kernel
theorem dX11_distance_117 : decode cX11_distance 117 = .ok (.getfield 199, 3) := by decide +kernel
theorem dX11_distance_120 : decode cX11_distance 120 = .ok (.aload_n 0, 1) := by decide +kernel
theorem dX11_distance_121 : decode cX11_distance 121 = .ok (.getfield 102, 3) := by decide +kernel
theorem dX11_distance_124 : decode cX11_distance 124 = .ok (.ifCond .ne 13, 3) := by decide +kernel
theorem dX11_distance_127 : decode cX11_distance 127 = .ok (.aload_n 0, 1) := by decide +kernel
theorem dX11_distance_128 : decode cX11_distance 128 = .ok (.getfield 199, 3) := by decide +kernel
theorem dX11_distance_131 : decode cX11_distance 131 = .ok (.sipush 128, 3) := by decide +kernel
theorem dX11_distance_134 : decode cX11_distance 134 = .ok (.if_icmp .ne 7, 3) := by decide +kernel
theorem dX11_distance_137 : decode cX11_distance 137 = .ok (.iconst 0, 1) := by decide +kernel
theorem dX11_distance_138 : decode cX11_distance 138 = .ok (.goto 4, 3) := by decide +kernel
theorem dX11_distance_141 : decode cX11_distance 141 = .ok (.iconst 1, 1) := by decide +kernel
theorem dX11_distance_142 : decode cX11_distance 142 = .ok (.iadd, 1) := by decide +kernel
theorem dX11_distance_143 : decode cX11_distance 143 = .ok (.putfield 199, 3) := by decide +kernel
theorem dX11_distance_146 : decode cX11_distance 146 = .ok (.iconst 0, 1) := by decide +kernel
theorem dX11_distance_147 : decode cX11_distance 147 = .ok (.ireturn, 1) := by decide +kernel
theorem dX11_distance_148 : decode cX11_distance 148 = .ok (.aload_n 0, 1) := by decide +kernel
theorem dX11_distance_149 : decode cX11_distance 149 = .ok (.lload_n 2, 1) := by decide +kernel
theorem dX11_distance_150 : decode cX11_distance 150 = .ok (.lneg, 1) := by decide +kernel
theorem dX11_distance_151 : decode cX11_distance 151 = .ok (.ldc2_w 208, 3) := by decide +kernel
theorem dX11_distance_154 : decode cX11_distance 154 = .ok (.lsub, 1) := by decide +kernel
theorem dX11_distance_155 : decode cX11_distance 155 = .ok (.lload_n 2, 1) := by decide +kernel
theorem dX11_distance_156 : decode cX11_distance 156 = .ok (.invokevirtual 210, 3) := by decide +kernel
theorem dX11_distance_159 : decode cX11_distance 159 = .ok (.lstore 4, 2) := by decide +kernel
theorem dX11_distance_161 : decode cX11_distance 161 = .ok (.aload_n 0, 1) := by decide +kernel
theorem dX11_distance_162 : decode cX11_distance 162 = .ok (.aload_n 0, 1) := by decide +kernel
theorem dX11_distance_163 : decode cX11_distance 163 = .ok (.getfield 111, 3) := by decide +kernel
theorem dX11_distance_166 : decode cX11_distance 166 = .ok (.ifCond .ne 12, 3) := by decide +kernel
theorem dX11_distance_169 : decode cX11_distance 169 = .ok (.lload 4, 2) := by decide +kernel
theorem dX11_distance_171 : decode cX11_distance 171 = .ok (.lconst 1, 1) := by decide +kernel
theorem dX11_distance_172 : decode cX11_distance 172 = .ok (.land, 1) := by decide +kernel
theorem dX11_distance_173 : decode cX11_distance 173 = .ok (.lconst 0, 1) := by decide +kernel
theorem dX11_distance_174 : decode cX11_distance 174 = .ok (.lcmp, 1) := by decide +kernel
theorem dX11_distance_175 : decode cX11_distance 175 = .ok (.ifCond .eq 7, 3) := by decide +kernel
theorem dX11_distance_178 : decode cX11_distance 178 = .ok (.iconst 1, 1) := by decide +kernel
theorem dX11_distance_179 : decode cX11_distance 179 = .ok (.goto 4, 3) := by decide +kernel
theorem dX11_distance_182 : decode cX11_distance 182 = .ok (.iconst 0, 1) := by decide +kernel
theorem dX11_distance_183 : decode cX11_distance 183 = .ok (.putfield 111, 3) := by decide +kernel
theorem dX11_distance_186 : decode cX11_distance 186 = .ok (.iload_n 1, 1) := by decide +kernel
theorem dX11_distance_187 : decode cX11_distance 187 = .ok (.ifCond .eq 12, 3) := by decide +kernel
theorem dX11_distance_190 : decode cX11_distance 190 = .ok (.lload 4, 2) := by decide +kernel
theorem dX11_distance_192 : decode cX11_distance 192 = .ok (.l2i, 1) := by decide +kernel
theorem dX11_distance_193 : decode cX11_distance 193 = .ok (.invokestatic 214, 3) := by decide +kernel
theorem dX11_distance_196 : decode cX11_distance 196 = .ok (.goto 9, 3) := by decide +kernel
theorem dX11_distance_199 : decode cX11_distance 199 = .ok (.lload 4, 2) := by decide +kernel
theorem dX11_distance_201 : decode cX11_distance 201 = .ok (.l2i, 1) := by decide +kernel
theorem dX11_distance_202 : decode cX11_distance 202 = .ok (.invokestatic 217, 3) := by decide +kernel
theorem dX11_distance_205 : decode cX11_distance 205 = .ok (.ireturn, 1) := by decide +kernel
theorem dX11_pair_0 : decode cX11_pair 0 = .ok (.aload_n 0, 1) := by decide +kernel
theorem dX11_pair_1 : decode cX11_pair 1 = .ok (.invokevirtual 220, 3) := by decide +kernel
theorem dX11_pair_4 : decode cX11_pair 4 = .ok (.istore_n 3, 1) := by decide +kernel
theorem dX11_pair_5 : decode cX11_pair 5 = .ok (.aload_n 0, 1) := by decide +kernel
theorem dX11_pair_6 : decode cX11_pair 6 = .ok (.bipush 44, 2) := by decide +kernel
theorem dX11_pair_8 : decode cX11_pair 8 = .ok (.invokevirtual 224, 3) := by decide +kernel
theorem dX11_pair_11 : decode cX11_pair 11 = .ok (.aload_n 0, 1) := by decide +kernel
theorem dX11_pair_12 : decode cX11_pair 12 = .ok (.invokevirtual 220, 3) := by decide +kernel
theorem dX11_pair_15 : decode cX11_pair 15 = .ok (.istore 4, 2) := by decide +kernel
theorem dX11_pair_17 : decode cX11_pair 17 = .ok (.iload_n 3, 1) := by decide +kernel
theorem dX11_pair_18 : decode cX11_pair 18 = .ok (.iload_n 1, 1) := by decide +kernel
theorem dX11_pair_19 : decode cX11_pair 19 = .ok (.ishl, 1) := by decide +kernel
theorem dX11_pair_20 : decode cX11_pair 20 = .ok (.iload 4, 2) := by decide +kernel
theorem dX11_pair_22 : decode cX11_pair 22 = .ok (.iload_n 2, 1) := by decide +kernel
theorem dX11_pair_23 : decode cX11_pair 23 = .ok (.ishl, 1) := by decide +kernel
theorem dX11_pair_24 : decode cX11_pair 24 = .ok (.ior, 1) := by decide +kernel
theorem dX11_pair_25 : decode cX11_pair 25 = .ok (.ireturn, 1) := by decide +kernel
theorem dX11_operands_0 : decode cX11_operands 0 = .ok (.iconst 0, 1) := by decide +kernel
theorem dX11_operands_1 : decode cX11_operands 1 = .ok (.istore_n 2, 1) := by decide +kernel
theorem dX11_operands_2 : decode cX11_operands 2 = .ok (.lconst 0, 1) := by decide +kernel
theorem dX11_operands_3 : decode cX11_operands 3 = .ok (.lstore_n 3, 1) := by decide +kernel
theorem dX11_operands_4 : decode cX11_operands 4 = .ok (.iload_n 1, 1) := by decide +kernel
theorem dX11_operands_5 : decode cX11_operands 5 = .ok (.tableswitch 366 1 12 #[63, 88, 139, 139, 220, 243, 265, 88, 294, 346, 366, 354], 63) := by decide +kernel
theorem dX11_operands_68 : decode cX11_operands 68 = .ok (.aload_n 0, 1) := by decide +kernel
theorem dX11_operands_69 : decode cX11_operands 69 = .ok (.bipush 7, 2) := by decide +kernel
theorem dX11_operands_71 : decode cX11_operands 71 = .ok (.bipush 15, 2) := by decide +kernel
theorem dX11_operands_73 : decode cX11_operands 73 = .ok (.invokevirtual 228, 3) := by decide +kernel
theorem dX11_operands_76 : decode cX11_operands 76 = .ok (.istore_n 2, 1) := by decide +kernel
theorem dX11_operands_77 : decode cX11_operands 77 = .ok (.aload_n 0, 1) := by decide +kernel
theorem dX11_operands_78 : decode cX11_operands 78 = .ok (.bipush 44, 2) := by decide +kernel
theorem dX11_operands_80 : decode cX11_operands 80 = .ok (.invokevirtual 224, 3) := by decide +kernel
theorem dX11_operands_83 : decode cX11_operands 83 = .ok (.iload_n 2, 1) := by decide +kernel
theorem dX11_operands_84 : decode cX11_operands 84 = .ok (.aload_n 0, 1) := by decide +kernel
theorem dX11_operands_85 : decode cX11_operands 85 = .ok (.invokevirtual 220, 3) := by decide +kernel
theorem dX11_operands_88 : decode cX11_operands 88 = .ok (.bipush 20, 2) := by decide +kernel
theorem dX11_operands_90 : decode cX11_operands 90 = .ok (.ishl, 1) := by decide +kernel
theorem dX11_operands_91 : decode cX11_operands 91 = .ok (.ior, 1) := by decide +kernel
theorem dX11_operands_92 : decode cX11_operands 92 = .ok (.ireturn, 1) := by decide +kernel
theorem dX11_operands_93 : decode cX11_operands 93 = .ok (.aload_n 0, 1) := by decide +kernel
theorem dX11_operands_94 : decode cX11_operands 94 = .ok (.bipush 7, 2) := by decide +kernel
theorem dX11_operands_96 : decode cX11_operands 96 = .ok (.bipush 15, 2) := by decide +kernel
theorem dX11_operands_98 : decode cX11_operands 98 = .ok (.invokevirtual 228, 3) := by decide +kernel
theorem dX11_operands_101 : decode cX11_operands 101 = .ok (.istore_n 2, 1) := by decide +kernel
theorem dX11_operands_102 : decode cX11_operands 102 = .ok (.aload_n 0, 1) := by decide +kernel
theorem dX11_operands_103 : decode cX11_operands 103 = .ok (.bipush 44, 2) := by decide +kernel
theorem dX11_operands_105 : decode cX11_operands 105 = .ok (.invokevirtual 224, 3) := by decide +kernel
theorem dX11_operands_108 : decode cX11_operands 108 = .ok (.iload_n 1, 1) := by decide +kernel
theorem dX11_operands_109 : decode cX11_operands 109 = .ok (.bipush 8, 2) := by decide +kernel
theorem dX11_operands_111 : decode cX11_operands 111 = .ok (.if_icmp .ne 14, 3) := by decide +kernel
theorem dX11_operands_114 : decode cX11_operands 114 = .ok (.aload_n 0, 1) := by decide +kernel
theorem dX11_operands_115 : decode cX11_operands 115 = .ok (.lconst 0, 1) := by decide +kernel
theorem dX11_operands_116 : decode cX11_operands 116 = .ok (.ldc2_w 232, 3) := by decide +kernel
theorem dX11_operands_119 : decode cX11_operands 119 = .ok (.invokevirtual 210, 3) := by decide +kernel
theorem dX11_operands_122 : decode cX11_operands 122 = .ok (.goto 13, 3) := by decide +kernel
theorem dX11_operands_125 : decode cX11_operands 125 = .ok (.aload_n 0, 1) := by decide +kernel
theorem dX11_operands_126 : decode cX11_operands 126 = .ok (.ldc2_w 234, 3) := by decide +kernel
theorem dX11_operands_129 : decode cX11_operands 129 = .ok (.ldc2_w 236, 3) := by decide +kernel
theorem dX11_operands_132 : decode cX11_operands 132 = .ok (.invokevirtual 210, 3) := by decide +kernel
theorem dX11_operands_135 : decode cX11_operands 135 = .ok (.lstore_n 3, 1) := by decide +kernel
theorem dX11_operands_136 : decode cX11_operands 136 = .ok (.iload_n 2, 1) := by decide +kernel
theorem dX11_operands_137 : decode cX11_operands 137 = .ok (.lload_n 3, 1) := by decide +kernel
theorem dX11_operands_138 : decode cX11_operands 138 = .ok (.l2i, 1) := by decide +kernel
theorem dX11_operands_139 : decode cX11_operands 139 = .ok (.invokestatic 238, 3) := by decide +kernel
theorem dX11_operands_142 : decode cX11_operands 142 = .ok (.ior, 1) := by decide +kernel
theorem dX11_operands_143 : decode cX11_operands 143 = .ok (.ireturn, 1) := by decide +kernel
theorem dX11_operands_144 : decode cX11_operands 144 = .ok (.aload_n 0, 1) := by decide +kernel
theorem dX11_operands_145 : decode cX11_operands 145 = .ok (.invokevirtual 220, 3) := by decide +kernel
theorem dX11_operands_148 : decode cX11_operands 148 = .ok (.istore_n 2, 1) := by decide +kernel
theorem dX11_operands_149 : decode cX11_operands 149 = .ok (.aload_n 0, 1) := by decide +kernel
theorem dX11_operands_150 : decode cX11_operands 150 = .ok (.bipush 44, 2) := by decide +kernel
theorem dX11_operands_152 : decode cX11_operands 152 = .ok (.invokevirtual 224, 3) := by decide +kernel
theorem dX11_operands_155 : decode cX11_operands 155 = .ok (.aload_n 0, 1) := by decide +kernel
theorem dX11_operands_156 : decode cX11_operands 156 = .ok (.ldc2_w 234, 3) := by decide +kernel
theorem dX11_operands_159 : decode cX11_operands 159 = .ok (.ldc2_w 236, 3) := by decide +kernel
theorem dX11_operands_162 : decode cX11_operands 162 = .ok (.invokevirtual 210, 3) := by decide +kernel
theorem dX11_operands_165 : decode cX11_operands 165 = .ok (.lstore_n 3, 1) := by decide +kernel
theorem dX11_operands_166 : decode cX11_operands 166 = .ok (.aload_n 0, 1) := by decide +kernel
theorem dX11_operands_167 : decode cX11_operands 167 = .ok (.bipush 40, 2) := by decide +kernel
theorem dX11_operands_169 : decode cX11_operands 169 = .ok (.invokevirtual 224, 3) := by decide +kernel
theorem dX11_operands_172 : decode cX11_operands 172 = .ok (.aload_n 0, 1) := by decide +kernel
theorem dX11_operands_173 : decode cX11_operands 173 = .ok (.invokevirtual 220, 3) := by decide +kernel
theorem dX11_operands_176 : decode cX11_operands 176 = .ok (.istore 5, 2) := by decide +kernel
theorem dX11_operands_178 : decode cX11_operands 178 = .ok (.aload_n 0, 1) := by decide +kernel
theorem dX11_operands_179 : decode cX11_operands 179 = .ok (.bipush 41, 2) := by decide +kernel
theorem dX11_operands_181 : decode cX11_operands 181 = .ok (.invokevirtual 224, 3) := by decide +kernel
theorem dX11_operands_184 : decode cX11_operands 184 = .ok (.iload_n 1, 1) := by decide +kernel
theorem dX11_operands_185 : decode cX11_operands 185 = .ok (.iconst 3, 1) := by decide +kernel
theorem dX11_operands_186 : decode cX11_operands 186 = .ok (.if_icmp .ne 22, 3) := by decide +kernel
theorem dX11_operands_189 : decode cX11_operands 189 = .ok (.iload_n 2, 1) := by decide +kernel
theorem dX11_operands_190 : decode cX11_operands 190 = .ok (.bipush 7, 2) := by decide +kernel
theorem dX11_operands_192 : decode cX11_operands 192 = .ok (.ishl, 1) := by decide +kernel
theorem dX11_operands_193 : decode cX11_operands 193 = .ok (.iload 5, 2) := by decide +kernel
theorem dX11_operands_195 : decode cX11_operands 195 = .ok (.bipush 15, 2) := by decide +kernel
theorem dX11_operands_197 : decode cX11_operands 197 = .ok (.ishl, 1) := by decide +kernel
theorem dX11_operands_198 : decode cX11_operands 198 = .ok (.ior, 1) := by decide +kernel
theorem dX11_operands_199 : decode cX11_operands 199 = .ok (.lload_n 3, 1) := by decide +kernel
theorem dX11_operands_200 : decode cX11_operands 200 = .ok (.l2i, 1) := by decide +kernel
theorem dX11_operands_201 : decode cX11_operands 201 = .ok (.invokestatic 238, 3) := by decide +kernel
theorem dX11_operands_204 : decode cX11_operands 204 = .ok (.ior, 1) := by decide +kernel
theorem dX11_operands_205 : decode cX11_operands 205 = .ok (.goto 19, 3) := by decide +kernel
theorem dX11_operands_208 : decode cX11_operands 208 = .ok (.iload_n 2, 1) := by decide +kernel
theorem dX11_operands_209 : decode cX11_operands 209 = .ok (.bipush 20, 2) := by decide +kernel
theorem dX11_operands_211 : decode cX11_operands 211 = .ok (.ishl, 1) := by decide +kernel
theorem dX11_operands_212 : decode cX11_operands 212 = .ok (.iload 5, 2) := by decide +kernel
theorem dX11_operands_214 : decode cX11_operands 214 = .ok (.bipush 15, 2) := by decide +kernel
theorem dX11_operands_216 : decode cX11_operands 216 = .ok (.ishl, 1) := by decide +kernel
theorem dX11_operands_217 : decode cX11_operands 217 = .ok (.ior, 1) := by decide +kernel
theorem dX11_operands_218 : decode cX11_operands 218 = .ok (.lload_n 3, 1) := by decide +kernel
theorem dX11_operands_219 : decode cX11_operands 219 = .ok (.l2i, 1) := by decide +kernel
theorem dX11_operands_220 : decode cX11_operands 220 = .ok (.invokestatic 241, 3) := by decide +kernel
theorem dX11_operands_223 : decode cX11_operands 223 = .ok (.ior, 1) := by decide +kernel
theorem dX11_operands_224 : decode cX11_operands 224 = .ok (.ireturn, 1) := by decide +kernel
theorem dX11_operands_225 : decode cX11_operands 225 = .ok (.aload_n 0, 1) := by decide +kernel
theorem dX11_operands_226 : decode cX11_operands 226 = .ok (.bipush 15, 2) := by decide +kernel
theorem dX11_operands_228 : decode cX11_operands 228 = .ok (.bipush 20, 2) := by decide +kernel
theorem dX11_operands_230 : decode cX11_operands 230 = .ok (.invokevirtual 228, 3) := by decide +kernel
theorem dX11_operands_233 : decode cX11_operands 233 = .ok (.istore_n 2, 1) := by decide +kernel
theorem dX11_operands_234 : decode cX11_operands 234 = .ok (.aload_n 0, 1) := by decide +kernel
theorem dX11_operands_235 : decode cX11_operands 235 = .ok (.bipush 44, 2) := by decide +kernel
theorem dX11_operands_237 : decode cX11_operands 237 = .ok (.invokevirtual 224, 3) := by decide +kernel
theorem dX11_operands_240 : decode cX11_operands 240 = .ok (.iload_n 2, 1) := by decide +kernel
theorem dX11_operands_241 : decode cX11_operands 241 = .ok (.aload_n 0, 1) := by decide +kernel
theorem dX11_operands_242 : decode cX11_operands 242 = .ok (.iconst 0, 1) := by decide +kernel
theorem dX11_operands_243 : decode cX11_operands 243 = .ok (.invokevirtual 244, 3) := by decide +kernel
theorem dX11_operands_246 : decode cX11_operands 246 = .ok (.ior, 1) := by decide +kernel
theorem dX11_operands_247 : decode cX11_operands 247 = .ok (.ireturn, 1) := by decide +kernel
theorem dX11_operands_248 : decode cX11_operands 248 = .ok (.aload_n 0, 1) := by decide +kernel
theorem dX11_operands_249 : decode cX11_operands 249 = .ok (.invokevirtual 220, 3) := by decide +kernel
theorem dX11_operands_252 : decode cX11_operands 252 = .ok (.bipush 7, 2) := by decide +kernel
theorem dX11_operands_254 : decode cX11_operands 254 = .ok (.ishl, 1) := by decide +kernel
theorem dX11_operands_255 : decode cX11_operands 255 = .ok (.istore_n 2, 1) := by decide +kernel
theorem dX11_operands_256 : decode cX11_operands 256 = .ok (.aload_n 0, 1) := by decide +kernel
theorem dX11_operands_257 : decode cX11_operands 257 = .ok (.bipush 44, 2) := by decide +kernel
theorem dX11_operands_259 : decode cX11_operands 259 = .ok (.invokevirtual 224, 3) := by decide +kernel
theorem dX11_operands_262 : decode cX11_operands 262 = .ok (.iload_n 2, 1) := by decide +kernel
theorem dX11_operands_263 : decode cX11_operands 263 = .ok (.aload_n 0, 1) := by decide +kernel
theorem dX11_operands_264 : decode cX11_operands 264 = .ok (.iconst 1, 1) := by decide +kernel
theorem dX11_operands_265 : decode cX11_operands 265 = .ok (.invokevirtual 244, 3) := by decide +kernel
theorem dX11_operands_268 : decode cX11_operands 268 = .ok (.ior, 1) := by decide +kernel
theorem dX11_operands_269 : decode cX11_operands 269 = .ok (.ireturn, 1) := by decide +kernel
theorem dX11_operands_270 : decode cX11_operands 270 = .ok (.aload_n 0, 1) := by decide +kernel
theorem dX11_operands_271 : decode cX11_operands 271 = .ok (.invokevirtual 220, 3) := by decide +kernel
theorem dX11_operands_274 : decode cX11_operands 274 = .ok (.bipush 7, 2) := by decide +kernel
theorem dX11_operands_276 : decode cX11_operands 276 = .ok (.ishl, 1) := by decide +kernel
theorem dX11_operands_277 : decode cX11_operands 277 = .ok (.istore_n 2, 1) := by decide +kernel
theorem dX11_operands_278 : decode cX11_operands 278 = .ok (.aload_n 0, 1) := by decide +kernel
theorem dX11_operands_279 : decode cX11_operands 279 = .ok (.bipush 44, 2) := by decide +kernel
theorem dX11_operands_281 : decode cX11_operands 281 = .ok (.invokevirtual 224, 3) := by decide +kernel
theorem dX11_operands_284 : decode cX11_operands 284 = .ok (.iload_n 2, 1) := by decide +kernel
theorem dX11_operands_285 : decode cX11_operands 285 = .ok (.aload_n 0, 1) := by decide +kernel
theorem dX11_operands_286 : decode cX11_operands 286 = .ok (.lconst 0, 1) := by decide +kernel
theorem dX11_operands_287 : decode cX11_operands 287 = .ok (.ldc2_w 248, 3) := by decide +kernel
theorem dX11_operands_290 : decode cX11_operands 290 = .ok (.invokevirtual 210, 3) := by decide +kernel
theorem dX11_operands_293 : decode cX11_operands 293 = .ok (.l2i, 1) := by decide +kernel
theorem dX11_operands_294 : decode cX11_operands 294 = .ok (.bipush 12, 2) := by decide +kernel
theorem dX11_operands_296 : decode cX11_operands 296 = .ok (.ishl, 1) := by decide +kernel
theorem dX11_operands_297 : decode cX11_operands 297 = .ok (.ior, 1) := by decide +kernel
theorem dX11_operands_298 : decode cX11_operands 298 = .ok (.ireturn, 1) := by decide +kernel
theorem dX11_operands_299 : decode cX11_operands 299 = .ok (.aload_n 0, 1) := by decide +kernel
theorem dX11_operands_300 : decode cX11_operands 300 = .ok (.lconst 0, 1) := by decide +kernel
theorem dX11_operands_301 : decode cX11_operands 301 = .ok (.ldc2_w 250, 3) := by decide +kernel
theorem dX11_operands_304 : decode cX11_operands 304 = .ok (.invokevirtual 210, 3) := by decide +kernel
theorem dX11_operands_307 : decode cX11_operands 307 = .ok (.lstore_n 3, 1) := by decide +kernel
theorem dX11_operands_308 : decode cX11_operands 308 = .ok (.aload_n 0, 1) := by decide +kernel
theorem dX11_operands_309 : decode cX11_operands 309 = .ok (.bipush 44, 2) := by decide +kernel
theorem dX11_operands_311 : decode cX11_operands 311 = .ok (.invokevirtual 224, 3) := by decide +kernel
theorem dX11_operands_314 : decode cX11_operands 314 = .ok (.lload_n 3, 1) := by decide +kernel
theorem dX11_operands_315 : decode cX11_operands 315 = .ok (.l2i, 1) := by decide +kernel
theorem dX11_operands_316 : decode cX11_operands 316 = .ok (.bipush 7, 2) := by decide +kernel
theorem dX11_operands_318 : decode cX11_operands 318 = .ok (.ishl, 1) := by decide +kernel
theorem dX11_operands_319 : decode cX11_operands 319 = .ok (.aload_n 0, 1) := by decide +kernel
theorem dX11_operands_320 : decode cX11_operands 320 = .ok (.invokevirtual 220, 3) := by decide +kernel
theorem dX11_operands_323 : decode cX11_operands 323 = .ok (.bipush 15, 2) := by decide +kernel
theorem dX11_operands_325 : decode cX11_operands 325 = .ok (.ishl, 1) := by decide +kernel
theorem dX11_operands_326 : decode cX11_operands 326 = .ok (.ior, 1) := by decide +kernel
theorem dX11_operands_327 : decode cX11_operands 327 = .ok (.istore_n 2, 1) := by decide +kernel
theorem dX11_operands_328 : decode cX11_operands 328 = .ok (.aload_n 0, 1) := by decide +kernel
theorem dX11_operands_329 : decode cX11_operands 329 = .ok (.bipush 44, 2) := by decide +kernel
theorem dX11_operands_331 : decode cX11_operands 331 = .ok (.invokevirtual 224, 3) := by decide +kernel
theorem dX11_operands_334 : decode cX11_operands 334 = .ok (.iload_n 2, 1) := by decide +kernel
theorem dX11_operands_335 : decode cX11_operands 335 = .ok (.aload_n 0, 1) := by decide +kernel
theorem dX11_operands_336 : decode cX11_operands 336 = .ok (.ldc2_w 234, 3) := by decide +kernel
theorem dX11_operands_339 : decode cX11_operands 339 = .ok (.ldc2_w 236, 3) := by decide +kernel
theorem dX11_operands_342 : decode cX11_operands 342 = .ok (.invokevirtual 210, 3) := by decide +kernel
theorem dX11_operands_345 : decode cX11_operands 345 = .ok (.l2i, 1) := by decide +kernel
theorem dX11_operands_346 : decode cX11_operands 346 = .ok (.invokestatic 238, 3) := by decide +kernel
theorem dX11_operands_349 : decode cX11_operands 349 = .ok (.ior, 1) := by decide +kernel
theorem dX11_operands_350 : decode cX11_operands 350 = .ok (.ireturn, 1) := by decide +kernel
theorem dX11_operands_351 : decode cX11_operands 351 = .ok (.aload_n 0, 1) := by decide +kernel
theorem dX11_operands_352 : decode cX11_operands 352 = .ok (.invokevirtual 220, 3) := by decide +kernel
theorem dX11_operands_355 : decode cX11_operands 355 = .ok (.bipush 7, 2) := by decide +kernel
theorem dX11_operands_357 : decode cX11_operands 357 = .ok (.ishl, 1) := by decide +kernel
theorem dX11_operands_358 : decode cX11_operands 358 = .ok (.ireturn, 1) := by decide +kernel
theorem dX11_operands_359 : decode cX11_operands 359 = .ok (.aload_n 0, 1) := by decide +kernel
theorem dX11_operands_360 : decode cX11_operands 360 = .ok (.ldc2_w 252, 3) := by decide +kernel
theorem dX11_operands_363 : decode cX11_operands 363 = .ok (.ldc2_w 254, 3) := by decide +kernel
theorem dX11_operands_366 : decode cX11_operands 366 = .ok (.invokevirtual 210, 3) := by decide +kernel
theorem dX11_operands_369 : decode cX11_operands 369 = .ok (.l2i, 1) := by decide +kernel
theorem dX11_operands_370 : decode cX11_operands 370 = .ok (.ireturn, 1) := by decide +kernel
theorem dX11_operands_371 : decode cX11_operands 371 = .ok (.iconst 0, 1) := by decide +kernel
theorem dX11_operands_372 : decode cX11_operands 372 = .ok (.ireturn, 1) := by decide +kernel
theorem dX11_labelOf_0 : decode cX11_labelOf 0 = .ok (.iconst (-1), 1) := by decide +kernel
theorem dX11_labelOf_1 : decode cX11_labelOf 1 = .ok (.istore_n 3, 1) := by decide +kernel
theorem dX11_labelOf_2 : decode cX11_labelOf 2 = .ok (.iconst 0, 1) := by decide +kernel
theorem dX11_labelOf_3 : decode cX11_labelOf 3 = .ok (.istore 4, 2) := by decide +kernel
theorem dX11_labelOf_5 : decode cX11_labelOf 5 = .ok (.iload 4, 2) := by decide +kernel
theorem dX11_labelOf_7 : decode cX11_labelOf 7 = .ok (.aload_n 0, 1) := by decide +kernel
theorem dX11_labelOf_8 : decode cX11_labelOf 8 = .ok (.getfield 256, 3) := by decide +kernel
theorem dX11_labelOf_11 : decode cX11_labelOf 11 = .ok (.if_icmp .ge 28, 3) := by decide +kernel
theorem dX11_labelOf_14 : decode cX11_labelOf 14 = .ok (.aload_n 0, 1) := by decide +kernel
theorem dX11_labelOf_15 : decode cX11_labelOf 15 = .ok (.getfield 17, 3) := by decide +kernel
theorem dX11_labelOf_18 : decode cX11_labelOf 18 = .ok (.iload 4, 2) := by decide +kernel
theorem dX11_labelOf_20 : decode cX11_labelOf 20 = .ok (.laload, 1) := by decide +kernel
theorem dX11_labelOf_21 : decode cX11_labelOf 21 = .ok (.lload_n 1, 1) := by decide +kernel
theorem dX11_labelOf_22 : decode cX11_labelOf 22 = .ok (.lcmp, 1) := by decide +kernel
theorem dX11_labelOf_23 : decode cX11_labelOf 23 = .ok (.ifCond .ne 8, 3) := by decide +kernel
theorem dX11_labelOf_26 : decode cX11_labelOf 26 = .ok (.iload 4, 2) := by decide +kernel
theorem dX11_labelOf_28 : decode cX11_labelOf 28 = .ok (.goto 4, 3) := by decide +kernel
theorem dX11_labelOf_31 : decode cX11_labelOf 31 = .ok (.iload_n 3, 1) := by decide +kernel
theorem dX11_labelOf_32 : decode cX11_labelOf 32 = .ok (.istore_n 3, 1) := by decide +kernel
theorem dX11_labelOf_33 : decode cX11_labelOf 33 = .ok (.iinc 4 1, 3) := by decide +kernel
theorem dX11_labelOf_36 : decode cX11_labelOf 36 = .ok (.goto (-31), 3) := by decide +kernel
theorem dX11_labelOf_39 : decode cX11_labelOf 39 = .ok (.iload_n 3, 1) := by decide +kernel
theorem dX11_labelOf_40 : decode cX11_labelOf 40 = .ok (.ireturn, 1) := by decide +kernel
theorem dX11_takeLine_0 : decode cX11_takeLine 0 = .ok (.aload_n 0, 1) := by decide +kernel
theorem dX11_takeLine_1 : decode cX11_takeLine 1 = .ok (.iconst 0, 1) := by decide +kernel
theorem dX11_takeLine_2 : decode cX11_takeLine 2 = .ok (.putfield 102, 3) := by decide +kernel
theorem dX11_takeLine_5 : decode cX11_takeLine 5 = .ok (.aload_n 0, 1) := by decide +kernel
theorem dX11_takeLine_6 : decode cX11_takeLine 6 = .ok (.iconst 0, 1) := by decide +kernel
theorem dX11_takeLine_7 : decode cX11_takeLine 7 = .ok (.putfield 111, 3) := by decide +kernel
theorem dX11_takeLine_10 : decode cX11_takeLine 10 = .ok (.iconst 0, 1) := by decide +kernel
theorem dX11_takeLine_11 : decode cX11_takeLine 11 = .ok (.istore_n 2, 1) := by decide +kernel
theorem dX11_takeLine_12 : decode cX11_takeLine 12 = .ok (.iconst 0, 1) := by decide +kernel
theorem dX11_takeLine_13 : decode cX11_takeLine 13 = .ok (.istore_n 3, 1) := by decide +kernel
theorem dX11_takeLine_14 : decode cX11_takeLine 14 = .ok (.aload_n 0, 1) := by decide +kernel
theorem dX11_takeLine_15 : decode cX11_takeLine 15 = .ok (.invokevirtual 95, 3) := by decide +kernel
theorem dX11_takeLine_18 : decode cX11_takeLine 18 = .ok (.aload_n 0, 1) := by decide +kernel
theorem dX11_takeLine_19 : decode cX11_takeLine 19 = .ok (.getfield 88, 3) := by decide +kernel
theorem dX11_takeLine_22 : decode cX11_takeLine 22 = .ok (.istore 4, 2) := by decide +kernel
theorem dX11_takeLine_24 : decode cX11_takeLine 24 = .ok (.aload_n 0, 1) := by decide +kernel
theorem dX11_takeLine_25 : decode cX11_takeLine 25 = .ok (.invokevirtual 195, 3) := by decide +kernel
theorem dX11_takeLine_28 : decode cX11_takeLine 28 = .ok (.lstore 5, 2) := by decide +kernel
theorem dX11_takeLine_30 : decode cX11_takeLine 30 = .ok (.aload_n 0, 1) := by decide +kernel
theorem dX11_takeLine_31 : decode cX11_takeLine 31 = .ok (.getfield 88, 3) := by decide +kernel
theorem dX11_takeLine_34 : decode cX11_takeLine 34 = .ok (.iload 4, 2) := by decide +kernel
theorem dX11_takeLine_36 : decode cX11_takeLine 36 = .ok (.if_icmp .le 7, 3) := by decide +kernel
theorem dX11_takeLine_39 : decode cX11_takeLine 39 = .ok (.iconst 1, 1) := by decide +kernel
theorem dX11_takeLine_40 : decode cX11_takeLine 40 = .ok (.goto 4, 3) := by decide +kernel
theorem dX11_takeLine_43 : decode cX11_takeLine 43 = .ok (.iconst 0, 1) := by decide +kernel
theorem dX11_takeLine_44 : decode cX11_takeLine 44 = .ok (.istore 7, 2) := by decide +kernel
theorem dX11_takeLine_46 : decode cX11_takeLine 46 = .ok (.aload_n 0, 1) := by decide +kernel
theorem dX11_takeLine_47 : decode cX11_takeLine 47 = .ok (.invokevirtual 95, 3) := by decide +kernel
theorem dX11_takeLine_50 : decode cX11_takeLine 50 = .ok (.iload 7, 2) := by decide +kernel
theorem dX11_takeLine_52 : decode cX11_takeLine 52 = .ok (.ifCond .eq 151, 3) := by decide +kernel
theorem dX11_takeLine_55 : decode cX11_takeLine 55 = .ok (.aload_n 0, 1) := by decide +kernel
theorem dX11_takeLine_56 : decode cX11_takeLine 56 = .ok (.aload_n 0, 1) := by decide +kernel
theorem dX11_takeLine_57 : decode cX11_takeLine 57 = .ok (.getfield 88, 3) := by decide +kernel
theorem dX11_takeLine_60 : decode cX11_takeLine 60 = .ok (.invokevirtual 91, 3) := by decide +kernel
theorem dX11_takeLine_63 : decode cX11_takeLine 63 = .ok (.bipush 58, 2) := by decide +kernel
theorem dX11_takeLine_65 : decode cX11_takeLine 65 = .ok (.if_icmp .ne 138, 3) := by decide +kernel
theorem dX11_takeLine_68 : decode cX11_takeLine 68 = .ok (.aload_n 0, 1) := by decide +kernel
theorem dX11_takeLine_69 : decode cX11_takeLine 69 = .ok (.dup, 1) := by decide +kernel
theorem dX11_takeLine_70 : decode cX11_takeLine 70 = .ok (.getfield 88, 3) := by decide +kernel
theorem dX11_takeLine_73 : decode cX11_takeLine 73 = .ok (.iconst 1, 1) := by decide +kernel
theorem dX11_takeLine_74 : decode cX11_takeLine 74 = .ok (.iadd, 1) := by decide +kernel
theorem dX11_takeLine_75 : decode cX11_takeLine 75 = .ok (.putfield 88, 3) := by decide +kernel
theorem dX11_takeLine_78 : decode cX11_takeLine 78 = .ok (.aload_n 0, 1) := by decide +kernel
theorem dX11_takeLine_79 : decode cX11_takeLine 79 = .ok (.lload 5, 2) := by decide +kernel
theorem dX11_takeLine_81 : decode cX11_takeLine 81 = .ok (.lconst 0, 1) := by decide +kernel
theorem dX11_takeLine_82 : decode cX11_takeLine 82 = .ok (.lcmp, 1) := by decide +kernel
theorem dX11_takeLine_83 : decode cX11_takeLine 83 = .ok (.ifCond .ne 7, 3) := by decide +kernel
theorem dX11_takeLine_86 : decode cX11_takeLine 86 = .ok (.iconst 1, 1) := by decide +kernel
theorem dX11_takeLine_87 : decode cX11_takeLine 87 = .ok (.goto 4, 3) := by decide +kernel
theorem dX11_takeLine_90 : decode cX11_takeLine 90 = .ok (.iconst 0, 1) := by decide +kernel
theorem dX11_takeLine_91 : decode cX11_takeLine 91 = .ok (.putfield 102, 3) := by decide +kernel
theorem dX11_takeLine_94 : decode cX11_takeLine 94 = .ok (.aload_n 0, 1) := by decide +kernel
theorem dX11_takeLine_95 : decode cX11_takeLine 95 = .ok (.getfield 256, 3) := by decide +kernel
theorem dX11_takeLine_98 : decode cX11_takeLine 98 = .ok (.bipush 16, 2) := by decide +kernel
theorem dX11_takeLine_100 : decode cX11_takeLine 100 = .ok (.if_icmp .ne 7, 3) := by decide +kernel
theorem dX11_takeLine_103 : decode cX11_takeLine 103 = .ok (.iconst 1, 1) := by decide +kernel
theorem dX11_takeLine_104 : decode cX11_takeLine 104 = .ok (.goto 4, 3) := by decide +kernel
theorem dX11_takeLine_107 : decode cX11_takeLine 107 = .ok (.iconst 0, 1) := by decide +kernel
theorem dX11_takeLine_108 : decode cX11_takeLine 108 = .ok (.istore_n 2, 1) := by decide +kernel
theorem dX11_takeLine_109 : decode cX11_takeLine 109 = .ok (.aload_n 0, 1) := by decide +kernel
theorem dX11_takeLine_110 : decode cX11_takeLine 110 = .ok (.lload 5, 2) := by decide +kernel
theorem dX11_takeLine_112 : decode cX11_takeLine 112 = .ok (.invokevirtual 259, 3) := by decide +kernel
theorem dX11_takeLine_115 : decode cX11_takeLine 115 = .ok (.ifCond .lt 7, 3) := by decide +kernel
theorem dX11_takeLine_118 : decode cX11_takeLine 118 = .ok (.iconst 1, 1) := by decide +kernel
theorem dX11_takeLine_119 : decode cX11_takeLine 119 = .ok (.goto 4, 3) := by decide +kernel
theorem dX11_takeLine_122 : decode cX11_takeLine 122 = .ok (.iconst 0, 1) := by decide +kernel
theorem dX11_takeLine_123 : decode cX11_takeLine 123 = .ok (.istore_n 3, 1) := by decide +kernel
theorem dX11_takeLine_124 : decode cX11_takeLine 124 = .ok (.aload_n 0, 1) := by decide +kernel
theorem dX11_takeLine_125 : decode cX11_takeLine 125 = .ok (.getfield 102, 3) := by decide +kernel
theorem dX11_takeLine_128 : decode cX11_takeLine 128 = .ok (.ifCond .ne 43, 3) := by decide +kernel
theorem dX11_takeLine_131 : decode cX11_takeLine 131 = .ok (.iload_n 2, 1) := by decide +kernel
theorem dX11_takeLine_132 : decode cX11_takeLine 132 = .ok (.ifCond .ne 39, 3) := by decide +kernel
theorem dX11_takeLine_135 : decode cX11_takeLine 135 = .ok (.aload_n 0, 1) := by decide +kernel
theorem dX11_takeLine_136 : decode cX11_takeLine 136 = .ok (.getfield 17, 3) := by decide +kernel
theorem dX11_takeLine_139 : decode cX11_takeLine 139 = .ok (.aload_n 0, 1) := by decide +kernel
theorem dX11_takeLine_140 : decode cX11_takeLine 140 = .ok (.getfield 256, 3) := by decide +kernel
theorem dX11_takeLine_143 : decode cX11_takeLine 143 = .ok (.lload 5, 2) := by decide +kernel
theorem dX11_takeLine_145 : decode cX11_takeLine 145 = .ok (.lastore, 1) := by decide +kernel
theorem dX11_takeLine_146 : decode cX11_takeLine 146 = .ok (.aload_n 0, 1) := by decide +kernel
theorem dX11_takeLine_147 : decode cX11_takeLine 147 = .ok (.getfield 21, 3) := by decide +kernel
theorem dX11_takeLine_150 : decode cX11_takeLine 150 = .ok (.aload_n 0, 1) := by decide +kernel
theorem dX11_takeLine_151 : decode cX11_takeLine 151 = .ok (.getfield 256, 3) := by decide +kernel
theorem dX11_takeLine_154 : decode cX11_takeLine 154 = .ok (.iload_n 1, 1) := by decide +kernel
theorem dX11_takeLine_155 : decode cX11_takeLine 155 = .ok (.aload_n 0, 1) := by decide +kernel
theorem dX11_takeLine_156 : decode cX11_takeLine 156 = .ok (.getfield 202, 3) := by decide +kernel
theorem dX11_takeLine_159 : decode cX11_takeLine 159 = .ok (.iadd, 1) := by decide +kernel
theorem dX11_takeLine_160 : decode cX11_takeLine 160 = .ok (.iastore, 1) := by decide +kernel
theorem dX11_takeLine_161 : decode cX11_takeLine 161 = .ok (.aload_n 0, 1) := by decide +kernel
theorem dX11_takeLine_162 : decode cX11_takeLine 162 = .ok (.dup, 1) := by decide +kernel
theorem dX11_takeLine_163 : decode cX11_takeLine 163 = .ok (.getfield 256, 3) := by decide +kernel
theorem dX11_takeLine_166 : decode cX11_takeLine 166 = .ok (.iconst 1, 1) := by decide +kernel
theorem dX11_takeLine_167 : decode cX11_takeLine 167 = .ok (.iadd, 1) := by decide +kernel
theorem dX11_takeLine_168 : decode cX11_takeLine 168 = .ok (.putfield 256, 3) := by decide +kernel
theorem dX11_takeLine_171 : decode cX11_takeLine 171 = .ok (.aload_n 0, 1) := by decide +kernel
theorem dX11_takeLine_172 : decode cX11_takeLine 172 = .ok (.invokevirtual 95, 3) := by decide +kernel
theorem dX11_takeLine_175 : decode cX11_takeLine 175 = .ok (.aload_n 0, 1) := by decide +kernel
theorem dX11_takeLine_176 : decode cX11_takeLine 176 = .ok (.getfield 88, 3) := by decide +kernel
theorem dX11_takeLine_179 : decode cX11_takeLine 179 = .ok (.istore 4, 2) := by decide +kernel
theorem dX11_takeLine_181 : decode cX11_takeLine 181 = .ok (.aload_n 0, 1) := by decide +kernel
theorem dX11_takeLine_182 : decode cX11_takeLine 182 = .ok (.invokevirtual 195, 3) := by decide +kernel
theorem dX11_takeLine_185 : decode cX11_takeLine 185 = .ok (.lstore 5, 2) := by decide +kernel
theorem dX11_takeLine_187 : decode cX11_takeLine 187 = .ok (.aload_n 0, 1) := by decide +kernel
theorem dX11_takeLine_188 : decode cX11_takeLine 188 = .ok (.getfield 88, 3) := by decide +kernel
theorem dX11_takeLine_191 : decode cX11_takeLine 191 = .ok (.iload 4, 2) := by decide +kernel
theorem dX11_takeLine_193 : decode cX11_takeLine 193 = .ok (.if_icmp .le 7, 3) := by decide +kernel
theorem dX11_takeLine_196 : decode cX11_takeLine 196 = .ok (.iconst 1, 1) := by decide +kernel
theorem dX11_takeLine_197 : decode cX11_takeLine 197 = .ok (.goto 4, 3) := by decide +kernel
theorem dX11_takeLine_200 : decode cX11_takeLine 200 = .ok (.iconst 0, 1) := by decide +kernel
theorem dX11_takeLine_201 : decode cX11_takeLine 201 = .ok (.istore 7, 2) := by decide +kernel
theorem dX11_takeLine_203 : decode cX11_takeLine 203 = .ok (.iload 7, 2) := by decide +kernel
theorem dX11_takeLine_205 : decode cX11_takeLine 205 = .ok (.ifCond .eq 137, 3) := by decide +kernel
theorem dX11_takeLine_208 : decode cX11_takeLine 208 = .ok (.aload_n 0, 1) := by decide +kernel
theorem dX11_takeLine_209 : decode cX11_takeLine 209 = .ok (.getfield 102, 3) := by decide +kernel
theorem dX11_takeLine_212 : decode cX11_takeLine 212 = .ok (.ifCond .ne 130, 3) := by decide +kernel
theorem dX11_takeLine_215 : decode cX11_takeLine 215 = .ok (.lload 5, 2) := by decide +kernel
theorem dX11_takeLine_217 : decode cX11_takeLine 217 = .ok (.invokestatic 263, 3) := by decide +kernel
theorem dX11_takeLine_220 : decode cX11_takeLine 220 = .ok (.istore 8, 2) := by decide +kernel
theorem dX11_takeLine_222 : decode cX11_takeLine 222 = .ok (.aload_n 0, 1) := by decide +kernel
theorem dX11_takeLine_223 : decode cX11_takeLine 223 = .ok (.iload 8, 2) := by decide +kernel
theorem dX11_takeLine_225 : decode cX11_takeLine 225 = .ok (.ifCond .ne 7, 3) := by decide +kernel
theorem dX11_takeLine_228 : decode cX11_takeLine 228 = .ok (.iconst 1, 1) := by decide +kernel
theorem dX11_takeLine_229 : decode cX11_takeLine 229 = .ok (.goto 4, 3) := by decide +kernel
theorem dX11_takeLine_232 : decode cX11_takeLine 232 = .ok (.iconst 0, 1) := by decide +kernel
theorem dX11_takeLine_233 : decode cX11_takeLine 233 = .ok (.putfield 102, 3) := by decide +kernel
theorem dX11_takeLine_236 : decode cX11_takeLine 236 = .ok (.aload_n 0, 1) := by decide +kernel
theorem dX11_takeLine_237 : decode cX11_takeLine 237 = .ok (.getfield 102, 3) := by decide +kernel
theorem dX11_takeLine_240 : decode cX11_takeLine 240 = .ok (.ifCond .eq 7, 3) := by decide +kernel
theorem dX11_takeLine_243 : decode cX11_takeLine 243 = .ok (.iconst 0, 1) := by decide +kernel
theorem dX11_takeLine_244 : decode cX11_takeLine 244 = .ok (.goto 12, 3) := by decide +kernel
theorem dX11_takeLine_247 : decode cX11_takeLine 247 = .ok (.aload_n 0, 1) := by decide +kernel
theorem dX11_takeLine_248 : decode cX11_takeLine 248 = .ok (.iload 8, 2) := by decide +kernel
theorem dX11_takeLine_250 : decode cX11_takeLine 250 = .ok (.bipush 15, 2) := by decide +kernel
theorem dX11_takeLine_252 : decode cX11_takeLine 252 = .ok (.iand, 1) := by decide +kernel
theorem dX11_takeLine_253 : decode cX11_takeLine 253 = .ok (.invokevirtual 266, 3) := by decide +kernel
theorem dX11_takeLine_256 : decode cX11_takeLine 256 = .ok (.istore 9, 2) := by decide +kernel
theorem dX11_takeLine_258 : decode cX11_takeLine 258 = .ok (.iload_n 2, 1) := by decide +kernel
theorem dX11_takeLine_259 : decode cX11_takeLine 259 = .ok (.ifCond .ne 15, 3) := by decide +kernel
theorem dX11_takeLine_262 : decode cX11_takeLine 262 = .ok (.iload_n 1, 1) := by decide +kernel
theorem dX11_takeLine_263 : decode cX11_takeLine 263 = .ok (.aload_n 0, 1) := by decide +kernel
theorem dX11_takeLine_264 : decode cX11_takeLine 264 = .ok (.getfield 202, 3) := by decide +kernel
theorem dX11_takeLine_267 : decode cX11_takeLine 267 = .ok (.iadd, 1) := by decide +kernel
theorem dX11_takeLine_268 : decode cX11_takeLine 268 = .ok (.sipush 128, 3) := by decide +kernel
theorem dX11_takeLine_271 : decode cX11_takeLine 271 = .ok (.if_icmp .lt 7, 3) := by decide +kernel
theorem dX11_takeLine_274 : decode cX11_takeLine 274 = .ok (.iconst 1, 1) := by decide +kernel
theorem dX11_takeLine_275 : decode cX11_takeLine 275 = .ok (.goto 4, 3) := by decide +kernel
theorem dX11_takeLine_278 : decode cX11_takeLine 278 = .ok (.iconst 0, 1) := by decide +kernel
theorem dX11_takeLine_279 : decode cX11_takeLine 279 = .ok (.istore_n 2, 1) := by decide +kernel
theorem dX11_takeLine_280 : decode cX11_takeLine 280 = .ok (.iload_n 1, 1) := by decide +kernel
theorem dX11_takeLine_281 : decode cX11_takeLine 281 = .ok (.aload_n 0, 1) := by decide +kernel
theorem dX11_takeLine_282 : decode cX11_takeLine 282 = .ok (.getfield 202, 3) := by decide +kernel
theorem dX11_takeLine_285 : decode cX11_takeLine 285 = .ok (.iadd, 1) := by decide +kernel
theorem dX11_takeLine_286 : decode cX11_takeLine 286 = .ok (.sipush 128, 3) := by decide +kernel
theorem dX11_takeLine_289 : decode cX11_takeLine 289 = .ok (.if_icmp .ge 43, 3) := by decide +kernel
theorem dX11_takeLine_292 : decode cX11_takeLine 292 = .ok (.aload_n 0, 1) := by decide +kernel
theorem dX11_takeLine_293 : decode cX11_takeLine 293 = .ok (.getfield 13, 3) := by decide +kernel
theorem dX11_takeLine_296 : decode cX11_takeLine 296 = .ok (.aload_n 0, 1) := by decide +kernel
theorem dX11_takeLine_297 : decode cX11_takeLine 297 = .ok (.getfield 202, 3) := by decide +kernel
theorem dX11_takeLine_300 : decode cX11_takeLine 300 = .ok (.iload 9, 2) := by decide +kernel
theorem dX11_takeLine_302 : decode cX11_takeLine 302 = .ok (.iload 8, 2) := by decide +kernel
theorem dX11_takeLine_304 : decode cX11_takeLine 304 = .ok (.iconst 4, 1) := by decide +kernel
theorem dX11_takeLine_305 : decode cX11_takeLine 305 = .ok (.ishr, 1) := by decide +kernel
theorem dX11_takeLine_306 : decode cX11_takeLine 306 = .ok (.bipush 127, 2) := by decide +kernel
theorem dX11_takeLine_308 : decode cX11_takeLine 308 = .ok (.iand, 1) := by decide +kernel
theorem dX11_takeLine_309 : decode cX11_takeLine 309 = .ok (.ior, 1) := by decide +kernel
theorem dX11_takeLine_310 : decode cX11_takeLine 310 = .ok (.iload 8, 2) := by decide +kernel
theorem dX11_takeLine_312 : decode cX11_takeLine 312 = .ok (.bipush 11, 2) := by decide +kernel
theorem dX11_takeLine_314 : decode cX11_takeLine 314 = .ok (.ishr, 1) := by decide +kernel
theorem dX11_takeLine_315 : decode cX11_takeLine 315 = .ok (.bipush 7, 2) := by decide +kernel
theorem dX11_takeLine_317 : decode cX11_takeLine 317 = .ok (.iand, 1) := by decide +kernel
theorem dX11_takeLine_318 : decode cX11_takeLine 318 = .ok (.bipush 12, 2) := by decide +kernel
theorem dX11_takeLine_320 : decode cX11_takeLine 320 = .ok (.ishl, 1) := by decide +kernel
theorem dX11_takeLine_321 : decode cX11_takeLine 321 = .ok (.ior, 1) := by decide +kernel
theorem dX11_takeLine_322 : decode cX11_takeLine 322 = .ok (.iload 8, 2) := by decide +kernel
theorem dX11_takeLine_324 : decode cX11_takeLine 324 = .ok (.bipush 14, 2) := by decide +kernel
theorem dX11_takeLine_326 : decode cX11_takeLine 326 = .ok (.ishr, 1) := by decide +kernel
theorem dX11_takeLine_327 : decode cX11_takeLine 327 = .ok (.bipush 25, 2) := by decide +kernel
theorem dX11_takeLine_329 : decode cX11_takeLine 329 = .ok (.ishl, 1) := by decide +kernel
theorem dX11_takeLine_330 : decode cX11_takeLine 330 = .ok (.ior, 1) := by decide +kernel
theorem dX11_takeLine_331 : decode cX11_takeLine 331 = .ok (.iastore, 1) := by decide +kernel
theorem dX11_takeLine_332 : decode cX11_takeLine 332 = .ok (.aload_n 0, 1) := by decide +kernel
theorem dX11_takeLine_333 : decode cX11_takeLine 333 = .ok (.dup, 1) := by decide +kernel
theorem dX11_takeLine_334 : decode cX11_takeLine 334 = .ok (.getfield 202, 3) := by decide +kernel
theorem dX11_takeLine_337 : decode cX11_takeLine 337 = .ok (.iconst 1, 1) := by decide +kernel
theorem dX11_takeLine_338 : decode cX11_takeLine 338 = .ok (.iadd, 1) := by decide +kernel
theorem dX11_takeLine_339 : decode cX11_takeLine 339 = .ok (.putfield 202, 3) := by decide +kernel
theorem dX11_takeLine_342 : decode cX11_takeLine 342 = .ok (.aload_n 0, 1) := by decide +kernel
theorem dX11_takeLine_343 : decode cX11_takeLine 343 = .ok (.invokevirtual 95, 3) := by decide +kernel
theorem dX11_takeLine_346 : decode cX11_takeLine 346 = .ok (.aload_n 0, 1) := by decide +kernel
theorem dX11_takeLine_347 : decode cX11_takeLine 347 = .ok (.aload_n 0, 1) := by decide +kernel
theorem dX11_takeLine_348 : decode cX11_takeLine 348 = .ok (.getfield 102, 3) := by decide +kernel
theorem dX11_takeLine_351 : decode cX11_takeLine 351 = .ok (.ifCond .ne 10, 3) := by decide +kernel
theorem dX11_takeLine_354 : decode cX11_takeLine 354 = .ok (.aload_n 0, 1) := by decide +kernel
theorem dX11_takeLine_355 : decode cX11_takeLine 355 = .ok (.invokevirtual 269, 3) := by decide +kernel
theorem dX11_takeLine_358 : decode cX11_takeLine 358 = .ok (.ifCond .ne 7, 3) := by decide +kernel
theorem dX11_takeLine_361 : decode cX11_takeLine 361 = .ok (.iconst 1, 1) := by decide +kernel
theorem dX11_takeLine_362 : decode cX11_takeLine 362 = .ok (.goto 4, 3) := by decide +kernel
theorem dX11_takeLine_365 : decode cX11_takeLine 365 = .ok (.iconst 0, 1) := by decide +kernel
theorem dX11_takeLine_366 : decode cX11_takeLine 366 = .ok (.putfield 102, 3) := by decide +kernel
theorem dX11_takeLine_369 : decode cX11_takeLine 369 = .ok (.aload_n 0, 1) := by decide +kernel
theorem dX11_takeLine_370 : decode cX11_takeLine 370 = .ok (.aload_n 0, 1) := by decide +kernel
theorem dX11_takeLine_371 : decode cX11_takeLine 371 = .ok (.getfield 102, 3) := by decide +kernel
theorem dX11_takeLine_374 : decode cX11_takeLine 374 = .ok (.ifCond .eq 7, 3) := by decide +kernel
theorem dX11_takeLine_377 : decode cX11_takeLine 377 = .ok (.iconst 1, 1) := by decide +kernel
theorem dX11_takeLine_378 : decode cX11_takeLine 378 = .ok (.goto 31, 3) := by decide +kernel
theorem dX11_takeLine_381 : decode cX11_takeLine 381 = .ok (.aload_n 0, 1) := by decide +kernel
theorem dX11_takeLine_382 : decode cX11_takeLine 382 = .ok (.getfield 111, 3) := by decide +kernel
theorem dX11_takeLine_385 : decode cX11_takeLine 385 = .ok (.ifCond .eq 7, 3) := by decide +kernel
theorem dX11_takeLine_388 : decode cX11_takeLine 388 = .ok (.iconst 2, 1) := by decide +kernel
theorem dX11_takeLine_389 : decode cX11_takeLine 389 = .ok (.goto 20, 3) := by decide +kernel
theorem dX11_takeLine_392 : decode cX11_takeLine 392 = .ok (.iload_n 2, 1) := by decide +kernel
theorem dX11_takeLine_393 : decode cX11_takeLine 393 = .ok (.ifCond .eq 7, 3) := by decide +kernel
theorem dX11_takeLine_396 : decode cX11_takeLine 396 = .ok (.iconst 4, 1) := by decide +kernel
theorem dX11_takeLine_397 : decode cX11_takeLine 397 = .ok (.goto 12, 3) := by decide +kernel
theorem dX11_takeLine_400 : decode cX11_takeLine 400 = .ok (.iload_n 3, 1) := by decide +kernel
theorem dX11_takeLine_401 : decode cX11_takeLine 401 = .ok (.ifCond .eq 7, 3) := by decide +kernel
theorem dX11_takeLine_404 : decode cX11_takeLine 404 = .ok (.iconst 3, 1) := by decide +kernel
theorem dX11_takeLine_405 : decode cX11_takeLine 405 = .ok (.goto 4, 3) := by decide +kernel
theorem dX11_takeLine_408 : decode cX11_takeLine 408 = .ok (.iconst 0, 1) := by decide +kernel
theorem dX11_takeLine_409 : decode cX11_takeLine 409 = .ok (.putfield 273, 3) := by decide +kernel
theorem dX11_takeLine_412 : decode cX11_takeLine 412 = .ok (.return_, 1) := by decide +kernel
theorem dX11_link_0 : decode cX11_link 0 = .ok (.iconst 0, 1) := by decide +kernel
theorem dX11_link_1 : decode cX11_link 1 = .ok (.istore_n 2, 1) := by decide +kernel
theorem dX11_link_2 : decode cX11_link 2 = .ok (.iload_n 2, 1) := by decide +kernel
theorem dX11_link_3 : decode cX11_link 3 = .ok (.aload_n 0, 1) := by decide +kernel
theorem dX11_link_4 : decode cX11_link 4 = .ok (.getfield 199, 3) := by decide +kernel
theorem dX11_link_7 : decode cX11_link 7 = .ok (.if_icmp .ge 170, 3) := by decide +kernel
theorem dX11_link_10 : decode cX11_link 10 = .ok (.aload_n 0, 1) := by decide +kernel
theorem dX11_link_11 : decode cX11_link 11 = .ok (.getfield 273, 3) := by decide +kernel
theorem dX11_link_14 : decode cX11_link 14 = .ok (.ifCond .ne 163, 3) := by decide +kernel
theorem dX11_link_17 : decode cX11_link 17 = .ok (.aload_n 0, 1) := by decide +kernel
theorem dX11_link_18 : decode cX11_link 18 = .ok (.aload_n 0, 1) := by decide +kernel
theorem dX11_link_19 : decode cX11_link 19 = .ok (.getfield 24, 3) := by decide +kernel
theorem dX11_link_22 : decode cX11_link 22 = .ok (.iload_n 2, 1) := by decide +kernel
theorem dX11_link_23 : decode cX11_link 23 = .ok (.laload, 1) := by decide +kernel
theorem dX11_link_24 : decode cX11_link 24 = .ok (.invokevirtual 259, 3) := by decide +kernel
theorem dX11_link_27 : decode cX11_link 27 = .ok (.istore_n 3, 1) := by decide +kernel
theorem dX11_link_28 : decode cX11_link 28 = .ok (.aload_n 0, 1) := by decide +kernel
theorem dX11_link_29 : decode cX11_link 29 = .ok (.getfield 27, 3) := by decide +kernel
theorem dX11_link_32 : decode cX11_link 32 = .ok (.iload_n 2, 1) := by decide +kernel
theorem dX11_link_33 : decode cX11_link 33 = .ok (.iaload, 1) := by decide +kernel
theorem dX11_link_34 : decode cX11_link 34 = .ok (.istore 4, 2) := by decide +kernel
theorem dX11_link_36 : decode cX11_link 36 = .ok (.aload_n 0, 1) := by decide +kernel
theorem dX11_link_37 : decode cX11_link 37 = .ok (.getfield 13, 3) := by decide +kernel
theorem dX11_link_40 : decode cX11_link 40 = .ok (.iload 4, 2) := by decide +kernel
theorem dX11_link_42 : decode cX11_link 42 = .ok (.iaload, 1) := by decide +kernel
theorem dX11_link_43 : decode cX11_link 43 = .ok (.bipush 127, 2) := by decide +kernel
theorem dX11_link_45 : decode cX11_link 45 = .ok (.iand, 1) := by decide +kernel
theorem dX11_link_46 : decode cX11_link 46 = .ok (.bipush 111, 2) := by decide +kernel
theorem dX11_link_48 : decode cX11_link 48 = .ok (.if_icmp .ne 7, 3) := by decide +kernel
theorem dX11_link_51 : decode cX11_link 51 = .ok (.iconst 1, 1) := by decide +kernel
theorem dX11_link_52 : decode cX11_link 52 = .ok (.goto 4, 3) := by decide +kernel
theorem dX11_link_55 : decode cX11_link 55 = .ok (.iconst 0, 1) := by decide +kernel
theorem dX11_link_56 : decode cX11_link 56 = .ok (.istore 5, 2) := by decide +kernel
theorem dX11_link_58 : decode cX11_link 58 = .ok (.iload_n 3, 1) := by decide +kernel
theorem dX11_link_59 : decode cX11_link 59 = .ok (.ifCond .ge 7, 3) := by decide +kernel
theorem dX11_link_62 : decode cX11_link 62 = .ok (.iconst 0, 1) := by decide +kernel
theorem dX11_link_63 : decode cX11_link 63 = .ok (.goto 16, 3) := by decide +kernel
theorem dX11_link_66 : decode cX11_link 66 = .ok (.iconst 4, 1) := by decide +kernel
theorem dX11_link_67 : decode cX11_link 67 = .ok (.aload_n 0, 1) := by decide +kernel
theorem dX11_link_68 : decode cX11_link 68 = .ok (.getfield 21, 3) := by decide +kernel
theorem dX11_link_71 : decode cX11_link 71 = .ok (.iload_n 3, 1) := by decide +kernel
theorem dX11_link_72 : decode cX11_link 72 = .ok (.iaload, 1) := by decide +kernel
theorem dX11_link_73 : decode cX11_link 73 = .ok (.iload_n 1, 1) := by decide +kernel
theorem dX11_link_74 : decode cX11_link 74 = .ok (.isub, 1) := by decide +kernel
theorem dX11_link_75 : decode cX11_link 75 = .ok (.iload 4, 2) := by decide +kernel
theorem dX11_link_77 : decode cX11_link 77 = .ok (.isub, 1) := by decide +kernel
theorem dX11_link_78 : decode cX11_link 78 = .ok (.imul, 1) := by decide +kernel
theorem dX11_link_79 : decode cX11_link 79 = .ok (.istore 6, 2) := by decide +kernel
theorem dX11_link_81 : decode cX11_link 81 = .ok (.aload_n 0, 1) := by decide +kernel
theorem dX11_link_82 : decode cX11_link 82 = .ok (.iload_n 3, 1) := by decide +kernel
theorem dX11_link_83 : decode cX11_link 83 = .ok (.ifCond .ge 7, 3) := by decide +kernel
theorem dX11_link_86 : decode cX11_link 86 = .ok (.iconst 3, 1) := by decide +kernel
theorem dX11_link_87 : decode cX11_link 87 = .ok (.goto 29, 3) := by decide +kernel
theorem dX11_link_90 : decode cX11_link 90 = .ok (.iload 5, 2) := by decide +kernel
theorem dX11_link_92 : decode cX11_link 92 = .ok (.ifCond .ne 23, 3) := by decide +kernel
theorem dX11_link_95 : decode cX11_link 95 = .ok (.iload 6, 2) := by decide +kernel
theorem dX11_link_97 : decode cX11_link 97 = .ok (.sipush (-4096), 3) := by decide +kernel
theorem dX11_link_100 : decode cX11_link 100 = .ok (.if_icmp .lt 11, 3) := by decide +kernel
theorem dX11_link_103 : decode cX11_link 103 = .ok (.iload 6, 2) := by decide +kernel
theorem dX11_link_105 : decode cX11_link 105 = .ok (.sipush 4094, 3) := by decide +kernel
theorem dX11_link_108 : decode cX11_link 108 = .ok (.if_icmp .le 7, 3) := by decide +kernel
theorem dX11_link_111 : decode cX11_link 111 = .ok (.iconst 2, 1) := by decide +kernel
theorem dX11_link_112 : decode cX11_link 112 = .ok (.goto 4, 3) := by decide +kernel
theorem dX11_link_115 : decode cX11_link 115 = .ok (.iconst 0, 1) := by decide +kernel
theorem dX11_link_116 : decode cX11_link 116 = .ok (.putfield 273, 3) := by decide +kernel
theorem dX11_link_119 : decode cX11_link 119 = .ok (.aload_n 0, 1) := by decide +kernel
theorem dX11_link_120 : decode cX11_link 120 = .ok (.aload_n 0, 1) := by decide +kernel
theorem dX11_link_121 : decode cX11_link 121 = .ok (.getfield 273, 3) := by decide +kernel
theorem dX11_link_124 : decode cX11_link 124 = .ok (.ifCond .ne 10, 3) := by decide +kernel
theorem dX11_link_127 : decode cX11_link 127 = .ok (.aload_n 0, 1) := by decide +kernel
theorem dX11_link_128 : decode cX11_link 128 = .ok (.getfield 276, 3) := by decide +kernel
theorem dX11_link_131 : decode cX11_link 131 = .ok (.goto 9, 3) := by decide +kernel
theorem dX11_link_134 : decode cX11_link 134 = .ok (.aload_n 0, 1) := by decide +kernel
theorem dX11_link_135 : decode cX11_link 135 = .ok (.getfield 30, 3) := by decide +kernel
theorem dX11_link_138 : decode cX11_link 138 = .ok (.iload_n 2, 1) := by decide +kernel
theorem dX11_link_139 : decode cX11_link 139 = .ok (.iaload, 1) := by decide +kernel
theorem dX11_link_140 : decode cX11_link 140 = .ok (.putfield 276, 3) := by decide +kernel
theorem dX11_link_143 : decode cX11_link 143 = .ok (.aload_n 0, 1) := by decide +kernel
theorem dX11_link_144 : decode cX11_link 144 = .ok (.getfield 13, 3) := by decide +kernel
theorem dX11_link_147 : decode cX11_link 147 = .ok (.iload 4, 2) := by decide +kernel
theorem dX11_link_149 : decode cX11_link 149 = .ok (.dup2, 1) := by decide +kernel
theorem dX11_link_150 : decode cX11_link 150 = .ok (.iaload, 1) := by decide +kernel
theorem dX11_link_151 : decode cX11_link 151 = .ok (.iload 5, 2) := by decide +kernel
theorem dX11_link_153 : decode cX11_link 153 = .ok (.ifCond .eq 11, 3) := by decide +kernel
theorem dX11_link_156 : decode cX11_link 156 = .ok (.iload 6, 2) := by decide +kernel
theorem dX11_link_158 : decode cX11_link 158 = .ok (.invokestatic 214, 3) := by decide +kernel
theorem dX11_link_161 : decode cX11_link 161 = .ok (.goto 8, 3) := by decide +kernel
theorem dX11_link_164 : decode cX11_link 164 = .ok (.iload 6, 2) := by decide +kernel
theorem dX11_link_166 : decode cX11_link 166 = .ok (.invokestatic 217, 3) := by decide +kernel
theorem dX11_link_169 : decode cX11_link 169 = .ok (.ior, 1) := by decide +kernel
theorem dX11_link_170 : decode cX11_link 170 = .ok (.iastore, 1) := by decide +kernel
theorem dX11_link_171 : decode cX11_link 171 = .ok (.iinc 2 1, 3) := by decide +kernel
theorem dX11_link_174 : decode cX11_link 174 = .ok (.goto (-172), 3) := by decide +kernel
theorem dX11_link_177 : decode cX11_link 177 = .ok (.return_, 1) := by decide +kernel
theorem dX11_assemble_0 : decode cX11_assemble 0 = .ok (.aload_n 0, 1) := by decide +kernel
theorem dX11_assemble_1 : decode cX11_assemble 1 = .ok (.iconst 0, 1) := by decide +kernel
theorem dX11_assemble_2 : decode cX11_assemble 2 = .ok (.putfield 70, 3) := by decide +kernel
theorem dX11_assemble_5 : decode cX11_assemble 5 = .ok (.iload_n 1, 1) := by decide +kernel
theorem dX11_assemble_6 : decode cX11_assemble 6 = .ok (.ifCond .lt 19, 3) := by decide +kernel
theorem dX11_assemble_9 : decode cX11_assemble 9 = .ok (.iload_n 1, 1) := by decide +kernel
theorem dX11_assemble_10 : decode cX11_assemble 10 = .ok (.iconst 3, 1) := by decide +kernel
theorem dX11_assemble_11 : decode cX11_assemble 11 = .ok (.if_icmp .gt 14, 3) := by decide +kernel
theorem dX11_assemble_14 : decode cX11_assemble 14 = .ok (.iload_n 2, 1) := by decide +kernel
theorem dX11_assemble_15 : decode cX11_assemble 15 = .ok (.ifCond .lt 10, 3) := by decide +kernel
theorem dX11_assemble_18 : decode cX11_assemble 18 = .ok (.iload_n 2, 1) := by decide +kernel
theorem dX11_assemble_19 : decode cX11_assemble 19 = .ok (.sipush 128, 3) := by decide +kernel
theorem dX11_assemble_22 : decode cX11_assemble 22 = .ok (.if_icmp .lt 9, 3) := by decide +kernel
theorem dX11_assemble_25 : decode cX11_assemble 25 = .ok (.aload_n 0, 1) := by decide +kernel
theorem dX11_assemble_26 : decode cX11_assemble 26 = .ok (.iconst 1, 1) := by decide +kernel
theorem dX11_assemble_27 : decode cX11_assemble 27 = .ok (.invokevirtual 279, 3) := by decide +kernel
theorem dX11_assemble_30 : decode cX11_assemble 30 = .ok (.ireturn, 1) := by decide +kernel
theorem dX11_assemble_31 : decode cX11_assemble 31 = .ok (.aload_n 0, 1) := by decide +kernel
theorem dX11_assemble_32 : decode cX11_assemble 32 = .ok (.iconst 0, 1) := by decide +kernel
theorem dX11_assemble_33 : decode cX11_assemble 33 = .ok (.putfield 88, 3) := by decide +kernel
theorem dX11_assemble_36 : decode cX11_assemble 36 = .ok (.aload_n 0, 1) := by decide +kernel
theorem dX11_assemble_37 : decode cX11_assemble 37 = .ok (.iconst 0, 1) := by decide +kernel
theorem dX11_assemble_38 : decode cX11_assemble 38 = .ok (.putfield 205, 3) := by decide +kernel
theorem dX11_assemble_41 : decode cX11_assemble 41 = .ok (.aload_n 0, 1) := by decide +kernel
theorem dX11_assemble_42 : decode cX11_assemble 42 = .ok (.iconst 0, 1) := by decide +kernel
theorem dX11_assemble_43 : decode cX11_assemble 43 = .ok (.putfield 202, 3) := by decide +kernel
theorem dX11_assemble_46 : decode cX11_assemble 46 = .ok (.aload_n 0, 1) := by decide +kernel
theorem dX11_assemble_47 : decode cX11_assemble 47 = .ok (.iconst 0, 1) := by decide +kernel
theorem dX11_assemble_48 : decode cX11_assemble 48 = .ok (.putfield 256, 3) := by decide +kernel
theorem dX11_assemble_51 : decode cX11_assemble 51 = .ok (.aload_n 0, 1) := by decide +kernel
theorem dX11_assemble_52 : decode cX11_assemble 52 = .ok (.iconst 0, 1) := by decide +kernel
theorem dX11_assemble_53 : decode cX11_assemble 53 = .ok (.putfield 199, 3) := by decide +kernel
theorem dX11_assemble_56 : decode cX11_assemble 56 = .ok (.aload_n 0, 1) := by decide +kernel
theorem dX11_assemble_57 : decode cX11_assemble 57 = .ok (.iconst 0, 1) := by decide +kernel
theorem dX11_assemble_58 : decode cX11_assemble 58 = .ok (.putfield 273, 3) := by decide +kernel
theorem dX11_assemble_61 : decode cX11_assemble 61 = .ok (.aload_n 0, 1) := by decide +kernel
theorem dX11_assemble_62 : decode cX11_assemble 62 = .ok (.iconst 0, 1) := by decide +kernel
theorem dX11_assemble_63 : decode cX11_assemble 63 = .ok (.putfield 276, 3) := by decide +kernel
theorem dX11_assemble_66 : decode cX11_assemble 66 = .ok (.iconst 1, 1) := by decide +kernel
theorem dX11_assemble_67 : decode cX11_assemble 67 = .ok (.istore_n 3, 1) := by decide +kernel
theorem dX11_assemble_68 : decode cX11_assemble 68 = .ok (.iload_n 3, 1) := by decide +kernel
theorem dX11_assemble_69 : decode cX11_assemble 69 = .ok (.ifCond .eq 74, 3) := by decide +kernel
theorem dX11_assemble_72 : decode cX11_assemble 72 = .ok (.aload_n 0, 1) := by decide +kernel
theorem dX11_assemble_73 : decode cX11_assemble 73 = .ok (.iload_n 2, 1) := by decide +kernel
theorem dX11_assemble_74 : decode cX11_assemble 74 = .ok (.invokevirtual 282, 3) := by decide +kernel
theorem dX11_assemble_77 : decode cX11_assemble 77 = .ok (.aload_n 0, 1) := by decide +kernel
theorem dX11_assemble_78 : decode cX11_assemble 78 = .ok (.aload_n 0, 1) := by decide +kernel
theorem dX11_assemble_79 : decode cX11_assemble 79 = .ok (.getfield 273, 3) := by decide +kernel
theorem dX11_assemble_82 : decode cX11_assemble 82 = .ok (.ifCond .le 10, 3) := by decide +kernel
theorem dX11_assemble_85 : decode cX11_assemble 85 = .ok (.aload_n 0, 1) := by decide +kernel
theorem dX11_assemble_86 : decode cX11_assemble 86 = .ok (.getfield 205, 3) := by decide +kernel
theorem dX11_assemble_89 : decode cX11_assemble 89 = .ok (.goto 4, 3) := by decide +kernel
theorem dX11_assemble_92 : decode cX11_assemble 92 = .ok (.iconst 0, 1) := by decide +kernel
theorem dX11_assemble_93 : decode cX11_assemble 93 = .ok (.putfield 276, 3) := by decide +kernel
theorem dX11_assemble_96 : decode cX11_assemble 96 = .ok (.aload_n 0, 1) := by decide +kernel
theorem dX11_assemble_97 : decode cX11_assemble 97 = .ok (.getfield 273, 3) := by decide +kernel
theorem dX11_assemble_100 : decode cX11_assemble 100 = .ok (.ifCond .ne 18, 3) := by decide +kernel
theorem dX11_assemble_103 : decode cX11_assemble 103 = .ok (.aload_n 0, 1) := by decide +kernel
theorem dX11_assemble_104 : decode cX11_assemble 104 = .ok (.getfield 88, 3) := by decide +kernel
theorem dX11_assemble_107 : decode cX11_assemble 107 = .ok (.aload_n 0, 1) := by decide +kernel
theorem dX11_assemble_108 : decode cX11_assemble 108 = .ok (.getfield 85, 3) := by decide +kernel
theorem dX11_assemble_111 : decode cX11_assemble 111 = .ok (.if_icmp .ge 7, 3) := by decide +kernel
theorem dX11_assemble_114 : decode cX11_assemble 114 = .ok (.iconst 1, 1) := by decide +kernel
theorem dX11_assemble_115 : decode cX11_assemble 115 = .ok (.goto 4, 3) := by decide +kernel
theorem dX11_assemble_118 : decode cX11_assemble 118 = .ok (.iconst 0, 1) := by decide +kernel
theorem dX11_assemble_119 : decode cX11_assemble 119 = .ok (.istore_n 3, 1) := by decide +kernel
theorem dX11_assemble_120 : decode cX11_assemble 120 = .ok (.aload_n 0, 1) := by decide +kernel
theorem dX11_assemble_121 : decode cX11_assemble 121 = .ok (.dup, 1) := by decide +kernel
theorem dX11_assemble_122 : decode cX11_assemble 122 = .ok (.getfield 88, 3) := by decide +kernel
theorem dX11_assemble_125 : decode cX11_assemble 125 = .ok (.iconst 1, 1) := by decide +kernel
theorem dX11_assemble_126 : decode cX11_assemble 126 = .ok (.iadd, 1) := by decide +kernel
theorem dX11_assemble_127 : decode cX11_assemble 127 = .ok (.putfield 88, 3) := by decide +kernel
theorem dX11_assemble_130 : decode cX11_assemble 130 = .ok (.aload_n 0, 1) := by decide +kernel
theorem dX11_assemble_131 : decode cX11_assemble 131 = .ok (.dup, 1) := by decide +kernel
theorem dX11_assemble_132 : decode cX11_assemble 132 = .ok (.getfield 205, 3) := by decide +kernel
theorem dX11_assemble_135 : decode cX11_assemble 135 = .ok (.iconst 1, 1) := by decide +kernel
theorem dX11_assemble_136 : decode cX11_assemble 136 = .ok (.iadd, 1) := by decide +kernel
theorem dX11_assemble_137 : decode cX11_assemble 137 = .ok (.putfield 205, 3) := by decide +kernel
theorem dX11_assemble_140 : decode cX11_assemble 140 = .ok (.goto (-72), 3) := by decide +kernel
theorem dX11_assemble_143 : decode cX11_assemble 143 = .ok (.aload_n 0, 1) := by decide +kernel
theorem dX11_assemble_144 : decode cX11_assemble 144 = .ok (.getfield 273, 3) := by decide +kernel
theorem dX11_assemble_147 : decode cX11_assemble 147 = .ok (.ifCond .ne 8, 3) := by decide +kernel
theorem dX11_assemble_150 : decode cX11_assemble 150 = .ok (.aload_n 0, 1) := by decide +kernel
theorem dX11_assemble_151 : decode cX11_assemble 151 = .ok (.iload_n 2, 1) := by decide +kernel
theorem dX11_assemble_152 : decode cX11_assemble 152 = .ok (.invokevirtual 285, 3) := by decide +kernel
theorem dX11_assemble_155 : decode cX11_assemble 155 = .ok (.aload_n 0, 1) := by decide +kernel
theorem dX11_assemble_156 : decode cX11_assemble 156 = .ok (.getfield 273, 3) := by decide +kernel
theorem dX11_assemble_159 : decode cX11_assemble 159 = .ok (.ifCond .le 9, 3) := by decide +kernel
theorem dX11_assemble_162 : decode cX11_assemble 162 = .ok (.aload_n 0, 1) := by decide +kernel
theorem dX11_assemble_163 : decode cX11_assemble 163 = .ok (.iconst 2, 1) := by decide +kernel
theorem dX11_assemble_164 : decode cX11_assemble 164 = .ok (.invokevirtual 279, 3) := by decide +kernel
theorem dX11_assemble_167 : decode cX11_assemble 167 = .ok (.ireturn, 1) := by decide +kernel
theorem dX11_assemble_168 : decode cX11_assemble 168 = .ok (.iconst 0, 1) := by decide +kernel
theorem dX11_assemble_169 : decode cX11_assemble 169 = .ok (.istore 4, 2) := by decide +kernel
theorem dX11_assemble_171 : decode cX11_assemble 171 = .ok (.iload 4, 2) := by decide +kernel
theorem dX11_assemble_173 : decode cX11_assemble 173 = .ok (.aload_n 0, 1) := by decide +kernel
theorem dX11_assemble_174 : decode cX11_assemble 174 = .ok (.getfield 202, 3) := by decide +kernel
theorem dX11_assemble_177 : decode cX11_assemble 177 = .ok (.if_icmp .ge 31, 3) := by decide +kernel
theorem dX11_assemble_180 : decode cX11_assemble 180 = .ok (.aload_n 0, 1) := by decide +kernel
theorem dX11_assemble_181 : decode cX11_assemble 181 = .ok (.getfield 33, 3) := by decide +kernel
theorem dX11_assemble_184 : decode cX11_assemble 184 = .ok (.sipush 128, 3) := by decide +kernel
theorem dX11_assemble_187 : decode cX11_assemble 187 = .ok (.iload_n 1, 1) := by decide +kernel
theorem dX11_assemble_188 : decode cX11_assemble 188 = .ok (.imul, 1) := by decide +kernel
theorem dX11_assemble_189 : decode cX11_assemble 189 = .ok (.iload_n 2, 1) := by decide +kernel
theorem dX11_assemble_190 : decode cX11_assemble 190 = .ok (.iadd, 1) := by decide +kernel
theorem dX11_assemble_191 : decode cX11_assemble 191 = .ok (.iload 4, 2) := by decide +kernel
theorem dX11_assemble_193 : decode cX11_assemble 193 = .ok (.iadd, 1) := by decide +kernel
theorem dX11_assemble_194 : decode cX11_assemble 194 = .ok (.aload_n 0, 1) := by decide +kernel
theorem dX11_assemble_195 : decode cX11_assemble 195 = .ok (.getfield 13, 3) := by decide +kernel
theorem dX11_assemble_198 : decode cX11_assemble 198 = .ok (.iload 4, 2) := by decide +kernel
theorem dX11_assemble_200 : decode cX11_assemble 200 = .ok (.iaload, 1) := by decide +kernel
theorem dX11_assemble_201 : decode cX11_assemble 201 = .ok (.iastore, 1) := by decide +kernel
theorem dX11_assemble_202 : decode cX11_assemble 202 = .ok (.iinc 4 1, 3) := by decide +kernel
theorem dX11_assemble_205 : decode cX11_assemble 205 = .ok (.goto (-34), 3) := by decide +kernel
theorem dX11_assemble_208 : decode cX11_assemble 208 = .ok (.aload_n 0, 1) := by decide +kernel
theorem dX11_assemble_209 : decode cX11_assemble 209 = .ok (.getfield 202, 3) := by decide +kernel
theorem dX11_assemble_212 : decode cX11_assemble 212 = .ok (.ireturn, 1) := by decide +kernel
theorem dX11_fault_0 : decode cX11_fault 0 = .ok (.aload_n 0, 1) := by decide +kernel
theorem dX11_fault_1 : decode cX11_fault 1 = .ok (.iconst 0, 1) := by decide +kernel
theorem dX11_fault_2 : decode cX11_fault 2 = .ok (.putfield 70, 3) := by decide +kernel
theorem dX11_fault_5 : decode cX11_fault 5 = .ok (.iload_n 1, 1) := by decide +kernel
theorem dX11_fault_6 : decode cX11_fault 6 = .ok (.ifCond .ne 10, 3) := by decide +kernel
theorem dX11_fault_9 : decode cX11_fault 9 = .ok (.aload_n 0, 1) := by decide +kernel
theorem dX11_fault_10 : decode cX11_fault 10 = .ok (.getfield 273, 3) := by decide +kernel
theorem dX11_fault_13 : decode cX11_fault 13 = .ok (.goto 16, 3) := by decide +kernel
theorem dX11_fault_16 : decode cX11_fault 16 = .ok (.iload_n 1, 1) := by decide +kernel
theorem dX11_fault_17 : decode cX11_fault 17 = .ok (.iconst 1, 1) := by decide +kernel
theorem dX11_fault_18 : decode cX11_fault 18 = .ok (.if_icmp .ne 10, 3) := by decide +kernel
theorem dX11_fault_21 : decode cX11_fault 21 = .ok (.aload_n 0, 1) := by decide +kernel
theorem dX11_fault_22 : decode cX11_fault 22 = .ok (.getfield 276, 3) := by decide +kernel
theorem dX11_fault_25 : decode cX11_fault 25 = .ok (.goto 4, 3) := by decide +kernel
theorem dX11_fault_28 : decode cX11_fault 28 = .ok (.iconst 0, 1) := by decide +kernel
theorem dX11_fault_29 : decode cX11_fault 29 = .ok (.ireturn, 1) := by decide +kernel
theorem dX11_peek_0 : decode cX11_peek 0 = .ok (.aload_n 0, 1) := by decide +kernel
theorem dX11_peek_1 : decode cX11_peek 1 = .ok (.iconst 0, 1) := by decide +kernel
theorem dX11_peek_2 : decode cX11_peek 2 = .ok (.putfield 70, 3) := by decide +kernel
theorem dX11_peek_5 : decode cX11_peek 5 = .ok (.iload_n 1, 1) := by decide +kernel
theorem dX11_peek_6 : decode cX11_peek 6 = .ok (.ifCond .lt 19, 3) := by decide +kernel
theorem dX11_peek_9 : decode cX11_peek 9 = .ok (.iload_n 1, 1) := by decide +kernel
theorem dX11_peek_10 : decode cX11_peek 10 = .ok (.iconst 3, 1) := by decide +kernel
theorem dX11_peek_11 : decode cX11_peek 11 = .ok (.if_icmp .gt 14, 3) := by decide +kernel
theorem dX11_peek_14 : decode cX11_peek 14 = .ok (.iload_n 2, 1) := by decide +kernel
theorem dX11_peek_15 : decode cX11_peek 15 = .ok (.ifCond .lt 10, 3) := by decide +kernel
theorem dX11_peek_18 : decode cX11_peek 18 = .ok (.iload_n 2, 1) := by decide +kernel
theorem dX11_peek_19 : decode cX11_peek 19 = .ok (.sipush 128, 3) := by decide +kernel
theorem dX11_peek_22 : decode cX11_peek 22 = .ok (.if_icmp .lt 7, 3) := by decide +kernel
theorem dX11_peek_25 : decode cX11_peek 25 = .ok (.iconst 0, 1) := by decide +kernel
theorem dX11_peek_26 : decode cX11_peek 26 = .ok (.goto 15, 3) := by decide +kernel
theorem dX11_peek_29 : decode cX11_peek 29 = .ok (.aload_n 0, 1) := by decide +kernel
theorem dX11_peek_30 : decode cX11_peek 30 = .ok (.getfield 33, 3) := by decide +kernel
theorem dX11_peek_33 : decode cX11_peek 33 = .ok (.sipush 128, 3) := by decide +kernel
theorem dX11_peek_36 : decode cX11_peek 36 = .ok (.iload_n 1, 1) := by decide +kernel
theorem dX11_peek_37 : decode cX11_peek 37 = .ok (.imul, 1) := by decide +kernel
theorem dX11_peek_38 : decode cX11_peek 38 = .ok (.iload_n 2, 1) := by decide +kernel
theorem dX11_peek_39 : decode cX11_peek 39 = .ok (.iadd, 1) := by decide +kernel
theorem dX11_peek_40 : decode cX11_peek 40 = .ok (.iaload, 1) := by decide +kernel
theorem dX11_peek_41 : decode cX11_peek 41 = .ok (.ireturn, 1) := by decide +kernel
theorem dX11_poke_0 : decode cX11_poke 0 = .ok (.aload_n 0, 1) := by decide +kernel
theorem dX11_poke_1 : decode cX11_poke 1 = .ok (.iconst 0, 1) := by decide +kernel
theorem dX11_poke_2 : decode cX11_poke 2 = .ok (.putfield 70, 3) := by decide +kernel
theorem dX11_poke_5 : decode cX11_poke 5 = .ok (.iload_n 1, 1) := by decide +kernel
theorem dX11_poke_6 : decode cX11_poke 6 = .ok (.ifCond .lt 19, 3) := by decide +kernel
theorem dX11_poke_9 : decode cX11_poke 9 = .ok (.iload_n 1, 1) := by decide +kernel
theorem dX11_poke_10 : decode cX11_poke 10 = .ok (.iconst 3, 1) := by decide +kernel
theorem dX11_poke_11 : decode cX11_poke 11 = .ok (.if_icmp .gt 14, 3) := by decide +kernel
theorem dX11_poke_14 : decode cX11_poke 14 = .ok (.iload_n 2, 1) := by decide +kernel
theorem dX11_poke_15 : decode cX11_poke 15 = .ok (.ifCond .lt 10, 3) := by decide +kernel
theorem dX11_poke_18 : decode cX11_poke 18 = .ok (.iload_n 2, 1) := by decide +kernel
theorem dX11_poke_19 : decode cX11_poke 19 = .ok (.sipush 128, 3) := by decide +kernel
theorem dX11_poke_22 : decode cX11_poke 22 = .ok (.if_icmp .lt 5, 3) := by decide +kernel
theorem dX11_poke_25 : decode cX11_poke 25 = .ok (.iconst 0, 1) := by decide +kernel
theorem dX11_poke_26 : decode cX11_poke 26 = .ok (.ireturn, 1) := by decide +kernel
theorem dX11_poke_27 : decode cX11_poke 27 = .ok (.aload_n 0, 1) := by decide +kernel
theorem dX11_poke_28 : decode cX11_poke 28 = .ok (.getfield 33, 3) := by decide +kernel
theorem dX11_poke_31 : decode cX11_poke 31 = .ok (.sipush 128, 3) := by decide +kernel
theorem dX11_poke_34 : decode cX11_poke 34 = .ok (.iload_n 1, 1) := by decide +kernel
theorem dX11_poke_35 : decode cX11_poke 35 = .ok (.imul, 1) := by decide +kernel
theorem dX11_poke_36 : decode cX11_poke 36 = .ok (.iload_n 2, 1) := by decide +kernel
theorem dX11_poke_37 : decode cX11_poke 37 = .ok (.iadd, 1) := by decide +kernel
theorem dX11_poke_38 : decode cX11_poke 38 = .ok (.iload_n 3, 1) := by decide +kernel
theorem dX11_poke_39 : decode cX11_poke 39 = .ok (.iastore, 1) := by decide +kernel
theorem dX11_poke_40 : decode cX11_poke 40 = .ok (.iconst 1, 1) := by decide +kernel
theorem dX11_poke_41 : decode cX11_poke 41 = .ok (.ireturn, 1) := by decide +kernel
theorem dX11_shared_0 : decode cX11_shared 0 = .ok (.aload_n 0, 1) := by decide +kernel
theorem dX11_shared_1 : decode cX11_shared 1 = .ok (.iconst 0, 1) := by decide +kernel
theorem dX11_shared_2 : decode cX11_shared 2 = .ok (.putfield 70, 3) := by decide +kernel
theorem dX11_shared_5 : decode cX11_shared 5 = .ok (.iload_n 1, 1) := by decide +kernel
theorem dX11_shared_6 : decode cX11_shared 6 = .ok (.ifCond .lt 9, 3) := by decide +kernel
theorem dX11_shared_9 : decode cX11_shared 9 = .ok (.iload_n 1, 1) := by decide +kernel
theorem dX11_shared_10 : decode cX11_shared 10 = .ok (.bipush 63, 2) := by decide +kernel
theorem dX11_shared_12 : decode cX11_shared 12 = .ok (.if_icmp .le 7, 3) := by decide +kernel
theorem dX11_shared_15 : decode cX11_shared 15 = .ok (.iconst 0, 1) := by decide +kernel
theorem dX11_shared_16 : decode cX11_shared 16 = .ok (.goto 9, 3) := by decide +kernel
theorem dX11_shared_19 : decode cX11_shared 19 = .ok (.aload_n 0, 1) := by decide +kernel
theorem dX11_shared_20 : decode cX11_shared 20 = .ok (.getfield 36, 3) := by decide +kernel
theorem dX11_shared_23 : decode cX11_shared 23 = .ok (.iload_n 1, 1) := by decide +kernel
theorem dX11_shared_24 : decode cX11_shared 24 = .ok (.iaload, 1) := by decide +kernel
theorem dX11_shared_25 : decode cX11_shared 25 = .ok (.ireturn, 1) := by decide +kernel
theorem dX11_part_0 : decode cX11_part 0 = .ok (.aload_n 0, 1) := by decide +kernel
theorem dX11_part_1 : decode cX11_part 1 = .ok (.iconst 0, 1) := by decide +kernel
theorem dX11_part_2 : decode cX11_part 2 = .ok (.putfield 70, 3) := by decide +kernel
theorem dX11_part_5 : decode cX11_part 5 = .ok (.iload_n 1, 1) := by decide +kernel
theorem dX11_part_6 : decode cX11_part 6 = .ok (.ifCond .lt 23, 3) := by decide +kernel
theorem dX11_part_9 : decode cX11_part 9 = .ok (.iload_n 1, 1) := by decide +kernel
theorem dX11_part_10 : decode cX11_part 10 = .ok (.iconst 3, 1) := by decide +kernel
theorem dX11_part_11 : decode cX11_part 11 = .ok (.if_icmp .gt 18, 3) := by decide +kernel
theorem dX11_part_14 : decode cX11_part 14 = .ok (.iload_n 2, 1) := by decide +kernel
theorem dX11_part_15 : decode cX11_part 15 = .ok (.ifCond .lt 14, 3) := by decide +kernel
theorem dX11_part_18 : decode cX11_part 18 = .ok (.iload_n 2, 1) := by decide +kernel
theorem dX11_part_19 : decode cX11_part 19 = .ok (.iload_n 3, 1) := by decide +kernel
theorem dX11_part_20 : decode cX11_part 20 = .ok (.if_icmp .gt 9, 3) := by decide +kernel
theorem dX11_part_23 : decode cX11_part 23 = .ok (.iload_n 3, 1) := by decide +kernel
theorem dX11_part_24 : decode cX11_part 24 = .ok (.bipush 64, 2) := by decide +kernel
theorem dX11_part_26 : decode cX11_part 26 = .ok (.if_icmp .le 5, 3) := by decide +kernel
theorem dX11_part_29 : decode cX11_part 29 = .ok (.iconst 0, 1) := by decide +kernel
theorem dX11_part_30 : decode cX11_part 30 = .ok (.ireturn, 1) := by decide +kernel
theorem dX11_part_31 : decode cX11_part 31 = .ok (.aload_n 0, 1) := by decide +kernel
theorem dX11_part_32 : decode cX11_part 32 = .ok (.getfield 39, 3) := by decide +kernel
theorem dX11_part_35 : decode cX11_part 35 = .ok (.iload_n 1, 1) := by decide +kernel
theorem dX11_part_36 : decode cX11_part 36 = .ok (.iload_n 2, 1) := by decide +kernel
theorem dX11_part_37 : decode cX11_part 37 = .ok (.iastore, 1) := by decide +kernel
theorem dX11_part_38 : decode cX11_part 38 = .ok (.aload_n 0, 1) := by decide +kernel
theorem dX11_part_39 : decode cX11_part 39 = .ok (.getfield 42, 3) := by decide +kernel
theorem dX11_part_42 : decode cX11_part 42 = .ok (.iload_n 1, 1) := by decide +kernel
theorem dX11_part_43 : decode cX11_part 43 = .ok (.iload_n 3, 1) := by decide +kernel
theorem dX11_part_44 : decode cX11_part 44 = .ok (.iastore, 1) := by decide +kernel
theorem dX11_part_45 : decode cX11_part 45 = .ok (.iconst 1, 1) := by decide +kernel
theorem dX11_part_46 : decode cX11_part 46 = .ok (.ireturn, 1) := by decide +kernel
theorem dX11_isOwn_0 : decode cX11_isOwn 0 = .ok (.iload_n 0, 1) := by decide +kernel
theorem dX11_isOwn_1 : decode cX11_isOwn 1 = .ok (.ifCond .lt 14, 3) := by decide +kernel
theorem dX11_isOwn_4 : decode cX11_isOwn 4 = .ok (.iload_n 0, 1) := by decide +kernel
theorem dX11_isOwn_5 : decode cX11_isOwn 5 = .ok (.sipush 512, 3) := by decide +kernel
theorem dX11_isOwn_8 : decode cX11_isOwn 8 = .ok (.if_icmp .ge 7, 3) := by decide +kernel
theorem dX11_isOwn_11 : decode cX11_isOwn 11 = .ok (.iconst 1, 1) := by decide +kernel
theorem dX11_isOwn_12 : decode cX11_isOwn 12 = .ok (.goto 4, 3) := by decide +kernel
theorem dX11_isOwn_15 : decode cX11_isOwn 15 = .ok (.iconst 0, 1) := by decide +kernel
theorem dX11_isOwn_16 : decode cX11_isOwn 16 = .ok (.ireturn, 1) := by decide +kernel
theorem dX11_isThere_0 : decode cX11_isThere 0 = .ok (.iload_n 2, 1) := by decide +kernel
theorem dX11_isThere_1 : decode cX11_isThere 1 = .ok (.iload_n 3, 1) := by decide +kernel
theorem dX11_isThere_2 : decode cX11_isThere 2 = .ok (.iconst 1, 1) := by decide +kernel
theorem dX11_isThere_3 : decode cX11_isThere 3 = .ok (.isub, 1) := by decide +kernel
theorem dX11_isThere_4 : decode cX11_isThere 4 = .ok (.iand, 1) := by decide +kernel
theorem dX11_isThere_5 : decode cX11_isThere 5 = .ok (.ifCond .eq 5, 3) := by decide +kernel
theorem dX11_isThere_8 : decode cX11_isThere 8 = .ok (.iconst 0, 1) := by decide +kernel
theorem dX11_isThere_9 : decode cX11_isThere 9 = .ok (.ireturn, 1) := by decide +kernel
theorem dX11_isThere_10 : decode cX11_isThere 10 = .ok (.iload_n 2, 1) := by decide +kernel
theorem dX11_isThere_11 : decode cX11_isThere 11 = .ok (.invokestatic 288, 3) := by decide +kernel
theorem dX11_isThere_14 : decode cX11_isThere 14 = .ok (.ifCond .ne 35, 3) := by decide +kernel
theorem dX11_isThere_17 : decode cX11_isThere 17 = .ok (.iload_n 2, 1) := by decide +kernel
theorem dX11_isThere_18 : decode cX11_isThere 18 = .ok (.sipush 4096, 3) := by decide +kernel
theorem dX11_isThere_21 : decode cX11_isThere 21 = .ok (.iconst 4, 1) := by decide +kernel
theorem dX11_isThere_22 : decode cX11_isThere 22 = .ok (.aload_n 0, 1) := by decide +kernel
theorem dX11_isThere_23 : decode cX11_isThere 23 = .ok (.getfield 39, 3) := by decide +kernel
theorem dX11_isThere_26 : decode cX11_isThere 26 = .ok (.iload_n 1, 1) := by decide +kernel
theorem dX11_isThere_27 : decode cX11_isThere 27 = .ok (.iaload, 1) := by decide +kernel
theorem dX11_isThere_28 : decode cX11_isThere 28 = .ok (.imul, 1) := by decide +kernel
theorem dX11_isThere_29 : decode cX11_isThere 29 = .ok (.iadd, 1) := by decide +kernel
theorem dX11_isThere_30 : decode cX11_isThere 30 = .ok (.if_icmp .lt 23, 3) := by decide +kernel
theorem dX11_isThere_33 : decode cX11_isThere 33 = .ok (.iload_n 2, 1) := by decide +kernel
theorem dX11_isThere_34 : decode cX11_isThere 34 = .ok (.sipush 4096, 3) := by decide +kernel
theorem dX11_isThere_37 : decode cX11_isThere 37 = .ok (.iconst 4, 1) := by decide +kernel
theorem dX11_isThere_38 : decode cX11_isThere 38 = .ok (.aload_n 0, 1) := by decide +kernel
theorem dX11_isThere_39 : decode cX11_isThere 39 = .ok (.getfield 42, 3) := by decide +kernel
theorem dX11_isThere_42 : decode cX11_isThere 42 = .ok (.iload_n 1, 1) := by decide +kernel
theorem dX11_isThere_43 : decode cX11_isThere 43 = .ok (.iaload, 1) := by decide +kernel
theorem dX11_isThere_44 : decode cX11_isThere 44 = .ok (.imul, 1) := by decide +kernel
theorem dX11_isThere_45 : decode cX11_isThere 45 = .ok (.iadd, 1) := by decide +kernel
theorem dX11_isThere_46 : decode cX11_isThere 46 = .ok (.if_icmp .ge 7, 3) := by decide +kernel
theorem dX11_isThere_49 : decode cX11_isThere 49 = .ok (.iconst 1, 1) := by decide +kernel
theorem dX11_isThere_50 : decode cX11_isThere 50 = .ok (.goto 4, 3) := by decide +kernel
theorem dX11_isThere_53 : decode cX11_isThere 53 = .ok (.iconst 0, 1) := by decide +kernel
theorem dX11_isThere_54 : decode cX11_isThere 54 = .ok (.ireturn, 1) := by decide +kernel
theorem dX11_wordAt_0 : decode cX11_wordAt 0 = .ok (.iload_n 2, 1) := by decide +kernel
theorem dX11_wordAt_1 : decode cX11_wordAt 1 = .ok (.invokestatic 288, 3) := by decide +kernel
theorem dX11_wordAt_4 : decode cX11_wordAt 4 = .ok (.ifCond .eq 20, 3) := by decide +kernel
theorem dX11_wordAt_7 : decode cX11_wordAt 7 = .ok (.aload_n 0, 1) := by decide +kernel
theorem dX11_wordAt_8 : decode cX11_wordAt 8 = .ok (.getfield 33, 3) := by decide +kernel
theorem dX11_wordAt_11 : decode cX11_wordAt 11 = .ok (.sipush 128, 3) := by decide +kernel
theorem dX11_wordAt_14 : decode cX11_wordAt 14 = .ok (.iload_n 1, 1) := by decide +kernel
theorem dX11_wordAt_15 : decode cX11_wordAt 15 = .ok (.imul, 1) := by decide +kernel
theorem dX11_wordAt_16 : decode cX11_wordAt 16 = .ok (.iload_n 2, 1) := by decide +kernel
theorem dX11_wordAt_17 : decode cX11_wordAt 17 = .ok (.iconst 4, 1) := by decide +kernel
theorem dX11_wordAt_18 : decode cX11_wordAt 18 = .ok (.idiv, 1) := by decide +kernel
theorem dX11_wordAt_19 : decode cX11_wordAt 19 = .ok (.iadd, 1) := by decide +kernel
theorem dX11_wordAt_20 : decode cX11_wordAt 20 = .ok (.iaload, 1) := by decide +kernel
theorem dX11_wordAt_21 : decode cX11_wordAt 21 = .ok (.goto 15, 3) := by decide +kernel
theorem dX11_wordAt_24 : decode cX11_wordAt 24 = .ok (.aload_n 0, 1) := by decide +kernel
theorem dX11_wordAt_25 : decode cX11_wordAt 25 = .ok (.getfield 36, 3) := by decide +kernel
theorem dX11_wordAt_28 : decode cX11_wordAt 28 = .ok (.iload_n 2, 1) := by decide +kernel
theorem dX11_wordAt_29 : decode cX11_wordAt 29 = .ok (.sipush 4096, 3) := by decide +kernel
theorem dX11_wordAt_32 : decode cX11_wordAt 32 = .ok (.isub, 1) := by decide +kernel
theorem dX11_wordAt_33 : decode cX11_wordAt 33 = .ok (.iconst 4, 1) := by decide +kernel
theorem dX11_wordAt_34 : decode cX11_wordAt 34 = .ok (.idiv, 1) := by decide +kernel
theorem dX11_wordAt_35 : decode cX11_wordAt 35 = .ok (.iaload, 1) := by decide +kernel
theorem dX11_wordAt_36 : decode cX11_wordAt 36 = .ok (.ireturn, 1) := by decide +kernel
theorem dX11_put_0 : decode cX11_put 0 = .ok (.iload_n 2, 1) := by decide +kernel
theorem dX11_put_1 : decode cX11_put 1 = .ok (.invokestatic 288, 3) := by decide +kernel
theorem dX11_put_4 : decode cX11_put 4 = .ok (.ifCond .eq 21, 3) := by decide +kernel
theorem dX11_put_7 : decode cX11_put 7 = .ok (.aload_n 0, 1) := by decide +kernel
theorem dX11_put_8 : decode cX11_put 8 = .ok (.getfield 33, 3) := by decide +kernel
theorem dX11_put_11 : decode cX11_put 11 = .ok (.sipush 128, 3) := by decide +kernel
theorem dX11_put_14 : decode cX11_put 14 = .ok (.iload_n 1, 1) := by decide +kernel
theorem dX11_put_15 : decode cX11_put 15 = .ok (.imul, 1) := by decide +kernel
theorem dX11_put_16 : decode cX11_put 16 = .ok (.iload_n 2, 1) := by decide +kernel
theorem dX11_put_17 : decode cX11_put 17 = .ok (.iconst 4, 1) := by decide +kernel
theorem dX11_put_18 : decode cX11_put 18 = .ok (.idiv, 1) := by decide +kernel
theorem dX11_put_19 : decode cX11_put 19 = .ok (.iadd, 1) := by decide +kernel
theorem dX11_put_20 : decode cX11_put 20 = .ok (.iload_n 3, 1) := by decide +kernel
theorem dX11_put_21 : decode cX11_put 21 = .ok (.iastore, 1) := by decide +kernel
theorem dX11_put_22 : decode cX11_put 22 = .ok (.goto 16, 3) := by decide +kernel
theorem dX11_put_25 : decode cX11_put 25 = .ok (.aload_n 0, 1) := by decide +kernel
theorem dX11_put_26 : decode cX11_put 26 = .ok (.getfield 36, 3) := by decide +kernel
theorem dX11_put_29 : decode cX11_put 29 = .ok (.iload_n 2, 1) := by decide +kernel
theorem dX11_put_30 : decode cX11_put 30 = .ok (.sipush 4096, 3) := by decide +kernel
theorem dX11_put_33 : decode cX11_put 33 = .ok (.isub, 1) := by decide +kernel
theorem dX11_put_34 : decode cX11_put 34 = .ok (.iconst 4, 1) := by decide +kernel
theorem dX11_put_35 : decode cX11_put 35 = .ok (.idiv, 1) := by decide +kernel
theorem dX11_put_36 : decode cX11_put 36 = .ok (.iload_n 3, 1) := by decide +kernel
theorem dX11_put_37 : decode cX11_put 37 = .ok (.iastore, 1) := by decide +kernel
theorem dX11_put_38 : decode cX11_put 38 = .ok (.return_, 1) := by decide +kernel
theorem dX11_start_0 : decode cX11_start 0 = .ok (.aload_n 0, 1) := by decide +kernel
theorem dX11_start_1 : decode cX11_start 1 = .ok (.iconst 0, 1) := by decide +kernel
theorem dX11_start_2 : decode cX11_start 2 = .ok (.putfield 70, 3) := by decide +kernel
theorem dX11_start_5 : decode cX11_start 5 = .ok (.iload_n 1, 1) := by decide +kernel
theorem dX11_start_6 : decode cX11_start 6 = .ok (.ifCond .lt 8, 3) := by decide +kernel
theorem dX11_start_9 : decode cX11_start 9 = .ok (.iload_n 1, 1) := by decide +kernel
theorem dX11_start_10 : decode cX11_start 10 = .ok (.iconst 3, 1) := by decide +kernel
theorem dX11_start_11 : decode cX11_start 11 = .ok (.if_icmp .le 5, 3) := by decide +kernel
theorem dX11_start_14 : decode cX11_start 14 = .ok (.iconst 0, 1) := by decide +kernel
theorem dX11_start_15 : decode cX11_start 15 = .ok (.ireturn, 1) := by decide +kernel
theorem dX11_start_16 : decode cX11_start 16 = .ok (.aload_n 0, 1) := by decide +kernel
theorem dX11_start_17 : decode cX11_start 17 = .ok (.getfield 51, 3) := by decide +kernel
theorem dX11_start_20 : decode cX11_start 20 = .ok (.iload_n 1, 1) := by decide +kernel
theorem dX11_start_21 : decode cX11_start 21 = .ok (.iconst 1, 1) := by decide +kernel
theorem dX11_start_22 : decode cX11_start 22 = .ok (.iastore, 1) := by decide +kernel
theorem dX11_start_23 : decode cX11_start 23 = .ok (.aload_n 0, 1) := by decide +kernel
theorem dX11_start_24 : decode cX11_start 24 = .ok (.getfield 48, 3) := by decide +kernel
theorem dX11_start_27 : decode cX11_start 27 = .ok (.iload_n 1, 1) := by decide +kernel
theorem dX11_start_28 : decode cX11_start 28 = .ok (.iload_n 2, 1) := by decide +kernel
theorem dX11_start_29 : decode cX11_start 29 = .ok (.iastore, 1) := by decide +kernel
theorem dX11_start_30 : decode cX11_start 30 = .ok (.aload_n 0, 1) := by decide +kernel
theorem dX11_start_31 : decode cX11_start 31 = .ok (.getfield 57, 3) := by decide +kernel
theorem dX11_start_34 : decode cX11_start 34 = .ok (.iload_n 1, 1) := by decide +kernel
theorem dX11_start_35 : decode cX11_start 35 = .ok (.aload_n 0, 1) := by decide +kernel
theorem dX11_start_36 : decode cX11_start 36 = .ok (.getfield 291, 3) := by decide +kernel
theorem dX11_start_39 : decode cX11_start 39 = .ok (.iastore, 1) := by decide +kernel
theorem dX11_start_40 : decode cX11_start 40 = .ok (.iconst 1, 1) := by decide +kernel
theorem dX11_start_41 : decode cX11_start 41 = .ok (.ireturn, 1) := by decide +kernel
theorem dX11_set_0 : decode cX11_set 0 = .ok (.iload_n 2, 1) := by decide +kernel
theorem dX11_set_1 : decode cX11_set 1 = .ok (.ifCond .le 15, 3) := by decide +kernel
theorem dX11_set_4 : decode cX11_set 4 = .ok (.aload_n 0, 1) := by decide +kernel
theorem dX11_set_5 : decode cX11_set 5 = .ok (.getfield 45, 3) := by decide +kernel
theorem dX11_set_8 : decode cX11_set 8 = .ok (.bipush 16, 2) := by decide +kernel
theorem dX11_set_10 : decode cX11_set 10 = .ok (.iload_n 1, 1) := by decide +kernel
theorem dX11_set_11 : decode cX11_set 11 = .ok (.imul, 1) := by decide +kernel
theorem dX11_set_12 : decode cX11_set 12 = .ok (.iload_n 2, 1) := by decide +kernel
theorem dX11_set_13 : decode cX11_set 13 = .ok (.iadd, 1) := by decide +kernel
theorem dX11_set_14 : decode cX11_set 14 = .ok (.iload_n 3, 1) := by decide +kernel
theorem dX11_set_15 : decode cX11_set 15 = .ok (.iastore, 1) := by decide +kernel
theorem dX11_set_16 : decode cX11_set 16 = .ok (.return_, 1) := by decide +kernel
theorem dX11_done_0 : decode cX11_done 0 = .ok (.bipush 48, 2) := by decide +kernel
theorem dX11_done_2 : decode cX11_done 2 = .ok (.iload_n 1, 1) := by decide +kernel
theorem dX11_done_3 : decode cX11_done 3 = .ok (.imul, 1) := by decide +kernel
theorem dX11_done_4 : decode cX11_done 4 = .ok (.iconst 3, 1) := by decide +kernel
theorem dX11_done_5 : decode cX11_done 5 = .ok (.aload_n 0, 1) := by decide +kernel
theorem dX11_done_6 : decode cX11_done 6 = .ok (.getfield 54, 3) := by decide +kernel
theorem dX11_done_9 : decode cX11_done 9 = .ok (.iload_n 1, 1) := by decide +kernel
theorem dX11_done_10 : decode cX11_done 10 = .ok (.iaload, 1) := by decide +kernel
theorem dX11_done_11 : decode cX11_done 11 = .ok (.bipush 16, 2) := by decide +kernel
theorem dX11_done_13 : decode cX11_done 13 = .ok (.irem, 1) := by decide +kernel
theorem dX11_done_14 : decode cX11_done 14 = .ok (.imul, 1) := by decide +kernel
theorem dX11_done_15 : decode cX11_done 15 = .ok (.iadd, 1) := by decide +kernel
theorem dX11_done_16 : decode cX11_done 16 = .ok (.istore 4, 2) := by decide +kernel
theorem dX11_done_18 : decode cX11_done 18 = .ok (.aload_n 0, 1) := by decide +kernel
theorem dX11_done_19 : decode cX11_done 19 = .ok (.getfield 63, 3) := by decide +kernel
theorem dX11_done_22 : decode cX11_done 22 = .ok (.iload 4, 2) := by decide +kernel
theorem dX11_done_24 : decode cX11_done 24 = .ok (.aload_n 0, 1) := by decide +kernel
theorem dX11_done_25 : decode cX11_done 25 = .ok (.getfield 48, 3) := by decide +kernel
theorem dX11_done_28 : decode cX11_done 28 = .ok (.iload_n 1, 1) := by decide +kernel
theorem dX11_done_29 : decode cX11_done 29 = .ok (.iaload, 1) := by decide +kernel
theorem dX11_done_30 : decode cX11_done 30 = .ok (.iastore, 1) := by decide +kernel
theorem dX11_done_31 : decode cX11_done 31 = .ok (.aload_n 0, 1) := by decide +kernel
theorem dX11_done_32 : decode cX11_done 32 = .ok (.getfield 63, 3) := by decide +kernel
theorem dX11_done_35 : decode cX11_done 35 = .ok (.iload 4, 2) := by decide +kernel
theorem dX11_done_37 : decode cX11_done 37 = .ok (.iconst 1, 1) := by decide +kernel
theorem dX11_done_38 : decode cX11_done 38 = .ok (.iadd, 1) := by decide +kernel
theorem dX11_done_39 : decode cX11_done 39 = .ok (.aload_n 0, 1) := by decide +kernel
theorem dX11_done_40 : decode cX11_done 40 = .ok (.getfield 291, 3) := by decide +kernel
theorem dX11_done_43 : decode cX11_done 43 = .ok (.iastore, 1) := by decide +kernel
theorem dX11_done_44 : decode cX11_done 44 = .ok (.aload_n 0, 1) := by decide +kernel
theorem dX11_done_45 : decode cX11_done 45 = .ok (.getfield 63, 3) := by decide +kernel
theorem dX11_done_48 : decode cX11_done 48 = .ok (.iload 4, 2) := by decide +kernel
theorem dX11_done_50 : decode cX11_done 50 = .ok (.iconst 2, 1) := by decide +kernel
theorem dX11_done_51 : decode cX11_done 51 = .ok (.iadd, 1) := by decide +kernel
theorem dX11_done_52 : decode cX11_done 52 = .ok (.iload_n 3, 1) := by decide +kernel
theorem dX11_done_53 : decode cX11_done 53 = .ok (.iastore, 1) := by decide +kernel
theorem dX11_done_54 : decode cX11_done 54 = .ok (.aload_n 0, 1) := by decide +kernel
theorem dX11_done_55 : decode cX11_done 55 = .ok (.getfield 54, 3) := by decide +kernel
theorem dX11_done_58 : decode cX11_done 58 = .ok (.iload_n 1, 1) := by decide +kernel
theorem dX11_done_59 : decode cX11_done 59 = .ok (.dup2, 1) := by decide +kernel
theorem dX11_done_60 : decode cX11_done 60 = .ok (.iaload, 1) := by decide +kernel
theorem dX11_done_61 : decode cX11_done 61 = .ok (.iconst 1, 1) := by decide +kernel
theorem dX11_done_62 : decode cX11_done 62 = .ok (.iadd, 1) := by decide +kernel
theorem dX11_done_63 : decode cX11_done 63 = .ok (.iastore, 1) := by decide +kernel
theorem dX11_done_64 : decode cX11_done 64 = .ok (.aload_n 0, 1) := by decide +kernel
theorem dX11_done_65 : decode cX11_done 65 = .ok (.getfield 48, 3) := by decide +kernel
theorem dX11_done_68 : decode cX11_done 68 = .ok (.iload_n 1, 1) := by decide +kernel
theorem dX11_done_69 : decode cX11_done 69 = .ok (.iload_n 2, 1) := by decide +kernel
theorem dX11_done_70 : decode cX11_done 70 = .ok (.iastore, 1) := by decide +kernel
theorem dX11_done_71 : decode cX11_done 71 = .ok (.aload_n 0, 1) := by decide +kernel
theorem dX11_done_72 : decode cX11_done 72 = .ok (.getfield 57, 3) := by decide +kernel
theorem dX11_done_75 : decode cX11_done 75 = .ok (.iload_n 1, 1) := by decide +kernel
theorem dX11_done_76 : decode cX11_done 76 = .ok (.iload_n 3, 1) := by decide +kernel
theorem dX11_done_77 : decode cX11_done 77 = .ok (.iastore, 1) := by decide +kernel
theorem dX11_done_78 : decode cX11_done 78 = .ok (.iconst 1, 1) := by decide +kernel
theorem dX11_done_79 : decode cX11_done 79 = .ok (.ireturn, 1) := by decide +kernel
theorem dX11_stop_0 : decode cX11_stop 0 = .ok (.aload_n 0, 1) := by decide +kernel
theorem dX11_stop_1 : decode cX11_stop 1 = .ok (.getfield 51, 3) := by decide +kernel
theorem dX11_stop_4 : decode cX11_stop 4 = .ok (.iload_n 1, 1) := by decide +kernel
theorem dX11_stop_5 : decode cX11_stop 5 = .ok (.iconst 3, 1) := by decide +kernel
theorem dX11_stop_6 : decode cX11_stop 6 = .ok (.iastore, 1) := by decide +kernel
theorem dX11_stop_7 : decode cX11_stop 7 = .ok (.iconst 0, 1) := by decide +kernel
theorem dX11_stop_8 : decode cX11_stop 8 = .ok (.ireturn, 1) := by decide +kernel
theorem dX11_isLess_0 : decode cX11_isLess 0 = .ok (.iload_n 0, 1) := by decide +kernel
theorem dX11_isLess_1 : decode cX11_isLess 1 = .ok (.ldc_w 294, 3) := by decide +kernel
theorem dX11_isLess_4 : decode cX11_isLess 4 = .ok (.ixor, 1) := by decide +kernel
theorem dX11_isLess_5 : decode cX11_isLess 5 = .ok (.iload_n 1, 1) := by decide +kernel
theorem dX11_isLess_6 : decode cX11_isLess 6 = .ok (.ldc_w 294, 3) := by decide +kernel
theorem dX11_isLess_9 : decode cX11_isLess 9 = .ok (.ixor, 1) := by decide +kernel
theorem dX11_isLess_10 : decode cX11_isLess 10 = .ok (.if_icmp .ge 7, 3) := by decide +kernel
theorem dX11_isLess_13 : decode cX11_isLess 13 = .ok (.iconst 1, 1) := by decide +kernel
theorem dX11_isLess_14 : decode cX11_isLess 14 = .ok (.goto 4, 3) := by decide +kernel
theorem dX11_isLess_17 : decode cX11_isLess 17 = .ok (.iconst 0, 1) := by decide +kernel
theorem dX11_isLess_18 : decode cX11_isLess 18 = .ok (.ireturn, 1) := by decide +kernel
theorem dX11_worked_0 : decode cX11_worked 0 = .ok (.iload_n 0, 1) := by decide +kernel
theorem dX11_worked_1 : decode cX11_worked 1 = .ok (.tableswitch 117 0 6 #[43, 57, 64, 75, 89, 93, 113], 43) := by decide +kernel
theorem dX11_worked_44 : decode cX11_worked 44 = .ok (.iload_n 1, 1) := by decide +kernel
theorem dX11_worked_45 : decode cX11_worked 45 = .ok (.ifCond .eq 9, 3) := by decide +kernel
theorem dX11_worked_48 : decode cX11_worked 48 = .ok (.iload_n 2, 1) := by decide +kernel
theorem dX11_worked_49 : decode cX11_worked 49 = .ok (.iload_n 3, 1) := by decide +kernel
theorem dX11_worked_50 : decode cX11_worked 50 = .ok (.isub, 1) := by decide +kernel
theorem dX11_worked_51 : decode cX11_worked 51 = .ok (.goto 6, 3) := by decide +kernel
theorem dX11_worked_54 : decode cX11_worked 54 = .ok (.iload_n 2, 1) := by decide +kernel
theorem dX11_worked_55 : decode cX11_worked 55 = .ok (.iload_n 3, 1) := by decide +kernel
theorem dX11_worked_56 : decode cX11_worked 56 = .ok (.iadd, 1) := by decide +kernel
theorem dX11_worked_57 : decode cX11_worked 57 = .ok (.ireturn, 1) := by decide +kernel
theorem dX11_worked_58 : decode cX11_worked 58 = .ok (.iload_n 2, 1) := by decide +kernel
theorem dX11_worked_59 : decode cX11_worked 59 = .ok (.iload_n 3, 1) := by decide +kernel
theorem dX11_worked_60 : decode cX11_worked 60 = .ok (.bipush 31, 2) := by decide +kernel
theorem dX11_worked_62 : decode cX11_worked 62 = .ok (.iand, 1) := by decide +kernel
theorem dX11_worked_63 : decode cX11_worked 63 = .ok (.ishl, 1) := by decide +kernel
theorem dX11_worked_64 : decode cX11_worked 64 = .ok (.ireturn, 1) := by decide +kernel
theorem dX11_worked_65 : decode cX11_worked 65 = .ok (.iload_n 2, 1) := by decide +kernel
theorem dX11_worked_66 : decode cX11_worked 66 = .ok (.iload_n 3, 1) := by decide +kernel
theorem dX11_worked_67 : decode cX11_worked 67 = .ok (.if_icmp .ge 7, 3) := by decide +kernel
theorem dX11_worked_70 : decode cX11_worked 70 = .ok (.iconst 1, 1) := by decide +kernel
theorem dX11_worked_71 : decode cX11_worked 71 = .ok (.goto 4, 3) := by decide +kernel
theorem dX11_worked_74 : decode cX11_worked 74 = .ok (.iconst 0, 1) := by decide +kernel
theorem dX11_worked_75 : decode cX11_worked 75 = .ok (.ireturn, 1) := by decide +kernel
theorem dX11_worked_76 : decode cX11_worked 76 = .ok (.iload_n 2, 1) := by decide +kernel
theorem dX11_worked_77 : decode cX11_worked 77 = .ok (.iload_n 3, 1) := by decide +kernel
theorem dX11_worked_78 : decode cX11_worked 78 = .ok (.invokestatic 295, 3) := by decide +kernel
theorem dX11_worked_81 : decode cX11_worked 81 = .ok (.ifCond .eq 7, 3) := by decide +kernel
theorem dX11_worked_84 : decode cX11_worked 84 = .ok (.iconst 1, 1) := by decide +kernel
theorem dX11_worked_85 : decode cX11_worked 85 = .ok (.goto 4, 3) := by decide +kernel
theorem dX11_worked_88 : decode cX11_worked 88 = .ok (.iconst 0, 1) := by decide +kernel
theorem dX11_worked_89 : decode cX11_worked 89 = .ok (.ireturn, 1) := by decide +kernel
theorem dX11_worked_90 : decode cX11_worked 90 = .ok (.iload_n 2, 1) := by decide +kernel
theorem dX11_worked_91 : decode cX11_worked 91 = .ok (.iload_n 3, 1) := by decide +kernel
theorem dX11_worked_92 : decode cX11_worked 92 = .ok (.ixor, 1) := by decide +kernel
theorem dX11_worked_93 : decode cX11_worked 93 = .ok (.ireturn, 1) := by decide +kernel
theorem dX11_worked_94 : decode cX11_worked 94 = .ok (.iload_n 1, 1) := by decide +kernel
theorem dX11_worked_95 : decode cX11_worked 95 = .ok (.ifCond .eq 12, 3) := by decide +kernel
theorem dX11_worked_98 : decode cX11_worked 98 = .ok (.iload_n 2, 1) := by decide +kernel
theorem dX11_worked_99 : decode cX11_worked 99 = .ok (.iload_n 3, 1) := by decide +kernel
theorem dX11_worked_100 : decode cX11_worked 100 = .ok (.bipush 31, 2) := by decide +kernel
theorem dX11_worked_102 : decode cX11_worked 102 = .ok (.iand, 1) := by decide +kernel
theorem dX11_worked_103 : decode cX11_worked 103 = .ok (.ishr, 1) := by decide +kernel
theorem dX11_worked_104 : decode cX11_worked 104 = .ok (.goto 9, 3) := by decide +kernel
theorem dX11_worked_107 : decode cX11_worked 107 = .ok (.iload_n 2, 1) := by decide +kernel
theorem dX11_worked_108 : decode cX11_worked 108 = .ok (.iload_n 3, 1) := by decide +kernel
theorem dX11_worked_109 : decode cX11_worked 109 = .ok (.bipush 31, 2) := by decide +kernel
theorem dX11_worked_111 : decode cX11_worked 111 = .ok (.iand, 1) := by decide +kernel
theorem dX11_worked_112 : decode cX11_worked 112 = .ok (.iushr, 1) := by decide +kernel
theorem dX11_worked_113 : decode cX11_worked 113 = .ok (.ireturn, 1) := by decide +kernel
theorem dX11_worked_114 : decode cX11_worked 114 = .ok (.iload_n 2, 1) := by decide +kernel
theorem dX11_worked_115 : decode cX11_worked 115 = .ok (.iload_n 3, 1) := by decide +kernel
theorem dX11_worked_116 : decode cX11_worked 116 = .ok (.ior, 1) := by decide +kernel
theorem dX11_worked_117 : decode cX11_worked 117 = .ok (.ireturn, 1) := by decide +kernel
theorem dX11_worked_118 : decode cX11_worked 118 = .ok (.iload_n 2, 1) := by decide +kernel
theorem dX11_worked_119 : decode cX11_worked 119 = .ok (.iload_n 3, 1) := by decide +kernel
theorem dX11_worked_120 : decode cX11_worked 120 = .ok (.iand, 1) := by decide +kernel
theorem dX11_worked_121 : decode cX11_worked 121 = .ok (.ireturn, 1) := by decide +kernel
theorem dX11_goes_0 : decode cX11_goes 0 = .ok (.iload_n 0, 1) := by decide +kernel
theorem dX11_goes_1 : decode cX11_goes 1 = .ok (.iconst 2, 1) := by decide +kernel
theorem dX11_goes_2 : decode cX11_goes 2 = .ok (.if_icmp .ge 16, 3) := by decide +kernel
theorem dX11_goes_5 : decode cX11_goes 5 = .ok (.iload_n 1, 1) := by decide +kernel
theorem dX11_goes_6 : decode cX11_goes 6 = .ok (.iload_n 2, 1) := by decide +kernel
theorem dX11_goes_7 : decode cX11_goes 7 = .ok (.if_icmp .ne 7, 3) := by decide +kernel
theorem dX11_goes_10 : decode cX11_goes 10 = .ok (.iconst 1, 1) := by decide +kernel
theorem dX11_goes_11 : decode cX11_goes 11 = .ok (.goto 31, 3) := by decide +kernel
theorem dX11_goes_14 : decode cX11_goes 14 = .ok (.iconst 0, 1) := by decide +kernel
theorem dX11_goes_15 : decode cX11_goes 15 = .ok (.goto 27, 3) := by decide +kernel
theorem dX11_goes_18 : decode cX11_goes 18 = .ok (.iload_n 0, 1) := by decide +kernel
theorem dX11_goes_19 : decode cX11_goes 19 = .ok (.bipush 6, 2) := by decide +kernel
theorem dX11_goes_21 : decode cX11_goes 21 = .ok (.if_icmp .ge 16, 3) := by decide +kernel
theorem dX11_goes_24 : decode cX11_goes 24 = .ok (.iload_n 1, 1) := by decide +kernel
theorem dX11_goes_25 : decode cX11_goes 25 = .ok (.iload_n 2, 1) := by decide +kernel
theorem dX11_goes_26 : decode cX11_goes 26 = .ok (.if_icmp .ge 7, 3) := by decide +kernel
theorem dX11_goes_29 : decode cX11_goes 29 = .ok (.iconst 1, 1) := by decide +kernel
theorem dX11_goes_30 : decode cX11_goes 30 = .ok (.goto 12, 3) := by decide +kernel
theorem dX11_goes_33 : decode cX11_goes 33 = .ok (.iconst 0, 1) := by decide +kernel
theorem dX11_goes_34 : decode cX11_goes 34 = .ok (.goto 8, 3) := by decide +kernel
theorem dX11_goes_37 : decode cX11_goes 37 = .ok (.iload_n 1, 1) := by decide +kernel
theorem dX11_goes_38 : decode cX11_goes 38 = .ok (.iload_n 2, 1) := by decide +kernel
theorem dX11_goes_39 : decode cX11_goes 39 = .ok (.invokestatic 295, 3) := by decide +kernel
theorem dX11_goes_42 : decode cX11_goes 42 = .ok (.istore_n 3, 1) := by decide +kernel
theorem dX11_goes_43 : decode cX11_goes 43 = .ok (.iload_n 3, 1) := by decide +kernel
theorem dX11_goes_44 : decode cX11_goes 44 = .ok (.iload_n 0, 1) := by decide +kernel
theorem dX11_goes_45 : decode cX11_goes 45 = .ok (.iconst 2, 1) := by decide +kernel
theorem dX11_goes_46 : decode cX11_goes 46 = .ok (.irem, 1) := by decide +kernel
theorem dX11_goes_47 : decode cX11_goes 47 = .ok (.ifCond .ne 7, 3) := by decide +kernel
theorem dX11_goes_50 : decode cX11_goes 50 = .ok (.iconst 1, 1) := by decide +kernel
theorem dX11_goes_51 : decode cX11_goes 51 = .ok (.goto 4, 3) := by decide +kernel
theorem dX11_goes_54 : decode cX11_goes 54 = .ok (.iconst 0, 1) := by decide +kernel
theorem dX11_goes_55 : decode cX11_goes 55 = .ok (.if_icmp .ne 7, 3) := by decide +kernel
theorem dX11_goes_58 : decode cX11_goes 58 = .ok (.iconst 1, 1) := by decide +kernel
theorem dX11_goes_59 : decode cX11_goes 59 = .ok (.goto 4, 3) := by decide +kernel
theorem dX11_goes_62 : decode cX11_goes 62 = .ok (.iconst 0, 1) := by decide +kernel
theorem dX11_goes_63 : decode cX11_goes 63 = .ok (.ireturn, 1) := by decide +kernel
theorem dX11_first_0 : decode cX11_first 0 = .ok (.aload_n 0, 1) := by decide +kernel
theorem dX11_first_1 : decode cX11_first 1 = .ok (.getfield 291, 3) := by decide +kernel
theorem dX11_first_4 : decode cX11_first 4 = .ok (.istore_n 2, 1) := by decide +kernel
theorem dX11_first_5 : decode cX11_first 5 = .ok (.iload_n 2, 1) := by decide +kernel
theorem dX11_first_6 : decode cX11_first 6 = .ok (.iconst 4, 1) := by decide +kernel
theorem dX11_first_7 : decode cX11_first 7 = .ok (.aload_n 0, 1) := by decide +kernel
theorem dX11_first_8 : decode cX11_first 8 = .ok (.getfield 66, 3) := by decide +kernel
theorem dX11_first_11 : decode cX11_first 11 = .ok (.imul, 1) := by decide +kernel
theorem dX11_first_12 : decode cX11_first 12 = .ok (.irem, 1) := by decide +kernel
theorem dX11_first_13 : decode cX11_first 13 = .ok (.aload_n 0, 1) := by decide +kernel
theorem dX11_first_14 : decode cX11_first 14 = .ok (.getfield 66, 3) := by decide +kernel
theorem dX11_first_17 : decode cX11_first 17 = .ok (.iload_n 1, 1) := by decide +kernel
theorem dX11_first_18 : decode cX11_first 18 = .ok (.imul, 1) := by decide +kernel
theorem dX11_first_19 : decode cX11_first 19 = .ok (.if_icmp .eq 9, 3) := by decide +kernel
theorem dX11_first_22 : decode cX11_first 22 = .ok (.iinc 2 1, 3) := by decide +kernel
theorem dX11_first_25 : decode cX11_first 25 = .ok (.goto (-20), 3) := by decide +kernel
theorem dX11_first_28 : decode cX11_first 28 = .ok (.iload_n 2, 1) := by decide +kernel
theorem dX11_first_29 : decode cX11_first 29 = .ok (.ireturn, 1) := by decide +kernel
theorem dX11_moveWord_0 : decode cX11_moveWord 0 = .ok (.iload_n 2, 1) := by decide +kernel
theorem dX11_moveWord_1 : decode cX11_moveWord 1 = .ok (.bipush 12, 2) := by decide +kernel
theorem dX11_moveWord_3 : decode cX11_moveWord 3 = .ok (.ishr, 1) := by decide +kernel
theorem dX11_moveWord_4 : decode cX11_moveWord 4 = .ok (.bipush 7, 2) := by decide +kernel
theorem dX11_moveWord_6 : decode cX11_moveWord 6 = .ok (.iand, 1) := by decide +kernel
theorem dX11_moveWord_7 : decode cX11_moveWord 7 = .ok (.istore 4, 2) := by decide +kernel
theorem dX11_moveWord_9 : decode cX11_moveWord 9 = .ok (.iload_n 2, 1) := by decide +kernel
theorem dX11_moveWord_10 : decode cX11_moveWord 10 = .ok (.bipush 15, 2) := by decide +kernel
theorem dX11_moveWord_12 : decode cX11_moveWord 12 = .ok (.ishr, 1) := by decide +kernel
theorem dX11_moveWord_13 : decode cX11_moveWord 13 = .ok (.bipush 31, 2) := by decide +kernel
theorem dX11_moveWord_15 : decode cX11_moveWord 15 = .ok (.iand, 1) := by decide +kernel
theorem dX11_moveWord_16 : decode cX11_moveWord 16 = .ok (.istore 5, 2) := by decide +kernel
theorem dX11_moveWord_18 : decode cX11_moveWord 18 = .ok (.iload_n 3, 1) := by decide +kernel
theorem dX11_moveWord_19 : decode cX11_moveWord 19 = .ok (.ifCond .eq 13, 3) := by decide +kernel
theorem dX11_moveWord_22 : decode cX11_moveWord 22 = .ok (.iload_n 2, 1) := by decide +kernel
theorem dX11_moveWord_23 : decode cX11_moveWord 23 = .ok (.bipush 20, 2) := by decide +kernel
theorem dX11_moveWord_25 : decode cX11_moveWord 25 = .ok (.ishr, 1) := by decide +kernel
theorem dX11_moveWord_26 : decode cX11_moveWord 26 = .ok (.bipush 31, 2) := by decide +kernel
theorem dX11_moveWord_28 : decode cX11_moveWord 28 = .ok (.iand, 1) := by decide +kernel
theorem dX11_moveWord_29 : decode cX11_moveWord 29 = .ok (.goto 10, 3) := by decide +kernel
theorem dX11_moveWord_32 : decode cX11_moveWord 32 = .ok (.iload_n 2, 1) := by decide +kernel
theorem dX11_moveWord_33 : decode cX11_moveWord 33 = .ok (.bipush 7, 2) := by decide +kernel
theorem dX11_moveWord_35 : decode cX11_moveWord 35 = .ok (.ishr, 1) := by decide +kernel
theorem dX11_moveWord_36 : decode cX11_moveWord 36 = .ok (.bipush 31, 2) := by decide +kernel
theorem dX11_moveWord_38 : decode cX11_moveWord 38 = .ok (.iand, 1) := by decide +kernel
theorem dX11_moveWord_39 : decode cX11_moveWord 39 = .ok (.istore 6, 2) := by decide +kernel
theorem dX11_moveWord_41 : decode cX11_moveWord 41 = .ok (.iload_n 3, 1) := by decide +kernel
theorem dX11_moveWord_42 : decode cX11_moveWord 42 = .ok (.ifCond .eq 22, 3) := by decide +kernel
theorem dX11_moveWord_45 : decode cX11_moveWord 45 = .ok (.iload 4, 2) := by decide +kernel
theorem dX11_moveWord_47 : decode cX11_moveWord 47 = .ok (.iconst 2, 1) := by decide +kernel
theorem dX11_moveWord_48 : decode cX11_moveWord 48 = .ok (.if_icmp .eq 8, 3) := by decide +kernel
theorem dX11_moveWord_51 : decode cX11_moveWord 51 = .ok (.iload 4, 2) := by decide +kernel
theorem dX11_moveWord_53 : decode cX11_moveWord 53 = .ok (.ifCond .ne 7, 3) := by decide +kernel
theorem dX11_moveWord_56 : decode cX11_moveWord 56 = .ok (.iconst 1, 1) := by decide +kernel
theorem dX11_moveWord_57 : decode cX11_moveWord 57 = .ok (.goto 29, 3) := by decide +kernel
theorem dX11_moveWord_60 : decode cX11_moveWord 60 = .ok (.iconst 0, 1) := by decide +kernel
theorem dX11_moveWord_61 : decode cX11_moveWord 61 = .ok (.goto 25, 3) := by decide +kernel
theorem dX11_moveWord_64 : decode cX11_moveWord 64 = .ok (.iload 4, 2) := by decide +kernel
theorem dX11_moveWord_66 : decode cX11_moveWord 66 = .ok (.iconst 2, 1) := by decide +kernel
theorem dX11_moveWord_67 : decode cX11_moveWord 67 = .ok (.if_icmp .eq 14, 3) := by decide +kernel
theorem dX11_moveWord_70 : decode cX11_moveWord 70 = .ok (.iload 4, 2) := by decide +kernel
theorem dX11_moveWord_72 : decode cX11_moveWord 72 = .ok (.ifCond .eq 9, 3) := by decide +kernel
theorem dX11_moveWord_75 : decode cX11_moveWord 75 = .ok (.iload 4, 2) := by decide +kernel
theorem dX11_moveWord_77 : decode cX11_moveWord 77 = .ok (.iconst 4, 1) := by decide +kernel
theorem dX11_moveWord_78 : decode cX11_moveWord 78 = .ok (.if_icmp .ne 7, 3) := by decide +kernel
theorem dX11_moveWord_81 : decode cX11_moveWord 81 = .ok (.iconst 1, 1) := by decide +kernel
theorem dX11_moveWord_82 : decode cX11_moveWord 82 = .ok (.goto 4, 3) := by decide +kernel
theorem dX11_moveWord_85 : decode cX11_moveWord 85 = .ok (.iconst 0, 1) := by decide +kernel
theorem dX11_moveWord_86 : decode cX11_moveWord 86 = .ok (.istore 7, 2) := by decide +kernel
theorem dX11_moveWord_88 : decode cX11_moveWord 88 = .ok (.iload 7, 2) := by decide +kernel
theorem dX11_moveWord_90 : decode cX11_moveWord 90 = .ok (.ifCond .eq 17, 3) := by decide +kernel
theorem dX11_moveWord_93 : decode cX11_moveWord 93 = .ok (.iload 5, 2) := by decide +kernel
theorem dX11_moveWord_95 : decode cX11_moveWord 95 = .ok (.bipush 15, 2) := by decide +kernel
theorem dX11_moveWord_97 : decode cX11_moveWord 97 = .ok (.if_icmp .gt 10, 3) := by decide +kernel
theorem dX11_moveWord_100 : decode cX11_moveWord 100 = .ok (.iload 6, 2) := by decide +kernel
theorem dX11_moveWord_102 : decode cX11_moveWord 102 = .ok (.bipush 15, 2) := by decide +kernel
theorem dX11_moveWord_104 : decode cX11_moveWord 104 = .ok (.if_icmp .le 9, 3) := by decide +kernel
theorem dX11_moveWord_107 : decode cX11_moveWord 107 = .ok (.aload_n 0, 1) := by decide +kernel
theorem dX11_moveWord_108 : decode cX11_moveWord 108 = .ok (.iload_n 1, 1) := by decide +kernel
theorem dX11_moveWord_109 : decode cX11_moveWord 109 = .ok (.invokevirtual 299, 3) := by decide +kernel
theorem dX11_moveWord_112 : decode cX11_moveWord 112 = .ok (.ireturn, 1) := by decide +kernel
theorem dX11_moveWord_113 : decode cX11_moveWord 113 = .ok (.iload_n 3, 1) := by decide +kernel
theorem dX11_moveWord_114 : decode cX11_moveWord 114 = .ok (.ifCond .eq 20, 3) := by decide +kernel
theorem dX11_moveWord_117 : decode cX11_moveWord 117 = .ok (.iload_n 2, 1) := by decide +kernel
theorem dX11_moveWord_118 : decode cX11_moveWord 118 = .ok (.bipush 25, 2) := by decide +kernel
theorem dX11_moveWord_120 : decode cX11_moveWord 120 = .ok (.ishr, 1) := by decide +kernel
theorem dX11_moveWord_121 : decode cX11_moveWord 121 = .ok (.iconst 5, 1) := by decide +kernel
theorem dX11_moveWord_122 : decode cX11_moveWord 122 = .ok (.ishl, 1) := by decide +kernel
theorem dX11_moveWord_123 : decode cX11_moveWord 123 = .ok (.iload_n 2, 1) := by decide +kernel
theorem dX11_moveWord_124 : decode cX11_moveWord 124 = .ok (.bipush 7, 2) := by decide +kernel
theorem dX11_moveWord_126 : decode cX11_moveWord 126 = .ok (.ishr, 1) := by decide +kernel
theorem dX11_moveWord_127 : decode cX11_moveWord 127 = .ok (.bipush 31, 2) := by decide +kernel
theorem dX11_moveWord_129 : decode cX11_moveWord 129 = .ok (.iand, 1) := by decide +kernel
theorem dX11_moveWord_130 : decode cX11_moveWord 130 = .ok (.ior, 1) := by decide +kernel
theorem dX11_moveWord_131 : decode cX11_moveWord 131 = .ok (.goto 7, 3) := by decide +kernel
theorem dX11_moveWord_134 : decode cX11_moveWord 134 = .ok (.iload_n 2, 1) := by decide +kernel
theorem dX11_moveWord_135 : decode cX11_moveWord 135 = .ok (.bipush 20, 2) := by decide +kernel
theorem dX11_moveWord_137 : decode cX11_moveWord 137 = .ok (.ishr, 1) := by decide +kernel
theorem dX11_moveWord_138 : decode cX11_moveWord 138 = .ok (.istore 8, 2) := by decide +kernel
theorem dX11_moveWord_140 : decode cX11_moveWord 140 = .ok (.aload_n 0, 1) := by decide +kernel
theorem dX11_moveWord_141 : decode cX11_moveWord 141 = .ok (.getfield 45, 3) := by decide +kernel
theorem dX11_moveWord_144 : decode cX11_moveWord 144 = .ok (.bipush 16, 2) := by decide +kernel
theorem dX11_moveWord_146 : decode cX11_moveWord 146 = .ok (.iload_n 1, 1) := by decide +kernel
theorem dX11_moveWord_147 : decode cX11_moveWord 147 = .ok (.imul, 1) := by decide +kernel
theorem dX11_moveWord_148 : decode cX11_moveWord 148 = .ok (.iload 5, 2) := by decide +kernel
theorem dX11_moveWord_150 : decode cX11_moveWord 150 = .ok (.iadd, 1) := by decide +kernel
theorem dX11_moveWord_151 : decode cX11_moveWord 151 = .ok (.iaload, 1) := by decide +kernel
theorem dX11_moveWord_152 : decode cX11_moveWord 152 = .ok (.iload 8, 2) := by decide +kernel
theorem dX11_moveWord_154 : decode cX11_moveWord 154 = .ok (.iadd, 1) := by decide +kernel
theorem dX11_moveWord_155 : decode cX11_moveWord 155 = .ok (.istore 9, 2) := by decide +kernel
theorem dX11_moveWord_157 : decode cX11_moveWord 157 = .ok (.aload_n 0, 1) := by decide +kernel
theorem dX11_moveWord_158 : decode cX11_moveWord 158 = .ok (.iload_n 1, 1) := by decide +kernel
theorem dX11_moveWord_159 : decode cX11_moveWord 159 = .ok (.iload 9, 2) := by decide +kernel
theorem dX11_moveWord_161 : decode cX11_moveWord 161 = .ok (.iload 4, 2) := by decide +kernel
theorem dX11_moveWord_163 : decode cX11_moveWord 163 = .ok (.iconst 2, 1) := by decide +kernel
theorem dX11_moveWord_164 : decode cX11_moveWord 164 = .ok (.if_icmp .ne 7, 3) := by decide +kernel
theorem dX11_moveWord_167 : decode cX11_moveWord 167 = .ok (.iconst 4, 1) := by decide +kernel
theorem dX11_moveWord_168 : decode cX11_moveWord 168 = .ok (.goto 4, 3) := by decide +kernel
theorem dX11_moveWord_171 : decode cX11_moveWord 171 = .ok (.iconst 1, 1) := by decide +kernel
theorem dX11_moveWord_172 : decode cX11_moveWord 172 = .ok (.invokevirtual 302, 3) := by decide +kernel
theorem dX11_moveWord_175 : decode cX11_moveWord 175 = .ok (.ifCond .ne 9, 3) := by decide +kernel
theorem dX11_moveWord_178 : decode cX11_moveWord 178 = .ok (.aload_n 0, 1) := by decide +kernel
theorem dX11_moveWord_179 : decode cX11_moveWord 179 = .ok (.iload_n 1, 1) := by decide +kernel
theorem dX11_moveWord_180 : decode cX11_moveWord 180 = .ok (.invokevirtual 299, 3) := by decide +kernel
theorem dX11_moveWord_183 : decode cX11_moveWord 183 = .ok (.ireturn, 1) := by decide +kernel
theorem dX11_moveWord_184 : decode cX11_moveWord 184 = .ok (.bipush 8, 2) := by decide +kernel
theorem dX11_moveWord_186 : decode cX11_moveWord 186 = .ok (.iload 9, 2) := by decide +kernel
theorem dX11_moveWord_188 : decode cX11_moveWord 188 = .ok (.iconst 3, 1) := by decide +kernel
theorem dX11_moveWord_189 : decode cX11_moveWord 189 = .ok (.iand, 1) := by decide +kernel
theorem dX11_moveWord_190 : decode cX11_moveWord 190 = .ok (.imul, 1) := by decide +kernel
theorem dX11_moveWord_191 : decode cX11_moveWord 191 = .ok (.istore 10, 2) := by decide +kernel
theorem dX11_moveWord_193 : decode cX11_moveWord 193 = .ok (.aload_n 0, 1) := by decide +kernel
theorem dX11_moveWord_194 : decode cX11_moveWord 194 = .ok (.iload_n 1, 1) := by decide +kernel
theorem dX11_moveWord_195 : decode cX11_moveWord 195 = .ok (.iload 9, 2) := by decide +kernel
theorem dX11_moveWord_197 : decode cX11_moveWord 197 = .ok (.invokevirtual 306, 3) := by decide +kernel
theorem dX11_moveWord_200 : decode cX11_moveWord 200 = .ok (.istore 11, 2) := by decide +kernel
theorem dX11_moveWord_202 : decode cX11_moveWord 202 = .ok (.aload_n 0, 1) := by decide +kernel
theorem dX11_moveWord_203 : decode cX11_moveWord 203 = .ok (.getfield 45, 3) := by decide +kernel
theorem dX11_moveWord_206 : decode cX11_moveWord 206 = .ok (.bipush 16, 2) := by decide +kernel
theorem dX11_moveWord_208 : decode cX11_moveWord 208 = .ok (.iload_n 1, 1) := by decide +kernel
theorem dX11_moveWord_209 : decode cX11_moveWord 209 = .ok (.imul, 1) := by decide +kernel
theorem dX11_moveWord_210 : decode cX11_moveWord 210 = .ok (.iload 6, 2) := by decide +kernel
theorem dX11_moveWord_212 : decode cX11_moveWord 212 = .ok (.iadd, 1) := by decide +kernel
theorem dX11_moveWord_213 : decode cX11_moveWord 213 = .ok (.iaload, 1) := by decide +kernel
theorem dX11_moveWord_214 : decode cX11_moveWord 214 = .ok (.istore 12, 2) := by decide +kernel
theorem dX11_moveWord_216 : decode cX11_moveWord 216 = .ok (.iload_n 3, 1) := by decide +kernel
theorem dX11_moveWord_217 : decode cX11_moveWord 217 = .ok (.ifCond .eq 45, 3) := by decide +kernel
theorem dX11_moveWord_220 : decode cX11_moveWord 220 = .ok (.aload_n 0, 1) := by decide +kernel
theorem dX11_moveWord_221 : decode cX11_moveWord 221 = .ok (.iload_n 1, 1) := by decide +kernel
theorem dX11_moveWord_222 : decode cX11_moveWord 222 = .ok (.iload 9, 2) := by decide +kernel
theorem dX11_moveWord_224 : decode cX11_moveWord 224 = .ok (.iload 4, 2) := by decide +kernel
theorem dX11_moveWord_226 : decode cX11_moveWord 226 = .ok (.iconst 2, 1) := by decide +kernel
theorem dX11_moveWord_227 : decode cX11_moveWord 227 = .ok (.if_icmp .ne 8, 3) := by decide +kernel
theorem dX11_moveWord_230 : decode cX11_moveWord 230 = .ok (.iload 12, 2) := by decide +kernel
theorem dX11_moveWord_232 : decode cX11_moveWord 232 = .ok (.goto 24, 3) := by decide +kernel
theorem dX11_moveWord_235 : decode cX11_moveWord 235 = .ok (.iload 11, 2) := by decide +kernel
theorem dX11_moveWord_237 : decode cX11_moveWord 237 = .ok (.sipush 255, 3) := by decide +kernel
theorem dX11_moveWord_240 : decode cX11_moveWord 240 = .ok (.iload 10, 2) := by decide +kernel
theorem dX11_moveWord_242 : decode cX11_moveWord 242 = .ok (.ishl, 1) := by decide +kernel
theorem dX11_moveWord_243 : decode cX11_moveWord 243 = .ok (.iconst (-1), 1) := by decide +kernel
theorem dX11_moveWord_244 : decode cX11_moveWord 244 = .ok (.ixor, 1) := by decide +kernel
theorem dX11_moveWord_245 : decode cX11_moveWord 245 = .ok (.iand, 1) := by decide +kernel
theorem dX11_moveWord_246 : decode cX11_moveWord 246 = .ok (.iload 12, 2) := by decide +kernel
theorem dX11_moveWord_248 : decode cX11_moveWord 248 = .ok (.sipush 255, 3) := by decide +kernel
theorem dX11_moveWord_251 : decode cX11_moveWord 251 = .ok (.iand, 1) := by decide +kernel
theorem dX11_moveWord_252 : decode cX11_moveWord 252 = .ok (.iload 10, 2) := by decide +kernel
theorem dX11_moveWord_254 : decode cX11_moveWord 254 = .ok (.ishl, 1) := by decide +kernel
theorem dX11_moveWord_255 : decode cX11_moveWord 255 = .ok (.ior, 1) := by decide +kernel
theorem dX11_moveWord_256 : decode cX11_moveWord 256 = .ok (.invokevirtual 309, 3) := by decide +kernel
theorem dX11_moveWord_259 : decode cX11_moveWord 259 = .ok (.goto 50, 3) := by decide +kernel
theorem dX11_moveWord_262 : decode cX11_moveWord 262 = .ok (.aload_n 0, 1) := by decide +kernel
theorem dX11_moveWord_263 : decode cX11_moveWord 263 = .ok (.iload_n 1, 1) := by decide +kernel
theorem dX11_moveWord_264 : decode cX11_moveWord 264 = .ok (.iload 6, 2) := by decide +kernel
theorem dX11_moveWord_266 : decode cX11_moveWord 266 = .ok (.iload 4, 2) := by decide +kernel
theorem dX11_moveWord_268 : decode cX11_moveWord 268 = .ok (.iconst 2, 1) := by decide +kernel
theorem dX11_moveWord_269 : decode cX11_moveWord 269 = .ok (.if_icmp .ne 8, 3) := by decide +kernel
theorem dX11_moveWord_272 : decode cX11_moveWord 272 = .ok (.iload 11, 2) := by decide +kernel
theorem dX11_moveWord_274 : decode cX11_moveWord 274 = .ok (.goto 32, 3) := by decide +kernel
theorem dX11_moveWord_277 : decode cX11_moveWord 277 = .ok (.iload 4, 2) := by decide +kernel
theorem dX11_moveWord_279 : decode cX11_moveWord 279 = .ok (.iconst 4, 1) := by decide +kernel
theorem dX11_moveWord_280 : decode cX11_moveWord 280 = .ok (.if_icmp .ne 15, 3) := by decide +kernel
theorem dX11_moveWord_283 : decode cX11_moveWord 283 = .ok (.iload 11, 2) := by decide +kernel
theorem dX11_moveWord_285 : decode cX11_moveWord 285 = .ok (.iload 10, 2) := by decide +kernel
theorem dX11_moveWord_287 : decode cX11_moveWord 287 = .ok (.ishr, 1) := by decide +kernel
theorem dX11_moveWord_288 : decode cX11_moveWord 288 = .ok (.sipush 255, 3) := by decide +kernel
theorem dX11_moveWord_291 : decode cX11_moveWord 291 = .ok (.iand, 1) := by decide +kernel
theorem dX11_moveWord_292 : decode cX11_moveWord 292 = .ok (.goto 14, 3) := by decide +kernel
theorem dX11_moveWord_295 : decode cX11_moveWord 295 = .ok (.iload 11, 2) := by decide +kernel
theorem dX11_moveWord_297 : decode cX11_moveWord 297 = .ok (.bipush 24, 2) := by decide +kernel
theorem dX11_moveWord_299 : decode cX11_moveWord 299 = .ok (.iload 10, 2) := by decide +kernel
theorem dX11_moveWord_301 : decode cX11_moveWord 301 = .ok (.isub, 1) := by decide +kernel
theorem dX11_moveWord_302 : decode cX11_moveWord 302 = .ok (.ishl, 1) := by decide +kernel
theorem dX11_moveWord_303 : decode cX11_moveWord 303 = .ok (.bipush 24, 2) := by decide +kernel
theorem dX11_moveWord_305 : decode cX11_moveWord 305 = .ok (.ishr, 1) := by decide +kernel
theorem dX11_moveWord_306 : decode cX11_moveWord 306 = .ok (.invokevirtual 313, 3) := by decide +kernel
theorem dX11_moveWord_309 : decode cX11_moveWord 309 = .ok (.aload_n 0, 1) := by decide +kernel
theorem dX11_moveWord_310 : decode cX11_moveWord 310 = .ok (.iload_n 1, 1) := by decide +kernel
theorem dX11_moveWord_311 : decode cX11_moveWord 311 = .ok (.aload_n 0, 1) := by decide +kernel
theorem dX11_moveWord_312 : decode cX11_moveWord 312 = .ok (.getfield 48, 3) := by decide +kernel
theorem dX11_moveWord_315 : decode cX11_moveWord 315 = .ok (.iload_n 1, 1) := by decide +kernel
theorem dX11_moveWord_316 : decode cX11_moveWord 316 = .ok (.iaload, 1) := by decide +kernel
theorem dX11_moveWord_317 : decode cX11_moveWord 317 = .ok (.iconst 4, 1) := by decide +kernel
theorem dX11_moveWord_318 : decode cX11_moveWord 318 = .ok (.iadd, 1) := by decide +kernel
theorem dX11_moveWord_319 : decode cX11_moveWord 319 = .ok (.iload 9, 2) := by decide +kernel
theorem dX11_moveWord_321 : decode cX11_moveWord 321 = .ok (.invokestatic 288, 3) := by decide +kernel
theorem dX11_moveWord_324 : decode cX11_moveWord 324 = .ok (.ifCond .eq 12, 3) := by decide +kernel
theorem dX11_moveWord_327 : decode cX11_moveWord 327 = .ok (.aload_n 0, 1) := by decide +kernel
theorem dX11_moveWord_328 : decode cX11_moveWord 328 = .ok (.getfield 291, 3) := by decide +kernel
theorem dX11_moveWord_331 : decode cX11_moveWord 331 = .ok (.iconst 4, 1) := by decide +kernel
theorem dX11_moveWord_332 : decode cX11_moveWord 332 = .ok (.iadd, 1) := by decide +kernel
theorem dX11_moveWord_333 : decode cX11_moveWord 333 = .ok (.goto 13, 3) := by decide +kernel
theorem dX11_moveWord_336 : decode cX11_moveWord 336 = .ok (.aload_n 0, 1) := by decide +kernel
theorem dX11_moveWord_337 : decode cX11_moveWord 337 = .ok (.iload_n 1, 1) := by decide +kernel
theorem dX11_moveWord_338 : decode cX11_moveWord 338 = .ok (.invokevirtual 316, 3) := by decide +kernel
theorem dX11_moveWord_341 : decode cX11_moveWord 341 = .ok (.aload_n 0, 1) := by decide +kernel
theorem dX11_moveWord_342 : decode cX11_moveWord 342 = .ok (.getfield 66, 3) := by decide +kernel
theorem dX11_moveWord_345 : decode cX11_moveWord 345 = .ok (.iadd, 1) := by decide +kernel
theorem dX11_moveWord_346 : decode cX11_moveWord 346 = .ok (.invokevirtual 319, 3) := by decide +kernel
theorem dX11_moveWord_349 : decode cX11_moveWord 349 = .ok (.ireturn, 1) := by decide +kernel
theorem dX11_calculate_0 : decode cX11_calculate 0 = .ok (.iload_n 2, 1) := by decide +kernel
theorem dX11_calculate_1 : decode cX11_calculate 1 = .ok (.bipush 12, 2) := by decide +kernel
theorem dX11_calculate_3 : decode cX11_calculate 3 = .ok (.ishr, 1) := by decide +kernel
theorem dX11_calculate_4 : decode cX11_calculate 4 = .ok (.bipush 7, 2) := by decide +kernel
theorem dX11_calculate_6 : decode cX11_calculate 6 = .ok (.iand, 1) := by decide +kernel
theorem dX11_calculate_7 : decode cX11_calculate 7 = .ok (.istore 4, 2) := by decide +kernel
theorem dX11_calculate_9 : decode cX11_calculate 9 = .ok (.iload_n 2, 1) := by decide +kernel
theorem dX11_calculate_10 : decode cX11_calculate 10 = .ok (.bipush 7, 2) := by decide +kernel
theorem dX11_calculate_12 : decode cX11_calculate 12 = .ok (.ishr, 1) := by decide +kernel
theorem dX11_calculate_13 : decode cX11_calculate 13 = .ok (.bipush 31, 2) := by decide +kernel
theorem dX11_calculate_15 : decode cX11_calculate 15 = .ok (.iand, 1) := by decide +kernel
theorem dX11_calculate_16 : decode cX11_calculate 16 = .ok (.istore 5, 2) := by decide +kernel
theorem dX11_calculate_18 : decode cX11_calculate 18 = .ok (.iload_n 2, 1) := by decide +kernel
theorem dX11_calculate_19 : decode cX11_calculate 19 = .ok (.bipush 15, 2) := by decide +kernel
theorem dX11_calculate_21 : decode cX11_calculate 21 = .ok (.ishr, 1) := by decide +kernel
theorem dX11_calculate_22 : decode cX11_calculate 22 = .ok (.bipush 31, 2) := by decide +kernel
theorem dX11_calculate_24 : decode cX11_calculate 24 = .ok (.iand, 1) := by decide +kernel
theorem dX11_calculate_25 : decode cX11_calculate 25 = .ok (.istore 6, 2) := by decide +kernel
theorem dX11_calculate_27 : decode cX11_calculate 27 = .ok (.iload_n 2, 1) := by decide +kernel
theorem dX11_calculate_28 : decode cX11_calculate 28 = .ok (.bipush 20, 2) := by decide +kernel
theorem dX11_calculate_30 : decode cX11_calculate 30 = .ok (.ishr, 1) := by decide +kernel
theorem dX11_calculate_31 : decode cX11_calculate 31 = .ok (.bipush 31, 2) := by decide +kernel
theorem dX11_calculate_33 : decode cX11_calculate 33 = .ok (.iand, 1) := by decide +kernel
theorem dX11_calculate_34 : decode cX11_calculate 34 = .ok (.istore 7, 2) := by decide +kernel
theorem dX11_calculate_36 : decode cX11_calculate 36 = .ok (.iload_n 2, 1) := by decide +kernel
theorem dX11_calculate_37 : decode cX11_calculate 37 = .ok (.bipush 25, 2) := by decide +kernel
theorem dX11_calculate_39 : decode cX11_calculate 39 = .ok (.iushr, 1) := by decide +kernel
theorem dX11_calculate_40 : decode cX11_calculate 40 = .ok (.istore 8, 2) := by decide +kernel
theorem dX11_calculate_42 : decode cX11_calculate 42 = .ok (.iload 4, 2) := by decide +kernel
theorem dX11_calculate_44 : decode cX11_calculate 44 = .ok (.iconst 1, 1) := by decide +kernel
theorem dX11_calculate_45 : decode cX11_calculate 45 = .ok (.if_icmp .eq 9, 3) := by decide +kernel
theorem dX11_calculate_48 : decode cX11_calculate 48 = .ok (.iload 4, 2) := by decide +kernel
theorem dX11_calculate_50 : decode cX11_calculate 50 = .ok (.iconst 5, 1) := by decide +kernel
theorem dX11_calculate_51 : decode cX11_calculate 51 = .ok (.if_icmp .ne 7, 3) := by decide +kernel
theorem dX11_calculate_54 : decode cX11_calculate 54 = .ok (.iconst 1, 1) := by decide +kernel
theorem dX11_calculate_55 : decode cX11_calculate 55 = .ok (.goto 4, 3) := by decide +kernel
theorem dX11_calculate_58 : decode cX11_calculate 58 = .ok (.iconst 0, 1) := by decide +kernel
theorem dX11_calculate_59 : decode cX11_calculate 59 = .ok (.istore 9, 2) := by decide +kernel
theorem dX11_calculate_61 : decode cX11_calculate 61 = .ok (.iload 8, 2) := by decide +kernel
theorem dX11_calculate_63 : decode cX11_calculate 63 = .ok (.bipush 32, 2) := by decide +kernel
theorem dX11_calculate_65 : decode cX11_calculate 65 = .ok (.if_icmp .ne 22, 3) := by decide +kernel
theorem dX11_calculate_68 : decode cX11_calculate 68 = .ok (.iload 4, 2) := by decide +kernel
theorem dX11_calculate_70 : decode cX11_calculate 70 = .ok (.iconst 5, 1) := by decide +kernel
theorem dX11_calculate_71 : decode cX11_calculate 71 = .ok (.if_icmp .eq 12, 3) := by decide +kernel
theorem dX11_calculate_74 : decode cX11_calculate 74 = .ok (.iload_n 3, 1) := by decide +kernel
theorem dX11_calculate_75 : decode cX11_calculate 75 = .ok (.ifCond .eq 12, 3) := by decide +kernel
theorem dX11_calculate_78 : decode cX11_calculate 78 = .ok (.iload 4, 2) := by decide +kernel
theorem dX11_calculate_80 : decode cX11_calculate 80 = .ok (.ifCond .ne 7, 3) := by decide +kernel
theorem dX11_calculate_83 : decode cX11_calculate 83 = .ok (.iconst 1, 1) := by decide +kernel
theorem dX11_calculate_84 : decode cX11_calculate 84 = .ok (.goto 4, 3) := by decide +kernel
theorem dX11_calculate_87 : decode cX11_calculate 87 = .ok (.iconst 0, 1) := by decide +kernel
theorem dX11_calculate_88 : decode cX11_calculate 88 = .ok (.istore 10, 2) := by decide +kernel
theorem dX11_calculate_90 : decode cX11_calculate 90 = .ok (.iload_n 3, 1) := by decide +kernel
theorem dX11_calculate_91 : decode cX11_calculate 91 = .ok (.ifCond .ne 8, 3) := by decide +kernel
theorem dX11_calculate_94 : decode cX11_calculate 94 = .ok (.iload 9, 2) := by decide +kernel
theorem dX11_calculate_96 : decode cX11_calculate 96 = .ok (.ifCond .eq 13, 3) := by decide +kernel
theorem dX11_calculate_99 : decode cX11_calculate 99 = .ok (.iload 8, 2) := by decide +kernel
theorem dX11_calculate_101 : decode cX11_calculate 101 = .ok (.ifCond .eq 8, 3) := by decide +kernel
theorem dX11_calculate_104 : decode cX11_calculate 104 = .ok (.iload 10, 2) := by decide +kernel
theorem dX11_calculate_106 : decode cX11_calculate 106 = .ok (.ifCond .eq 7, 3) := by decide +kernel
theorem dX11_calculate_109 : decode cX11_calculate 109 = .ok (.iconst 1, 1) := by decide +kernel
theorem dX11_calculate_110 : decode cX11_calculate 110 = .ok (.goto 4, 3) := by decide +kernel
theorem dX11_calculate_113 : decode cX11_calculate 113 = .ok (.iconst 0, 1) := by decide +kernel
theorem dX11_calculate_114 : decode cX11_calculate 114 = .ok (.istore 11, 2) := by decide +kernel
theorem dX11_calculate_116 : decode cX11_calculate 116 = .ok (.iload 11, 2) := by decide +kernel
theorem dX11_calculate_118 : decode cX11_calculate 118 = .ok (.ifCond .eq 28, 3) := by decide +kernel
theorem dX11_calculate_121 : decode cX11_calculate 121 = .ok (.iload 5, 2) := by decide +kernel
theorem dX11_calculate_123 : decode cX11_calculate 123 = .ok (.bipush 15, 2) := by decide +kernel
theorem dX11_calculate_125 : decode cX11_calculate 125 = .ok (.if_icmp .gt 21, 3) := by decide +kernel
theorem dX11_calculate_128 : decode cX11_calculate 128 = .ok (.iload 6, 2) := by decide +kernel
theorem dX11_calculate_130 : decode cX11_calculate 130 = .ok (.bipush 15, 2) := by decide +kernel
theorem dX11_calculate_132 : decode cX11_calculate 132 = .ok (.if_icmp .gt 14, 3) := by decide +kernel
theorem dX11_calculate_135 : decode cX11_calculate 135 = .ok (.iload_n 3, 1) := by decide +kernel
theorem dX11_calculate_136 : decode cX11_calculate 136 = .ok (.ifCond .eq 16, 3) := by decide +kernel
theorem dX11_calculate_139 : decode cX11_calculate 139 = .ok (.iload 7, 2) := by decide +kernel
theorem dX11_calculate_141 : decode cX11_calculate 141 = .ok (.bipush 15, 2) := by decide +kernel
theorem dX11_calculate_143 : decode cX11_calculate 143 = .ok (.if_icmp .le 9, 3) := by decide +kernel
theorem dX11_calculate_146 : decode cX11_calculate 146 = .ok (.aload_n 0, 1) := by decide +kernel
theorem dX11_calculate_147 : decode cX11_calculate 147 = .ok (.iload_n 1, 1) := by decide +kernel
theorem dX11_calculate_148 : decode cX11_calculate 148 = .ok (.invokevirtual 299, 3) := by decide +kernel
theorem dX11_calculate_151 : decode cX11_calculate 151 = .ok (.ireturn, 1) := by decide +kernel
theorem dX11_calculate_152 : decode cX11_calculate 152 = .ok (.iload_n 3, 1) := by decide +kernel
theorem dX11_calculate_153 : decode cX11_calculate 153 = .ok (.ifCond .eq 18, 3) := by decide +kernel
theorem dX11_calculate_156 : decode cX11_calculate 156 = .ok (.aload_n 0, 1) := by decide +kernel
theorem dX11_calculate_157 : decode cX11_calculate 157 = .ok (.getfield 45, 3) := by decide +kernel
theorem dX11_calculate_160 : decode cX11_calculate 160 = .ok (.bipush 16, 2) := by decide +kernel
theorem dX11_calculate_162 : decode cX11_calculate 162 = .ok (.iload_n 1, 1) := by decide +kernel
theorem dX11_calculate_163 : decode cX11_calculate 163 = .ok (.imul, 1) := by decide +kernel
theorem dX11_calculate_164 : decode cX11_calculate 164 = .ok (.iload 7, 2) := by decide +kernel
theorem dX11_calculate_166 : decode cX11_calculate 166 = .ok (.iadd, 1) := by decide +kernel
theorem dX11_calculate_167 : decode cX11_calculate 167 = .ok (.iaload, 1) := by decide +kernel
theorem dX11_calculate_168 : decode cX11_calculate 168 = .ok (.goto 17, 3) := by decide +kernel
theorem dX11_calculate_171 : decode cX11_calculate 171 = .ok (.iload 9, 2) := by decide +kernel
theorem dX11_calculate_173 : decode cX11_calculate 173 = .ok (.ifCond .eq 8, 3) := by decide +kernel
theorem dX11_calculate_176 : decode cX11_calculate 176 = .ok (.iload 7, 2) := by decide +kernel
theorem dX11_calculate_178 : decode cX11_calculate 178 = .ok (.goto 7, 3) := by decide +kernel
theorem dX11_calculate_181 : decode cX11_calculate 181 = .ok (.iload_n 2, 1) := by decide +kernel
theorem dX11_calculate_182 : decode cX11_calculate 182 = .ok (.bipush 20, 2) := by decide +kernel
theorem dX11_calculate_184 : decode cX11_calculate 184 = .ok (.ishr, 1) := by decide +kernel
theorem dX11_calculate_185 : decode cX11_calculate 185 = .ok (.istore 12, 2) := by decide +kernel
theorem dX11_calculate_187 : decode cX11_calculate 187 = .ok (.aload_n 0, 1) := by decide +kernel
theorem dX11_calculate_188 : decode cX11_calculate 188 = .ok (.iload_n 1, 1) := by decide +kernel
theorem dX11_calculate_189 : decode cX11_calculate 189 = .ok (.iload 5, 2) := by decide +kernel
theorem dX11_calculate_191 : decode cX11_calculate 191 = .ok (.iload 4, 2) := by decide +kernel
theorem dX11_calculate_193 : decode cX11_calculate 193 = .ok (.iload 10, 2) := by decide +kernel
theorem dX11_calculate_195 : decode cX11_calculate 195 = .ok (.aload_n 0, 1) := by decide +kernel
theorem dX11_calculate_196 : decode cX11_calculate 196 = .ok (.getfield 45, 3) := by decide +kernel
theorem dX11_calculate_199 : decode cX11_calculate 199 = .ok (.bipush 16, 2) := by decide +kernel
theorem dX11_calculate_201 : decode cX11_calculate 201 = .ok (.iload_n 1, 1) := by decide +kernel
theorem dX11_calculate_202 : decode cX11_calculate 202 = .ok (.imul, 1) := by decide +kernel
theorem dX11_calculate_203 : decode cX11_calculate 203 = .ok (.iload 6, 2) := by decide +kernel
theorem dX11_calculate_205 : decode cX11_calculate 205 = .ok (.iadd, 1) := by decide +kernel
theorem dX11_calculate_206 : decode cX11_calculate 206 = .ok (.iaload, 1) := by decide +kernel
theorem dX11_calculate_207 : decode cX11_calculate 207 = .ok (.iload 12, 2) := by decide +kernel
theorem dX11_calculate_209 : decode cX11_calculate 209 = .ok (.invokestatic 323, 3) := by decide +kernel
theorem dX11_calculate_212 : decode cX11_calculate 212 = .ok (.invokevirtual 313, 3) := by decide +kernel
theorem dX11_calculate_215 : decode cX11_calculate 215 = .ok (.aload_n 0, 1) := by decide +kernel
theorem dX11_calculate_216 : decode cX11_calculate 216 = .ok (.iload_n 1, 1) := by decide +kernel
theorem dX11_calculate_217 : decode cX11_calculate 217 = .ok (.aload_n 0, 1) := by decide +kernel
theorem dX11_calculate_218 : decode cX11_calculate 218 = .ok (.getfield 48, 3) := by decide +kernel
theorem dX11_calculate_221 : decode cX11_calculate 221 = .ok (.iload_n 1, 1) := by decide +kernel
theorem dX11_calculate_222 : decode cX11_calculate 222 = .ok (.iaload, 1) := by decide +kernel
theorem dX11_calculate_223 : decode cX11_calculate 223 = .ok (.iconst 4, 1) := by decide +kernel
theorem dX11_calculate_224 : decode cX11_calculate 224 = .ok (.iadd, 1) := by decide +kernel
theorem dX11_calculate_225 : decode cX11_calculate 225 = .ok (.aload_n 0, 1) := by decide +kernel
theorem dX11_calculate_226 : decode cX11_calculate 226 = .ok (.getfield 291, 3) := by decide +kernel
theorem dX11_calculate_229 : decode cX11_calculate 229 = .ok (.iconst 4, 1) := by decide +kernel
theorem dX11_calculate_230 : decode cX11_calculate 230 = .ok (.iadd, 1) := by decide +kernel
theorem dX11_calculate_231 : decode cX11_calculate 231 = .ok (.invokevirtual 319, 3) := by decide +kernel
theorem dX11_calculate_234 : decode cX11_calculate 234 = .ok (.ireturn, 1) := by decide +kernel
theorem dX11_jump_0 : decode cX11_jump 0 = .ok (.iload_n 2, 1) := by decide +kernel
theorem dX11_jump_1 : decode cX11_jump 1 = .ok (.bipush 7, 2) := by decide +kernel
theorem dX11_jump_3 : decode cX11_jump 3 = .ok (.ishr, 1) := by decide +kernel
theorem dX11_jump_4 : decode cX11_jump 4 = .ok (.bipush 31, 2) := by decide +kernel
theorem dX11_jump_6 : decode cX11_jump 6 = .ok (.iand, 1) := by decide +kernel
theorem dX11_jump_7 : decode cX11_jump 7 = .ok (.istore 4, 2) := by decide +kernel
theorem dX11_jump_9 : decode cX11_jump 9 = .ok (.iload_n 2, 1) := by decide +kernel
theorem dX11_jump_10 : decode cX11_jump 10 = .ok (.bipush 15, 2) := by decide +kernel
theorem dX11_jump_12 : decode cX11_jump 12 = .ok (.ishr, 1) := by decide +kernel
theorem dX11_jump_13 : decode cX11_jump 13 = .ok (.bipush 31, 2) := by decide +kernel
theorem dX11_jump_15 : decode cX11_jump 15 = .ok (.iand, 1) := by decide +kernel
theorem dX11_jump_16 : decode cX11_jump 16 = .ok (.istore 5, 2) := by decide +kernel
theorem dX11_jump_18 : decode cX11_jump 18 = .ok (.iload 4, 2) := by decide +kernel
theorem dX11_jump_20 : decode cX11_jump 20 = .ok (.bipush 15, 2) := by decide +kernel
theorem dX11_jump_22 : decode cX11_jump 22 = .ok (.if_icmp .gt 24, 3) := by decide +kernel
theorem dX11_jump_25 : decode cX11_jump 25 = .ok (.iload_n 3, 1) := by decide +kernel
theorem dX11_jump_26 : decode cX11_jump 26 = .ok (.ifCond .eq 26, 3) := by decide +kernel
theorem dX11_jump_29 : decode cX11_jump 29 = .ok (.iload 5, 2) := by decide +kernel
theorem dX11_jump_31 : decode cX11_jump 31 = .ok (.bipush 15, 2) := by decide +kernel
theorem dX11_jump_33 : decode cX11_jump 33 = .ok (.if_icmp .gt 13, 3) := by decide +kernel
theorem dX11_jump_36 : decode cX11_jump 36 = .ok (.iload_n 2, 1) := by decide +kernel
theorem dX11_jump_37 : decode cX11_jump 37 = .ok (.bipush 12, 2) := by decide +kernel
theorem dX11_jump_39 : decode cX11_jump 39 = .ok (.ishr, 1) := by decide +kernel
theorem dX11_jump_40 : decode cX11_jump 40 = .ok (.bipush 7, 2) := by decide +kernel
theorem dX11_jump_42 : decode cX11_jump 42 = .ok (.iand, 1) := by decide +kernel
theorem dX11_jump_43 : decode cX11_jump 43 = .ok (.ifCond .eq 9, 3) := by decide +kernel
theorem dX11_jump_46 : decode cX11_jump 46 = .ok (.aload_n 0, 1) := by decide +kernel
theorem dX11_jump_47 : decode cX11_jump 47 = .ok (.iload_n 1, 1) := by decide +kernel
theorem dX11_jump_48 : decode cX11_jump 48 = .ok (.invokevirtual 299, 3) := by decide +kernel
theorem dX11_jump_51 : decode cX11_jump 51 = .ok (.ireturn, 1) := by decide +kernel
theorem dX11_jump_52 : decode cX11_jump 52 = .ok (.iload_n 2, 1) := by decide +kernel
theorem dX11_jump_53 : decode cX11_jump 53 = .ok (.bipush 21, 2) := by decide +kernel
theorem dX11_jump_55 : decode cX11_jump 55 = .ok (.ishr, 1) := by decide +kernel
theorem dX11_jump_56 : decode cX11_jump 56 = .ok (.sipush 1023, 3) := by decide +kernel
theorem dX11_jump_59 : decode cX11_jump 59 = .ok (.iand, 1) := by decide +kernel
theorem dX11_jump_60 : decode cX11_jump 60 = .ok (.iconst 1, 1) := by decide +kernel
theorem dX11_jump_61 : decode cX11_jump 61 = .ok (.ishl, 1) := by decide +kernel
theorem dX11_jump_62 : decode cX11_jump 62 = .ok (.iload_n 2, 1) := by decide +kernel
theorem dX11_jump_63 : decode cX11_jump 63 = .ok (.bipush 20, 2) := by decide +kernel
theorem dX11_jump_65 : decode cX11_jump 65 = .ok (.ishr, 1) := by decide +kernel
theorem dX11_jump_66 : decode cX11_jump 66 = .ok (.iconst 1, 1) := by decide +kernel
theorem dX11_jump_67 : decode cX11_jump 67 = .ok (.iand, 1) := by decide +kernel
theorem dX11_jump_68 : decode cX11_jump 68 = .ok (.bipush 11, 2) := by decide +kernel
theorem dX11_jump_70 : decode cX11_jump 70 = .ok (.ishl, 1) := by decide +kernel
theorem dX11_jump_71 : decode cX11_jump 71 = .ok (.ior, 1) := by decide +kernel
theorem dX11_jump_72 : decode cX11_jump 72 = .ok (.iload_n 2, 1) := by decide +kernel
theorem dX11_jump_73 : decode cX11_jump 73 = .ok (.bipush 12, 2) := by decide +kernel
theorem dX11_jump_75 : decode cX11_jump 75 = .ok (.ishr, 1) := by decide +kernel
theorem dX11_jump_76 : decode cX11_jump 76 = .ok (.sipush 255, 3) := by decide +kernel
theorem dX11_jump_79 : decode cX11_jump 79 = .ok (.iand, 1) := by decide +kernel
theorem dX11_jump_80 : decode cX11_jump 80 = .ok (.bipush 12, 2) := by decide +kernel
theorem dX11_jump_82 : decode cX11_jump 82 = .ok (.ishl, 1) := by decide +kernel
theorem dX11_jump_83 : decode cX11_jump 83 = .ok (.ior, 1) := by decide +kernel
theorem dX11_jump_84 : decode cX11_jump 84 = .ok (.iload_n 2, 1) := by decide +kernel
theorem dX11_jump_85 : decode cX11_jump 85 = .ok (.bipush 31, 2) := by decide +kernel
theorem dX11_jump_87 : decode cX11_jump 87 = .ok (.ishr, 1) := by decide +kernel
theorem dX11_jump_88 : decode cX11_jump 88 = .ok (.bipush 20, 2) := by decide +kernel
theorem dX11_jump_90 : decode cX11_jump 90 = .ok (.ishl, 1) := by decide +kernel
theorem dX11_jump_91 : decode cX11_jump 91 = .ok (.ior, 1) := by decide +kernel
theorem dX11_jump_92 : decode cX11_jump 92 = .ok (.istore 6, 2) := by decide +kernel
theorem dX11_jump_94 : decode cX11_jump 94 = .ok (.iload_n 3, 1) := by decide +kernel
theorem dX11_jump_95 : decode cX11_jump 95 = .ok (.ifCond .eq 26, 3) := by decide +kernel
theorem dX11_jump_98 : decode cX11_jump 98 = .ok (.aload_n 0, 1) := by decide +kernel
theorem dX11_jump_99 : decode cX11_jump 99 = .ok (.getfield 45, 3) := by decide +kernel
theorem dX11_jump_102 : decode cX11_jump 102 = .ok (.bipush 16, 2) := by decide +kernel
theorem dX11_jump_104 : decode cX11_jump 104 = .ok (.iload_n 1, 1) := by decide +kernel
theorem dX11_jump_105 : decode cX11_jump 105 = .ok (.imul, 1) := by decide +kernel
theorem dX11_jump_106 : decode cX11_jump 106 = .ok (.iload 5, 2) := by decide +kernel
theorem dX11_jump_108 : decode cX11_jump 108 = .ok (.iadd, 1) := by decide +kernel
theorem dX11_jump_109 : decode cX11_jump 109 = .ok (.iaload, 1) := by decide +kernel
theorem dX11_jump_110 : decode cX11_jump 110 = .ok (.iload_n 2, 1) := by decide +kernel
theorem dX11_jump_111 : decode cX11_jump 111 = .ok (.bipush 20, 2) := by decide +kernel
theorem dX11_jump_113 : decode cX11_jump 113 = .ok (.ishr, 1) := by decide +kernel
theorem dX11_jump_114 : decode cX11_jump 114 = .ok (.iadd, 1) := by decide +kernel
theorem dX11_jump_115 : decode cX11_jump 115 = .ok (.bipush (-2), 2) := by decide +kernel
theorem dX11_jump_117 : decode cX11_jump 117 = .ok (.iand, 1) := by decide +kernel
theorem dX11_jump_118 : decode cX11_jump 118 = .ok (.goto 12, 3) := by decide +kernel
theorem dX11_jump_121 : decode cX11_jump 121 = .ok (.aload_n 0, 1) := by decide +kernel
theorem dX11_jump_122 : decode cX11_jump 122 = .ok (.getfield 48, 3) := by decide +kernel
theorem dX11_jump_125 : decode cX11_jump 125 = .ok (.iload_n 1, 1) := by decide +kernel
theorem dX11_jump_126 : decode cX11_jump 126 = .ok (.iaload, 1) := by decide +kernel
theorem dX11_jump_127 : decode cX11_jump 127 = .ok (.iload 6, 2) := by decide +kernel
theorem dX11_jump_129 : decode cX11_jump 129 = .ok (.iadd, 1) := by decide +kernel
theorem dX11_jump_130 : decode cX11_jump 130 = .ok (.istore 7, 2) := by decide +kernel
theorem dX11_jump_132 : decode cX11_jump 132 = .ok (.aload_n 0, 1) := by decide +kernel
theorem dX11_jump_133 : decode cX11_jump 133 = .ok (.iload_n 1, 1) := by decide +kernel
theorem dX11_jump_134 : decode cX11_jump 134 = .ok (.iload 4, 2) := by decide +kernel
theorem dX11_jump_136 : decode cX11_jump 136 = .ok (.aload_n 0, 1) := by decide +kernel
theorem dX11_jump_137 : decode cX11_jump 137 = .ok (.getfield 48, 3) := by decide +kernel
theorem dX11_jump_140 : decode cX11_jump 140 = .ok (.iload_n 1, 1) := by decide +kernel
theorem dX11_jump_141 : decode cX11_jump 141 = .ok (.iaload, 1) := by decide +kernel
theorem dX11_jump_142 : decode cX11_jump 142 = .ok (.iconst 4, 1) := by decide +kernel
theorem dX11_jump_143 : decode cX11_jump 143 = .ok (.iadd, 1) := by decide +kernel
theorem dX11_jump_144 : decode cX11_jump 144 = .ok (.invokevirtual 313, 3) := by decide +kernel
theorem dX11_jump_147 : decode cX11_jump 147 = .ok (.aload_n 0, 1) := by decide +kernel
theorem dX11_jump_148 : decode cX11_jump 148 = .ok (.iload_n 1, 1) := by decide +kernel
theorem dX11_jump_149 : decode cX11_jump 149 = .ok (.iload 7, 2) := by decide +kernel
theorem dX11_jump_151 : decode cX11_jump 151 = .ok (.aload_n 0, 1) := by decide +kernel
theorem dX11_jump_152 : decode cX11_jump 152 = .ok (.getfield 291, 3) := by decide +kernel
theorem dX11_jump_155 : decode cX11_jump 155 = .ok (.iconst 4, 1) := by decide +kernel
theorem dX11_jump_156 : decode cX11_jump 156 = .ok (.iadd, 1) := by decide +kernel
theorem dX11_jump_157 : decode cX11_jump 157 = .ok (.invokevirtual 319, 3) := by decide +kernel
theorem dX11_jump_160 : decode cX11_jump 160 = .ok (.ireturn, 1) := by decide +kernel
theorem dX11_branch_0 : decode cX11_branch 0 = .ok (.iload_n 2, 1) := by decide +kernel
theorem dX11_branch_1 : decode cX11_branch 1 = .ok (.bipush 12, 2) := by decide +kernel
theorem dX11_branch_3 : decode cX11_branch 3 = .ok (.ishr, 1) := by decide +kernel
theorem dX11_branch_4 : decode cX11_branch 4 = .ok (.bipush 7, 2) := by decide +kernel
theorem dX11_branch_6 : decode cX11_branch 6 = .ok (.iand, 1) := by decide +kernel
theorem dX11_branch_7 : decode cX11_branch 7 = .ok (.istore_n 3, 1) := by decide +kernel
theorem dX11_branch_8 : decode cX11_branch 8 = .ok (.iload_n 2, 1) := by decide +kernel
theorem dX11_branch_9 : decode cX11_branch 9 = .ok (.bipush 15, 2) := by decide +kernel
theorem dX11_branch_11 : decode cX11_branch 11 = .ok (.ishr, 1) := by decide +kernel
theorem dX11_branch_12 : decode cX11_branch 12 = .ok (.bipush 31, 2) := by decide +kernel
theorem dX11_branch_14 : decode cX11_branch 14 = .ok (.iand, 1) := by decide +kernel
theorem dX11_branch_15 : decode cX11_branch 15 = .ok (.istore 4, 2) := by decide +kernel
theorem dX11_branch_17 : decode cX11_branch 17 = .ok (.iload_n 2, 1) := by decide +kernel
theorem dX11_branch_18 : decode cX11_branch 18 = .ok (.bipush 20, 2) := by decide +kernel
theorem dX11_branch_20 : decode cX11_branch 20 = .ok (.ishr, 1) := by decide +kernel
theorem dX11_branch_21 : decode cX11_branch 21 = .ok (.bipush 31, 2) := by decide +kernel
theorem dX11_branch_23 : decode cX11_branch 23 = .ok (.iand, 1) := by decide +kernel
theorem dX11_branch_24 : decode cX11_branch 24 = .ok (.istore 5, 2) := by decide +kernel
theorem dX11_branch_26 : decode cX11_branch 26 = .ok (.iload_n 3, 1) := by decide +kernel
theorem dX11_branch_27 : decode cX11_branch 27 = .ok (.iconst 2, 1) := by decide +kernel
theorem dX11_branch_28 : decode cX11_branch 28 = .ok (.if_icmp .eq 22, 3) := by decide +kernel
theorem dX11_branch_31 : decode cX11_branch 31 = .ok (.iload_n 3, 1) := by decide +kernel
theorem dX11_branch_32 : decode cX11_branch 32 = .ok (.iconst 3, 1) := by decide +kernel
theorem dX11_branch_33 : decode cX11_branch 33 = .ok (.if_icmp .eq 17, 3) := by decide +kernel
theorem dX11_branch_36 : decode cX11_branch 36 = .ok (.iload 4, 2) := by decide +kernel
theorem dX11_branch_38 : decode cX11_branch 38 = .ok (.bipush 15, 2) := by decide +kernel
theorem dX11_branch_40 : decode cX11_branch 40 = .ok (.if_icmp .gt 10, 3) := by decide +kernel
theorem dX11_branch_43 : decode cX11_branch 43 = .ok (.iload 5, 2) := by decide +kernel
theorem dX11_branch_45 : decode cX11_branch 45 = .ok (.bipush 15, 2) := by decide +kernel
theorem dX11_branch_47 : decode cX11_branch 47 = .ok (.if_icmp .le 9, 3) := by decide +kernel
theorem dX11_branch_50 : decode cX11_branch 50 = .ok (.aload_n 0, 1) := by decide +kernel
theorem dX11_branch_51 : decode cX11_branch 51 = .ok (.iload_n 1, 1) := by decide +kernel
theorem dX11_branch_52 : decode cX11_branch 52 = .ok (.invokevirtual 299, 3) := by decide +kernel
theorem dX11_branch_55 : decode cX11_branch 55 = .ok (.ireturn, 1) := by decide +kernel
theorem dX11_branch_56 : decode cX11_branch 56 = .ok (.iload_n 2, 1) := by decide +kernel
theorem dX11_branch_57 : decode cX11_branch 57 = .ok (.bipush 8, 2) := by decide +kernel
theorem dX11_branch_59 : decode cX11_branch 59 = .ok (.ishr, 1) := by decide +kernel
theorem dX11_branch_60 : decode cX11_branch 60 = .ok (.bipush 15, 2) := by decide +kernel
theorem dX11_branch_62 : decode cX11_branch 62 = .ok (.iand, 1) := by decide +kernel
theorem dX11_branch_63 : decode cX11_branch 63 = .ok (.iconst 1, 1) := by decide +kernel
theorem dX11_branch_64 : decode cX11_branch 64 = .ok (.ishl, 1) := by decide +kernel
theorem dX11_branch_65 : decode cX11_branch 65 = .ok (.iload_n 2, 1) := by decide +kernel
theorem dX11_branch_66 : decode cX11_branch 66 = .ok (.bipush 25, 2) := by decide +kernel
theorem dX11_branch_68 : decode cX11_branch 68 = .ok (.ishr, 1) := by decide +kernel
theorem dX11_branch_69 : decode cX11_branch 69 = .ok (.bipush 63, 2) := by decide +kernel
theorem dX11_branch_71 : decode cX11_branch 71 = .ok (.iand, 1) := by decide +kernel
theorem dX11_branch_72 : decode cX11_branch 72 = .ok (.iconst 5, 1) := by decide +kernel
theorem dX11_branch_73 : decode cX11_branch 73 = .ok (.ishl, 1) := by decide +kernel
theorem dX11_branch_74 : decode cX11_branch 74 = .ok (.ior, 1) := by decide +kernel
theorem dX11_branch_75 : decode cX11_branch 75 = .ok (.iload_n 2, 1) := by decide +kernel
theorem dX11_branch_76 : decode cX11_branch 76 = .ok (.bipush 7, 2) := by decide +kernel
theorem dX11_branch_78 : decode cX11_branch 78 = .ok (.ishr, 1) := by decide +kernel
theorem dX11_branch_79 : decode cX11_branch 79 = .ok (.iconst 1, 1) := by decide +kernel
theorem dX11_branch_80 : decode cX11_branch 80 = .ok (.iand, 1) := by decide +kernel
theorem dX11_branch_81 : decode cX11_branch 81 = .ok (.bipush 11, 2) := by decide +kernel
theorem dX11_branch_83 : decode cX11_branch 83 = .ok (.ishl, 1) := by decide +kernel
theorem dX11_branch_84 : decode cX11_branch 84 = .ok (.ior, 1) := by decide +kernel
theorem dX11_branch_85 : decode cX11_branch 85 = .ok (.iload_n 2, 1) := by decide +kernel
theorem dX11_branch_86 : decode cX11_branch 86 = .ok (.bipush 31, 2) := by decide +kernel
theorem dX11_branch_88 : decode cX11_branch 88 = .ok (.ishr, 1) := by decide +kernel
theorem dX11_branch_89 : decode cX11_branch 89 = .ok (.bipush 12, 2) := by decide +kernel
theorem dX11_branch_91 : decode cX11_branch 91 = .ok (.ishl, 1) := by decide +kernel
theorem dX11_branch_92 : decode cX11_branch 92 = .ok (.ior, 1) := by decide +kernel
theorem dX11_branch_93 : decode cX11_branch 93 = .ok (.istore 6, 2) := by decide +kernel
theorem dX11_branch_95 : decode cX11_branch 95 = .ok (.iload_n 3, 1) := by decide +kernel
theorem dX11_branch_96 : decode cX11_branch 96 = .ok (.aload_n 0, 1) := by decide +kernel
theorem dX11_branch_97 : decode cX11_branch 97 = .ok (.getfield 45, 3) := by decide +kernel
theorem dX11_branch_100 : decode cX11_branch 100 = .ok (.bipush 16, 2) := by decide +kernel
theorem dX11_branch_102 : decode cX11_branch 102 = .ok (.iload_n 1, 1) := by decide +kernel
theorem dX11_branch_103 : decode cX11_branch 103 = .ok (.imul, 1) := by decide +kernel
theorem dX11_branch_104 : decode cX11_branch 104 = .ok (.iload 4, 2) := by decide +kernel
theorem dX11_branch_106 : decode cX11_branch 106 = .ok (.iadd, 1) := by decide +kernel
theorem dX11_branch_107 : decode cX11_branch 107 = .ok (.iaload, 1) := by decide +kernel
theorem dX11_branch_108 : decode cX11_branch 108 = .ok (.aload_n 0, 1) := by decide +kernel
theorem dX11_branch_109 : decode cX11_branch 109 = .ok (.getfield 45, 3) := by decide +kernel
theorem dX11_branch_112 : decode cX11_branch 112 = .ok (.bipush 16, 2) := by decide +kernel
theorem dX11_branch_114 : decode cX11_branch 114 = .ok (.iload_n 1, 1) := by decide +kernel
theorem dX11_branch_115 : decode cX11_branch 115 = .ok (.imul, 1) := by decide +kernel
theorem dX11_branch_116 : decode cX11_branch 116 = .ok (.iload 5, 2) := by decide +kernel
theorem dX11_branch_118 : decode cX11_branch 118 = .ok (.iadd, 1) := by decide +kernel
theorem dX11_branch_119 : decode cX11_branch 119 = .ok (.iaload, 1) := by decide +kernel
theorem dX11_branch_120 : decode cX11_branch 120 = .ok (.invokestatic 327, 3) := by decide +kernel
theorem dX11_branch_123 : decode cX11_branch 123 = .ok (.istore 7, 2) := by decide +kernel
theorem dX11_branch_125 : decode cX11_branch 125 = .ok (.aload_n 0, 1) := by decide +kernel
theorem dX11_branch_126 : decode cX11_branch 126 = .ok (.iload_n 1, 1) := by decide +kernel
theorem dX11_branch_127 : decode cX11_branch 127 = .ok (.aload_n 0, 1) := by decide +kernel
theorem dX11_branch_128 : decode cX11_branch 128 = .ok (.getfield 48, 3) := by decide +kernel
theorem dX11_branch_131 : decode cX11_branch 131 = .ok (.iload_n 1, 1) := by decide +kernel
theorem dX11_branch_132 : decode cX11_branch 132 = .ok (.iaload, 1) := by decide +kernel
theorem dX11_branch_133 : decode cX11_branch 133 = .ok (.iload 7, 2) := by decide +kernel
theorem dX11_branch_135 : decode cX11_branch 135 = .ok (.ifCond .eq 8, 3) := by decide +kernel
theorem dX11_branch_138 : decode cX11_branch 138 = .ok (.iload 6, 2) := by decide +kernel
theorem dX11_branch_140 : decode cX11_branch 140 = .ok (.goto 4, 3) := by decide +kernel
theorem dX11_branch_143 : decode cX11_branch 143 = .ok (.iconst 4, 1) := by decide +kernel
theorem dX11_branch_144 : decode cX11_branch 144 = .ok (.iadd, 1) := by decide +kernel
theorem dX11_branch_145 : decode cX11_branch 145 = .ok (.aload_n 0, 1) := by decide +kernel
theorem dX11_branch_146 : decode cX11_branch 146 = .ok (.getfield 291, 3) := by decide +kernel
theorem dX11_branch_149 : decode cX11_branch 149 = .ok (.iconst 4, 1) := by decide +kernel
theorem dX11_branch_150 : decode cX11_branch 150 = .ok (.iadd, 1) := by decide +kernel
theorem dX11_branch_151 : decode cX11_branch 151 = .ok (.invokevirtual 319, 3) := by decide +kernel
theorem dX11_branch_154 : decode cX11_branch 154 = .ok (.ireturn, 1) := by decide +kernel
theorem dX11_clock_0 : decode cX11_clock 0 = .ok (.iload_n 2, 1) := by decide +kernel
theorem dX11_clock_1 : decode cX11_clock 1 = .ok (.bipush 12, 2) := by decide +kernel
theorem dX11_clock_3 : decode cX11_clock 3 = .ok (.ishr, 1) := by decide +kernel
theorem dX11_clock_4 : decode cX11_clock 4 = .ok (.bipush 7, 2) := by decide +kernel
theorem dX11_clock_6 : decode cX11_clock 6 = .ok (.iand, 1) := by decide +kernel
theorem dX11_clock_7 : decode cX11_clock 7 = .ok (.istore_n 3, 1) := by decide +kernel
theorem dX11_clock_8 : decode cX11_clock 8 = .ok (.iload_n 2, 1) := by decide +kernel
theorem dX11_clock_9 : decode cX11_clock 9 = .ok (.bipush 7, 2) := by decide +kernel
theorem dX11_clock_11 : decode cX11_clock 11 = .ok (.ishr, 1) := by decide +kernel
theorem dX11_clock_12 : decode cX11_clock 12 = .ok (.bipush 31, 2) := by decide +kernel
theorem dX11_clock_14 : decode cX11_clock 14 = .ok (.iand, 1) := by decide +kernel
theorem dX11_clock_15 : decode cX11_clock 15 = .ok (.istore 4, 2) := by decide +kernel
theorem dX11_clock_17 : decode cX11_clock 17 = .ok (.iload_n 2, 1) := by decide +kernel
theorem dX11_clock_18 : decode cX11_clock 18 = .ok (.bipush 15, 2) := by decide +kernel
theorem dX11_clock_20 : decode cX11_clock 20 = .ok (.ishr, 1) := by decide +kernel
theorem dX11_clock_21 : decode cX11_clock 21 = .ok (.bipush 31, 2) := by decide +kernel
theorem dX11_clock_23 : decode cX11_clock 23 = .ok (.iand, 1) := by decide +kernel
theorem dX11_clock_24 : decode cX11_clock 24 = .ok (.istore 5, 2) := by decide +kernel
theorem dX11_clock_26 : decode cX11_clock 26 = .ok (.iload_n 3, 1) := by decide +kernel
theorem dX11_clock_27 : decode cX11_clock 27 = .ok (.iconst 1, 1) := by decide +kernel
theorem dX11_clock_28 : decode cX11_clock 28 = .ok (.if_icmp .gt 27, 3) := by decide +kernel
theorem dX11_clock_31 : decode cX11_clock 31 = .ok (.iload_n 3, 1) := by decide +kernel
theorem dX11_clock_32 : decode cX11_clock 32 = .ok (.ifCond .ne 16, 3) := by decide +kernel
theorem dX11_clock_35 : decode cX11_clock 35 = .ok (.iload 4, 2) := by decide +kernel
theorem dX11_clock_37 : decode cX11_clock 37 = .ok (.iconst 3, 1) := by decide +kernel
theorem dX11_clock_38 : decode cX11_clock 38 = .ok (.if_icmp .gt 17, 3) := by decide +kernel
theorem dX11_clock_41 : decode cX11_clock 41 = .ok (.iload 5, 2) := by decide +kernel
theorem dX11_clock_43 : decode cX11_clock 43 = .ok (.bipush 15, 2) := by decide +kernel
theorem dX11_clock_45 : decode cX11_clock 45 = .ok (.if_icmp .gt 10, 3) := by decide +kernel
theorem dX11_clock_48 : decode cX11_clock 48 = .ok (.iload 4, 2) := by decide +kernel
theorem dX11_clock_50 : decode cX11_clock 50 = .ok (.bipush 15, 2) := by decide +kernel
theorem dX11_clock_52 : decode cX11_clock 52 = .ok (.if_icmp .le 9, 3) := by decide +kernel
theorem dX11_clock_55 : decode cX11_clock 55 = .ok (.aload_n 0, 1) := by decide +kernel
theorem dX11_clock_56 : decode cX11_clock 56 = .ok (.iload_n 1, 1) := by decide +kernel
theorem dX11_clock_57 : decode cX11_clock 57 = .ok (.invokevirtual 299, 3) := by decide +kernel
theorem dX11_clock_60 : decode cX11_clock 60 = .ok (.ireturn, 1) := by decide +kernel
theorem dX11_clock_61 : decode cX11_clock 61 = .ok (.iload_n 3, 1) := by decide +kernel
theorem dX11_clock_62 : decode cX11_clock 62 = .ok (.iconst 1, 1) := by decide +kernel
theorem dX11_clock_63 : decode cX11_clock 63 = .ok (.if_icmp .ne 34, 3) := by decide +kernel
theorem dX11_clock_66 : decode cX11_clock 66 = .ok (.aload_n 0, 1) := by decide +kernel
theorem dX11_clock_67 : decode cX11_clock 67 = .ok (.iload_n 1, 1) := by decide +kernel
theorem dX11_clock_68 : decode cX11_clock 68 = .ok (.iload 4, 2) := by decide +kernel
theorem dX11_clock_70 : decode cX11_clock 70 = .ok (.aload_n 0, 1) := by decide +kernel
theorem dX11_clock_71 : decode cX11_clock 71 = .ok (.getfield 291, 3) := by decide +kernel
theorem dX11_clock_74 : decode cX11_clock 74 = .ok (.invokevirtual 313, 3) := by decide +kernel
theorem dX11_clock_77 : decode cX11_clock 77 = .ok (.aload_n 0, 1) := by decide +kernel
theorem dX11_clock_78 : decode cX11_clock 78 = .ok (.iload_n 1, 1) := by decide +kernel
theorem dX11_clock_79 : decode cX11_clock 79 = .ok (.aload_n 0, 1) := by decide +kernel
theorem dX11_clock_80 : decode cX11_clock 80 = .ok (.getfield 48, 3) := by decide +kernel
theorem dX11_clock_83 : decode cX11_clock 83 = .ok (.iload_n 1, 1) := by decide +kernel
theorem dX11_clock_84 : decode cX11_clock 84 = .ok (.iaload, 1) := by decide +kernel
theorem dX11_clock_85 : decode cX11_clock 85 = .ok (.iconst 4, 1) := by decide +kernel
theorem dX11_clock_86 : decode cX11_clock 86 = .ok (.iadd, 1) := by decide +kernel
theorem dX11_clock_87 : decode cX11_clock 87 = .ok (.aload_n 0, 1) := by decide +kernel
theorem dX11_clock_88 : decode cX11_clock 88 = .ok (.getfield 291, 3) := by decide +kernel
theorem dX11_clock_91 : decode cX11_clock 91 = .ok (.iconst 4, 1) := by decide +kernel
theorem dX11_clock_92 : decode cX11_clock 92 = .ok (.iadd, 1) := by decide +kernel
theorem dX11_clock_93 : decode cX11_clock 93 = .ok (.invokevirtual 319, 3) := by decide +kernel
theorem dX11_clock_96 : decode cX11_clock 96 = .ok (.ireturn, 1) := by decide +kernel
theorem dX11_clock_97 : decode cX11_clock 97 = .ok (.aload_n 0, 1) := by decide +kernel
theorem dX11_clock_98 : decode cX11_clock 98 = .ok (.getfield 291, 3) := by decide +kernel
theorem dX11_clock_101 : decode cX11_clock 101 = .ok (.aload_n 0, 1) := by decide +kernel
theorem dX11_clock_102 : decode cX11_clock 102 = .ok (.getfield 60, 3) := by decide +kernel
theorem dX11_clock_105 : decode cX11_clock 105 = .ok (.iconst 4, 1) := by decide +kernel
theorem dX11_clock_106 : decode cX11_clock 106 = .ok (.iload_n 1, 1) := by decide +kernel
theorem dX11_clock_107 : decode cX11_clock 107 = .ok (.imul, 1) := by decide +kernel
theorem dX11_clock_108 : decode cX11_clock 108 = .ok (.iload 4, 2) := by decide +kernel
theorem dX11_clock_110 : decode cX11_clock 110 = .ok (.iadd, 1) := by decide +kernel
theorem dX11_clock_111 : decode cX11_clock 111 = .ok (.iaload, 1) := by decide +kernel
theorem dX11_clock_112 : decode cX11_clock 112 = .ok (.if_icmp .ge 5, 3) := by decide +kernel
theorem dX11_clock_115 : decode cX11_clock 115 = .ok (.iconst 0, 1) := by decide +kernel
theorem dX11_clock_116 : decode cX11_clock 116 = .ok (.ireturn, 1) := by decide +kernel
theorem dX11_clock_117 : decode cX11_clock 117 = .ok (.aload_n 0, 1) := by decide +kernel
theorem dX11_clock_118 : decode cX11_clock 118 = .ok (.getfield 291, 3) := by decide +kernel
theorem dX11_clock_121 : decode cX11_clock 121 = .ok (.i2l, 1) := by decide +kernel
theorem dX11_clock_122 : decode cX11_clock 122 = .ok (.aload_n 0, 1) := by decide +kernel
theorem dX11_clock_123 : decode cX11_clock 123 = .ok (.getfield 45, 3) := by decide +kernel
theorem dX11_clock_126 : decode cX11_clock 126 = .ok (.bipush 16, 2) := by decide +kernel
theorem dX11_clock_128 : decode cX11_clock 128 = .ok (.iload_n 1, 1) := by decide +kernel
theorem dX11_clock_129 : decode cX11_clock 129 = .ok (.imul, 1) := by decide +kernel
theorem dX11_clock_130 : decode cX11_clock 130 = .ok (.iload 5, 2) := by decide +kernel
theorem dX11_clock_132 : decode cX11_clock 132 = .ok (.iadd, 1) := by decide +kernel
theorem dX11_clock_133 : decode cX11_clock 133 = .ok (.iaload, 1) := by decide +kernel
theorem dX11_clock_134 : decode cX11_clock 134 = .ok (.i2l, 1) := by decide +kernel
theorem dX11_clock_135 : decode cX11_clock 135 = .ok (.ladd, 1) := by decide +kernel
theorem dX11_clock_136 : decode cX11_clock 136 = .ok (.iload_n 2, 1) := by decide +kernel
theorem dX11_clock_137 : decode cX11_clock 137 = .ok (.bipush 20, 2) := by decide +kernel
theorem dX11_clock_139 : decode cX11_clock 139 = .ok (.ishr, 1) := by decide +kernel
theorem dX11_clock_140 : decode cX11_clock 140 = .ok (.i2l, 1) := by decide +kernel
theorem dX11_clock_141 : decode cX11_clock 141 = .ok (.ladd, 1) := by decide +kernel
theorem dX11_clock_142 : decode cX11_clock 142 = .ok (.lstore 6, 2) := by decide +kernel
theorem dX11_clock_144 : decode cX11_clock 144 = .ok (.aload_n 0, 1) := by decide +kernel
theorem dX11_clock_145 : decode cX11_clock 145 = .ok (.getfield 60, 3) := by decide +kernel
theorem dX11_clock_148 : decode cX11_clock 148 = .ok (.iconst 4, 1) := by decide +kernel
theorem dX11_clock_149 : decode cX11_clock 149 = .ok (.iload_n 1, 1) := by decide +kernel
theorem dX11_clock_150 : decode cX11_clock 150 = .ok (.imul, 1) := by decide +kernel
theorem dX11_clock_151 : decode cX11_clock 151 = .ok (.iload 4, 2) := by decide +kernel
theorem dX11_clock_153 : decode cX11_clock 153 = .ok (.iadd, 1) := by decide +kernel
theorem dX11_clock_154 : decode cX11_clock 154 = .ok (.lload 6, 2) := by decide +kernel
theorem dX11_clock_156 : decode cX11_clock 156 = .ok (.aload_n 0, 1) := by decide +kernel
theorem dX11_clock_157 : decode cX11_clock 157 = .ok (.getfield 291, 3) := by decide +kernel
theorem dX11_clock_160 : decode cX11_clock 160 = .ok (.i2l, 1) := by decide +kernel
theorem dX11_clock_161 : decode cX11_clock 161 = .ok (.lcmp, 1) := by decide +kernel
theorem dX11_clock_162 : decode cX11_clock 162 = .ok (.ifCond .ge 10, 3) := by decide +kernel
theorem dX11_clock_165 : decode cX11_clock 165 = .ok (.aload_n 0, 1) := by decide +kernel
theorem dX11_clock_166 : decode cX11_clock 166 = .ok (.getfield 291, 3) := by decide +kernel
theorem dX11_clock_169 : decode cX11_clock 169 = .ok (.goto 21, 3) := by decide +kernel
theorem dX11_clock_172 : decode cX11_clock 172 = .ok (.lload 6, 2) := by decide +kernel
theorem dX11_clock_174 : decode cX11_clock 174 = .ok (.ldc2_w 330, 3) := by decide +kernel
theorem dX11_clock_177 : decode cX11_clock 177 = .ok (.lcmp, 1) := by decide +kernel
theorem dX11_clock_178 : decode cX11_clock 178 = .ok (.ifCond .le 9, 3) := by decide +kernel
theorem dX11_clock_181 : decode cX11_clock 181 = .ok (.ldc_w 332, 3) := by decide +kernel
theorem dX11_clock_184 : decode cX11_clock 184 = .ok (.goto 6, 3) := by decide +kernel
theorem dX11_clock_187 : decode cX11_clock 187 = .ok (.lload 6, 2) := by decide +kernel
theorem dX11_clock_189 : decode cX11_clock 189 = .ok (.l2i, 1) := by decide +kernel
theorem dX11_clock_190 : decode cX11_clock 190 = .ok (.iastore, 1) := by decide +kernel
theorem dX11_clock_191 : decode cX11_clock 191 = .ok (.aload_n 0, 1) := by decide +kernel
theorem dX11_clock_192 : decode cX11_clock 192 = .ok (.iload_n 1, 1) := by decide +kernel
theorem dX11_clock_193 : decode cX11_clock 193 = .ok (.aload_n 0, 1) := by decide +kernel
theorem dX11_clock_194 : decode cX11_clock 194 = .ok (.getfield 48, 3) := by decide +kernel
theorem dX11_clock_197 : decode cX11_clock 197 = .ok (.iload_n 1, 1) := by decide +kernel
theorem dX11_clock_198 : decode cX11_clock 198 = .ok (.iaload, 1) := by decide +kernel
theorem dX11_clock_199 : decode cX11_clock 199 = .ok (.iconst 4, 1) := by decide +kernel
theorem dX11_clock_200 : decode cX11_clock 200 = .ok (.iadd, 1) := by decide +kernel
theorem dX11_clock_201 : decode cX11_clock 201 = .ok (.aload_n 0, 1) := by decide +kernel
theorem dX11_clock_202 : decode cX11_clock 202 = .ok (.getfield 291, 3) := by decide +kernel
theorem dX11_clock_205 : decode cX11_clock 205 = .ok (.iconst 4, 1) := by decide +kernel
theorem dX11_clock_206 : decode cX11_clock 206 = .ok (.iadd, 1) := by decide +kernel
theorem dX11_clock_207 : decode cX11_clock 207 = .ok (.invokevirtual 319, 3) := by decide +kernel
theorem dX11_clock_210 : decode cX11_clock 210 = .ok (.ireturn, 1) := by decide +kernel
theorem dX11_turn_0 : decode cX11_turn 0 = .ok (.aload_n 0, 1) := by decide +kernel
theorem dX11_turn_1 : decode cX11_turn 1 = .ok (.getfield 51, 3) := by decide +kernel
theorem dX11_turn_4 : decode cX11_turn 4 = .ok (.iload_n 1, 1) := by decide +kernel
theorem dX11_turn_5 : decode cX11_turn 5 = .ok (.iaload, 1) := by decide +kernel
theorem dX11_turn_6 : decode cX11_turn 6 = .ok (.iconst 1, 1) := by decide +kernel
theorem dX11_turn_7 : decode cX11_turn 7 = .ok (.if_icmp .ne 16, 3) := by decide +kernel
theorem dX11_turn_10 : decode cX11_turn 10 = .ok (.aload_n 0, 1) := by decide +kernel
theorem dX11_turn_11 : decode cX11_turn 11 = .ok (.getfield 291, 3) := by decide +kernel
theorem dX11_turn_14 : decode cX11_turn 14 = .ok (.aload_n 0, 1) := by decide +kernel
theorem dX11_turn_15 : decode cX11_turn 15 = .ok (.getfield 57, 3) := by decide +kernel
theorem dX11_turn_18 : decode cX11_turn 18 = .ok (.iload_n 1, 1) := by decide +kernel
theorem dX11_turn_19 : decode cX11_turn 19 = .ok (.iaload, 1) := by decide +kernel
theorem dX11_turn_20 : decode cX11_turn 20 = .ok (.if_icmp .ge 5, 3) := by decide +kernel
theorem dX11_turn_23 : decode cX11_turn 23 = .ok (.iconst 0, 1) := by decide +kernel
theorem dX11_turn_24 : decode cX11_turn 24 = .ok (.ireturn, 1) := by decide +kernel
theorem dX11_turn_25 : decode cX11_turn 25 = .ok (.aload_n 0, 1) := by decide +kernel
theorem dX11_turn_26 : decode cX11_turn 26 = .ok (.getfield 48, 3) := by decide +kernel
theorem dX11_turn_29 : decode cX11_turn 29 = .ok (.iload_n 1, 1) := by decide +kernel
theorem dX11_turn_30 : decode cX11_turn 30 = .ok (.iaload, 1) := by decide +kernel
theorem dX11_turn_31 : decode cX11_turn 31 = .ok (.istore_n 2, 1) := by decide +kernel
theorem dX11_turn_32 : decode cX11_turn 32 = .ok (.iload_n 2, 1) := by decide +kernel
theorem dX11_turn_33 : decode cX11_turn 33 = .ok (.iconst 3, 1) := by decide +kernel
theorem dX11_turn_34 : decode cX11_turn 34 = .ok (.iand, 1) := by decide +kernel
theorem dX11_turn_35 : decode cX11_turn 35 = .ok (.ifCond .ne 10, 3) := by decide +kernel
theorem dX11_turn_38 : decode cX11_turn 38 = .ok (.iload_n 2, 1) := by decide +kernel
theorem dX11_turn_39 : decode cX11_turn 39 = .ok (.invokestatic 288, 3) := by decide +kernel
theorem dX11_turn_42 : decode cX11_turn 42 = .ok (.ifCond .ne 9, 3) := by decide +kernel
theorem dX11_turn_45 : decode cX11_turn 45 = .ok (.aload_n 0, 1) := by decide +kernel
theorem dX11_turn_46 : decode cX11_turn 46 = .ok (.iload_n 1, 1) := by decide +kernel
theorem dX11_turn_47 : decode cX11_turn 47 = .ok (.invokevirtual 299, 3) := by decide +kernel
theorem dX11_turn_50 : decode cX11_turn 50 = .ok (.ireturn, 1) := by decide +kernel
theorem dX11_turn_51 : decode cX11_turn 51 = .ok (.aload_n 0, 1) := by decide +kernel
theorem dX11_turn_52 : decode cX11_turn 52 = .ok (.getfield 33, 3) := by decide +kernel
theorem dX11_turn_55 : decode cX11_turn 55 = .ok (.sipush 128, 3) := by decide +kernel
theorem dX11_turn_58 : decode cX11_turn 58 = .ok (.iload_n 1, 1) := by decide +kernel
theorem dX11_turn_59 : decode cX11_turn 59 = .ok (.imul, 1) := by decide +kernel
theorem dX11_turn_60 : decode cX11_turn 60 = .ok (.iload_n 2, 1) := by decide +kernel
theorem dX11_turn_61 : decode cX11_turn 61 = .ok (.iconst 4, 1) := by decide +kernel
theorem dX11_turn_62 : decode cX11_turn 62 = .ok (.idiv, 1) := by decide +kernel
theorem dX11_turn_63 : decode cX11_turn 63 = .ok (.iadd, 1) := by decide +kernel
theorem dX11_turn_64 : decode cX11_turn 64 = .ok (.iaload, 1) := by decide +kernel
theorem dX11_turn_65 : decode cX11_turn 65 = .ok (.istore_n 3, 1) := by decide +kernel
theorem dX11_turn_66 : decode cX11_turn 66 = .ok (.iload_n 3, 1) := by decide +kernel
theorem dX11_turn_67 : decode cX11_turn 67 = .ok (.bipush 127, 2) := by decide +kernel
theorem dX11_turn_69 : decode cX11_turn 69 = .ok (.iand, 1) := by decide +kernel
theorem dX11_turn_70 : decode cX11_turn 70 = .ok (.lookupswitch 196 #[(3, 157), (11, 189), (19, 173), (35, 165), (51, 181), (55, 82), (99, 150), (103, 142), (111, 134)], 82) := by decide +kernel
theorem dX11_turn_152 : decode cX11_turn 152 = .ok (.iload_n 3, 1) := by decide +kernel
theorem dX11_turn_153 : decode cX11_turn 153 = .ok (.bipush 7, 2) := by decide +kernel
theorem dX11_turn_155 : decode cX11_turn 155 = .ok (.ishr, 1) := by decide +kernel
theorem dX11_turn_156 : decode cX11_turn 156 = .ok (.bipush 31, 2) := by decide +kernel
theorem dX11_turn_158 : decode cX11_turn 158 = .ok (.iand, 1) := by decide +kernel
theorem dX11_turn_159 : decode cX11_turn 159 = .ok (.bipush 15, 2) := by decide +kernel
theorem dX11_turn_161 : decode cX11_turn 161 = .ok (.if_icmp .le 9, 3) := by decide +kernel
theorem dX11_turn_164 : decode cX11_turn 164 = .ok (.aload_n 0, 1) := by decide +kernel
theorem dX11_turn_165 : decode cX11_turn 165 = .ok (.iload_n 1, 1) := by decide +kernel
theorem dX11_turn_166 : decode cX11_turn 166 = .ok (.invokevirtual 299, 3) := by decide +kernel
theorem dX11_turn_169 : decode cX11_turn 169 = .ok (.ireturn, 1) := by decide +kernel
theorem dX11_turn_170 : decode cX11_turn 170 = .ok (.aload_n 0, 1) := by decide +kernel
theorem dX11_turn_171 : decode cX11_turn 171 = .ok (.iload_n 1, 1) := by decide +kernel
theorem dX11_turn_172 : decode cX11_turn 172 = .ok (.iload_n 3, 1) := by decide +kernel
theorem dX11_turn_173 : decode cX11_turn 173 = .ok (.bipush 7, 2) := by decide +kernel
theorem dX11_turn_175 : decode cX11_turn 175 = .ok (.ishr, 1) := by decide +kernel
theorem dX11_turn_176 : decode cX11_turn 176 = .ok (.bipush 31, 2) := by decide +kernel
theorem dX11_turn_178 : decode cX11_turn 178 = .ok (.iand, 1) := by decide +kernel
theorem dX11_turn_179 : decode cX11_turn 179 = .ok (.iload_n 3, 1) := by decide +kernel
theorem dX11_turn_180 : decode cX11_turn 180 = .ok (.bipush 12, 2) := by decide +kernel
theorem dX11_turn_182 : decode cX11_turn 182 = .ok (.ishr, 1) := by decide +kernel
theorem dX11_turn_183 : decode cX11_turn 183 = .ok (.bipush 12, 2) := by decide +kernel
theorem dX11_turn_185 : decode cX11_turn 185 = .ok (.ishl, 1) := by decide +kernel
theorem dX11_turn_186 : decode cX11_turn 186 = .ok (.invokevirtual 313, 3) := by decide +kernel
theorem dX11_turn_189 : decode cX11_turn 189 = .ok (.aload_n 0, 1) := by decide +kernel
theorem dX11_turn_190 : decode cX11_turn 190 = .ok (.iload_n 1, 1) := by decide +kernel
theorem dX11_turn_191 : decode cX11_turn 191 = .ok (.iload_n 2, 1) := by decide +kernel
theorem dX11_turn_192 : decode cX11_turn 192 = .ok (.iconst 4, 1) := by decide +kernel
theorem dX11_turn_193 : decode cX11_turn 193 = .ok (.iadd, 1) := by decide +kernel
theorem dX11_turn_194 : decode cX11_turn 194 = .ok (.aload_n 0, 1) := by decide +kernel
theorem dX11_turn_195 : decode cX11_turn 195 = .ok (.getfield 291, 3) := by decide +kernel
theorem dX11_turn_198 : decode cX11_turn 198 = .ok (.iconst 4, 1) := by decide +kernel
theorem dX11_turn_199 : decode cX11_turn 199 = .ok (.iadd, 1) := by decide +kernel
theorem dX11_turn_200 : decode cX11_turn 200 = .ok (.invokevirtual 319, 3) := by decide +kernel
theorem dX11_turn_203 : decode cX11_turn 203 = .ok (.ireturn, 1) := by decide +kernel
theorem dX11_turn_204 : decode cX11_turn 204 = .ok (.aload_n 0, 1) := by decide +kernel
theorem dX11_turn_205 : decode cX11_turn 205 = .ok (.iload_n 1, 1) := by decide +kernel
theorem dX11_turn_206 : decode cX11_turn 206 = .ok (.iload_n 3, 1) := by decide +kernel
theorem dX11_turn_207 : decode cX11_turn 207 = .ok (.iconst 0, 1) := by decide +kernel
theorem dX11_turn_208 : decode cX11_turn 208 = .ok (.invokevirtual 333, 3) := by decide +kernel
theorem dX11_turn_211 : decode cX11_turn 211 = .ok (.ireturn, 1) := by decide +kernel
theorem dX11_turn_212 : decode cX11_turn 212 = .ok (.aload_n 0, 1) := by decide +kernel
theorem dX11_turn_213 : decode cX11_turn 213 = .ok (.iload_n 1, 1) := by decide +kernel
theorem dX11_turn_214 : decode cX11_turn 214 = .ok (.iload_n 3, 1) := by decide +kernel
theorem dX11_turn_215 : decode cX11_turn 215 = .ok (.iconst 1, 1) := by decide +kernel
theorem dX11_turn_216 : decode cX11_turn 216 = .ok (.invokevirtual 333, 3) := by decide +kernel
theorem dX11_turn_219 : decode cX11_turn 219 = .ok (.ireturn, 1) := by decide +kernel
theorem dX11_turn_220 : decode cX11_turn 220 = .ok (.aload_n 0, 1) := by decide +kernel
theorem dX11_turn_221 : decode cX11_turn 221 = .ok (.iload_n 1, 1) := by decide +kernel
theorem dX11_turn_222 : decode cX11_turn 222 = .ok (.iload_n 3, 1) := by decide +kernel
theorem dX11_turn_223 : decode cX11_turn 223 = .ok (.invokevirtual 337, 3) := by decide +kernel
theorem dX11_turn_226 : decode cX11_turn 226 = .ok (.ireturn, 1) := by decide +kernel
theorem dX11_turn_227 : decode cX11_turn 227 = .ok (.aload_n 0, 1) := by decide +kernel
theorem dX11_turn_228 : decode cX11_turn 228 = .ok (.iload_n 1, 1) := by decide +kernel
theorem dX11_turn_229 : decode cX11_turn 229 = .ok (.iload_n 3, 1) := by decide +kernel
theorem dX11_turn_230 : decode cX11_turn 230 = .ok (.iconst 0, 1) := by decide +kernel
theorem dX11_turn_231 : decode cX11_turn 231 = .ok (.invokevirtual 340, 3) := by decide +kernel
theorem dX11_turn_234 : decode cX11_turn 234 = .ok (.ireturn, 1) := by decide +kernel
theorem dX11_turn_235 : decode cX11_turn 235 = .ok (.aload_n 0, 1) := by decide +kernel
theorem dX11_turn_236 : decode cX11_turn 236 = .ok (.iload_n 1, 1) := by decide +kernel
theorem dX11_turn_237 : decode cX11_turn 237 = .ok (.iload_n 3, 1) := by decide +kernel
theorem dX11_turn_238 : decode cX11_turn 238 = .ok (.iconst 1, 1) := by decide +kernel
theorem dX11_turn_239 : decode cX11_turn 239 = .ok (.invokevirtual 340, 3) := by decide +kernel
theorem dX11_turn_242 : decode cX11_turn 242 = .ok (.ireturn, 1) := by decide +kernel
theorem dX11_turn_243 : decode cX11_turn 243 = .ok (.aload_n 0, 1) := by decide +kernel
theorem dX11_turn_244 : decode cX11_turn 244 = .ok (.iload_n 1, 1) := by decide +kernel
theorem dX11_turn_245 : decode cX11_turn 245 = .ok (.iload_n 3, 1) := by decide +kernel
theorem dX11_turn_246 : decode cX11_turn 246 = .ok (.iconst 0, 1) := by decide +kernel
theorem dX11_turn_247 : decode cX11_turn 247 = .ok (.invokevirtual 343, 3) := by decide +kernel
theorem dX11_turn_250 : decode cX11_turn 250 = .ok (.ireturn, 1) := by decide +kernel
theorem dX11_turn_251 : decode cX11_turn 251 = .ok (.aload_n 0, 1) := by decide +kernel
theorem dX11_turn_252 : decode cX11_turn 252 = .ok (.iload_n 1, 1) := by decide +kernel
theorem dX11_turn_253 : decode cX11_turn 253 = .ok (.iload_n 3, 1) := by decide +kernel
theorem dX11_turn_254 : decode cX11_turn 254 = .ok (.iconst 1, 1) := by decide +kernel
theorem dX11_turn_255 : decode cX11_turn 255 = .ok (.invokevirtual 343, 3) := by decide +kernel
theorem dX11_turn_258 : decode cX11_turn 258 = .ok (.ireturn, 1) := by decide +kernel
theorem dX11_turn_259 : decode cX11_turn 259 = .ok (.aload_n 0, 1) := by decide +kernel
theorem dX11_turn_260 : decode cX11_turn 260 = .ok (.iload_n 1, 1) := by decide +kernel
theorem dX11_turn_261 : decode cX11_turn 261 = .ok (.iload_n 3, 1) := by decide +kernel
theorem dX11_turn_262 : decode cX11_turn 262 = .ok (.invokevirtual 346, 3) := by decide +kernel
theorem dX11_turn_265 : decode cX11_turn 265 = .ok (.ireturn, 1) := by decide +kernel
theorem dX11_turn_266 : decode cX11_turn 266 = .ok (.iload_n 3, 1) := by decide +kernel
theorem dX11_turn_267 : decode cX11_turn 267 = .ok (.bipush 115, 2) := by decide +kernel
theorem dX11_turn_269 : decode cX11_turn 269 = .ok (.if_icmp .eq 9, 3) := by decide +kernel
theorem dX11_turn_272 : decode cX11_turn 272 = .ok (.aload_n 0, 1) := by decide +kernel
theorem dX11_turn_273 : decode cX11_turn 273 = .ok (.iload_n 1, 1) := by decide +kernel
theorem dX11_turn_274 : decode cX11_turn 274 = .ok (.invokevirtual 299, 3) := by decide +kernel
theorem dX11_turn_277 : decode cX11_turn 277 = .ok (.ireturn, 1) := by decide +kernel
theorem dX11_turn_278 : decode cX11_turn 278 = .ok (.aload_n 0, 1) := by decide +kernel
theorem dX11_turn_279 : decode cX11_turn 279 = .ok (.getfield 51, 3) := by decide +kernel
theorem dX11_turn_282 : decode cX11_turn 282 = .ok (.iload_n 1, 1) := by decide +kernel
theorem dX11_turn_283 : decode cX11_turn 283 = .ok (.iconst 2, 1) := by decide +kernel
theorem dX11_turn_284 : decode cX11_turn 284 = .ok (.iastore, 1) := by decide +kernel
theorem dX11_turn_285 : decode cX11_turn 285 = .ok (.aload_n 0, 1) := by decide +kernel
theorem dX11_turn_286 : decode cX11_turn 286 = .ok (.iload_n 1, 1) := by decide +kernel
theorem dX11_turn_287 : decode cX11_turn 287 = .ok (.iload_n 2, 1) := by decide +kernel
theorem dX11_turn_288 : decode cX11_turn 288 = .ok (.iconst 4, 1) := by decide +kernel
theorem dX11_turn_289 : decode cX11_turn 289 = .ok (.iadd, 1) := by decide +kernel
theorem dX11_turn_290 : decode cX11_turn 290 = .ok (.aload_n 0, 1) := by decide +kernel
theorem dX11_turn_291 : decode cX11_turn 291 = .ok (.getfield 291, 3) := by decide +kernel
theorem dX11_turn_294 : decode cX11_turn 294 = .ok (.iconst 4, 1) := by decide +kernel
theorem dX11_turn_295 : decode cX11_turn 295 = .ok (.iadd, 1) := by decide +kernel
theorem dX11_turn_296 : decode cX11_turn 296 = .ok (.invokevirtual 319, 3) := by decide +kernel
theorem dX11_turn_299 : decode cX11_turn 299 = .ok (.ireturn, 1) := by decide +kernel
theorem dX11_run_0 : decode cX11_run 0 = .ok (.aload_n 0, 1) := by decide +kernel
theorem dX11_run_1 : decode cX11_run 1 = .ok (.iconst 0, 1) := by decide +kernel
theorem dX11_run_2 : decode cX11_run 2 = .ok (.putfield 70, 3) := by decide +kernel
theorem dX11_run_5 : decode cX11_run 5 = .ok (.iload_n 1, 1) := by decide +kernel
theorem dX11_run_6 : decode cX11_run 6 = .ok (.ifCond .lt 10, 3) := by decide +kernel
theorem dX11_run_9 : decode cX11_run 9 = .ok (.iload_n 1, 1) := by decide +kernel
theorem dX11_run_10 : decode cX11_run 10 = .ok (.sipush 2000, 3) := by decide +kernel
theorem dX11_run_13 : decode cX11_run 13 = .ok (.if_icmp .le 5, 3) := by decide +kernel
theorem dX11_run_16 : decode cX11_run 16 = .ok (.iconst (-1), 1) := by decide +kernel
theorem dX11_run_17 : decode cX11_run 17 = .ok (.ireturn, 1) := by decide +kernel
theorem dX11_run_18 : decode cX11_run 18 = .ok (.iconst 0, 1) := by decide +kernel
theorem dX11_run_19 : decode cX11_run 19 = .ok (.istore_n 2, 1) := by decide +kernel
theorem dX11_run_20 : decode cX11_run 20 = .ok (.iconst 0, 1) := by decide +kernel
theorem dX11_run_21 : decode cX11_run 21 = .ok (.istore_n 3, 1) := by decide +kernel
theorem dX11_run_22 : decode cX11_run 22 = .ok (.iload_n 3, 1) := by decide +kernel
theorem dX11_run_23 : decode cX11_run 23 = .ok (.iload_n 1, 1) := by decide +kernel
theorem dX11_run_24 : decode cX11_run 24 = .ok (.if_icmp .ge 32, 3) := by decide +kernel
theorem dX11_run_27 : decode cX11_run 27 = .ok (.iload_n 2, 1) := by decide +kernel
theorem dX11_run_28 : decode cX11_run 28 = .ok (.aload_n 0, 1) := by decide +kernel
theorem dX11_run_29 : decode cX11_run 29 = .ok (.aload_n 0, 1) := by decide +kernel
theorem dX11_run_30 : decode cX11_run 30 = .ok (.getfield 291, 3) := by decide +kernel
theorem dX11_run_33 : decode cX11_run 33 = .ok (.iconst 4, 1) := by decide +kernel
theorem dX11_run_34 : decode cX11_run 34 = .ok (.irem, 1) := by decide +kernel
theorem dX11_run_35 : decode cX11_run 35 = .ok (.invokevirtual 349, 3) := by decide +kernel
theorem dX11_run_38 : decode cX11_run 38 = .ok (.iadd, 1) := by decide +kernel
theorem dX11_run_39 : decode cX11_run 39 = .ok (.istore_n 2, 1) := by decide +kernel
theorem dX11_run_40 : decode cX11_run 40 = .ok (.aload_n 0, 1) := by decide +kernel
theorem dX11_run_41 : decode cX11_run 41 = .ok (.dup, 1) := by decide +kernel
theorem dX11_run_42 : decode cX11_run 42 = .ok (.getfield 291, 3) := by decide +kernel
theorem dX11_run_45 : decode cX11_run 45 = .ok (.iconst 1, 1) := by decide +kernel
theorem dX11_run_46 : decode cX11_run 46 = .ok (.iadd, 1) := by decide +kernel
theorem dX11_run_47 : decode cX11_run 47 = .ok (.putfield 291, 3) := by decide +kernel
theorem dX11_run_50 : decode cX11_run 50 = .ok (.iinc 3 1, 3) := by decide +kernel
theorem dX11_run_53 : decode cX11_run 53 = .ok (.goto (-31), 3) := by decide +kernel
theorem dX11_run_56 : decode cX11_run 56 = .ok (.iload_n 2, 1) := by decide +kernel
theorem dX11_run_57 : decode cX11_run 57 = .ok (.ireturn, 1) := by decide +kernel
theorem dX11_now_0 : decode cX11_now 0 = .ok (.aload_n 0, 1) := by decide +kernel
theorem dX11_now_1 : decode cX11_now 1 = .ok (.iconst 0, 1) := by decide +kernel
theorem dX11_now_2 : decode cX11_now 2 = .ok (.putfield 70, 3) := by decide +kernel
theorem dX11_now_5 : decode cX11_now 5 = .ok (.aload_n 0, 1) := by decide +kernel
theorem dX11_now_6 : decode cX11_now 6 = .ok (.getfield 291, 3) := by decide +kernel
theorem dX11_now_9 : decode cX11_now 9 = .ok (.ireturn, 1) := by decide +kernel
theorem dX11_register_0 : decode cX11_register 0 = .ok (.aload_n 0, 1) := by decide +kernel
theorem dX11_register_1 : decode cX11_register 1 = .ok (.iconst 0, 1) := by decide +kernel
theorem dX11_register_2 : decode cX11_register 2 = .ok (.putfield 70, 3) := by decide +kernel
theorem dX11_register_5 : decode cX11_register 5 = .ok (.iload_n 1, 1) := by decide +kernel
theorem dX11_register_6 : decode cX11_register 6 = .ok (.ifCond .lt 18, 3) := by decide +kernel
theorem dX11_register_9 : decode cX11_register 9 = .ok (.iload_n 1, 1) := by decide +kernel
theorem dX11_register_10 : decode cX11_register 10 = .ok (.iconst 3, 1) := by decide +kernel
theorem dX11_register_11 : decode cX11_register 11 = .ok (.if_icmp .gt 13, 3) := by decide +kernel
theorem dX11_register_14 : decode cX11_register 14 = .ok (.iload_n 2, 1) := by decide +kernel
theorem dX11_register_15 : decode cX11_register 15 = .ok (.ifCond .lt 9, 3) := by decide +kernel
theorem dX11_register_18 : decode cX11_register 18 = .ok (.iload_n 2, 1) := by decide +kernel
theorem dX11_register_19 : decode cX11_register 19 = .ok (.bipush 15, 2) := by decide +kernel
theorem dX11_register_21 : decode cX11_register 21 = .ok (.if_icmp .le 7, 3) := by decide +kernel
theorem dX11_register_24 : decode cX11_register 24 = .ok (.iconst 0, 1) := by decide +kernel
theorem dX11_register_25 : decode cX11_register 25 = .ok (.goto 14, 3) := by decide +kernel
theorem dX11_register_28 : decode cX11_register 28 = .ok (.aload_n 0, 1) := by decide +kernel
theorem dX11_register_29 : decode cX11_register 29 = .ok (.getfield 45, 3) := by decide +kernel
theorem dX11_register_32 : decode cX11_register 32 = .ok (.bipush 16, 2) := by decide +kernel
theorem dX11_register_34 : decode cX11_register 34 = .ok (.iload_n 1, 1) := by decide +kernel
theorem dX11_register_35 : decode cX11_register 35 = .ok (.imul, 1) := by decide +kernel
theorem dX11_register_36 : decode cX11_register 36 = .ok (.iload_n 2, 1) := by decide +kernel
theorem dX11_register_37 : decode cX11_register 37 = .ok (.iadd, 1) := by decide +kernel
theorem dX11_register_38 : decode cX11_register 38 = .ok (.iaload, 1) := by decide +kernel
theorem dX11_register_39 : decode cX11_register 39 = .ok (.ireturn, 1) := by decide +kernel
theorem dX11_state_0 : decode cX11_state 0 = .ok (.aload_n 0, 1) := by decide +kernel
theorem dX11_state_1 : decode cX11_state 1 = .ok (.iconst 0, 1) := by decide +kernel
theorem dX11_state_2 : decode cX11_state 2 = .ok (.putfield 70, 3) := by decide +kernel
theorem dX11_state_5 : decode cX11_state 5 = .ok (.iload_n 1, 1) := by decide +kernel
theorem dX11_state_6 : decode cX11_state 6 = .ok (.ifCond .lt 8, 3) := by decide +kernel
theorem dX11_state_9 : decode cX11_state 9 = .ok (.iload_n 1, 1) := by decide +kernel
theorem dX11_state_10 : decode cX11_state 10 = .ok (.iconst 3, 1) := by decide +kernel
theorem dX11_state_11 : decode cX11_state 11 = .ok (.if_icmp .le 5, 3) := by decide +kernel
theorem dX11_state_14 : decode cX11_state 14 = .ok (.iconst (-1), 1) := by decide +kernel
theorem dX11_state_15 : decode cX11_state 15 = .ok (.ireturn, 1) := by decide +kernel
theorem dX11_state_16 : decode cX11_state 16 = .ok (.iload_n 2, 1) := by decide +kernel
theorem dX11_state_17 : decode cX11_state 17 = .ok (.iconst 4, 1) := by decide +kernel
theorem dX11_state_18 : decode cX11_state 18 = .ok (.if_icmp .lt 22, 3) := by decide +kernel
theorem dX11_state_21 : decode cX11_state 21 = .ok (.iload_n 2, 1) := by decide +kernel
theorem dX11_state_22 : decode cX11_state 22 = .ok (.bipush 7, 2) := by decide +kernel
theorem dX11_state_24 : decode cX11_state 24 = .ok (.if_icmp .gt 16, 3) := by decide +kernel
theorem dX11_state_27 : decode cX11_state 27 = .ok (.aload_n 0, 1) := by decide +kernel
theorem dX11_state_28 : decode cX11_state 28 = .ok (.getfield 60, 3) := by decide +kernel
theorem dX11_state_31 : decode cX11_state 31 = .ok (.iconst 4, 1) := by decide +kernel
theorem dX11_state_32 : decode cX11_state 32 = .ok (.iload_n 1, 1) := by decide +kernel
theorem dX11_state_33 : decode cX11_state 33 = .ok (.imul, 1) := by decide +kernel
theorem dX11_state_34 : decode cX11_state 34 = .ok (.iload_n 2, 1) := by decide +kernel
theorem dX11_state_35 : decode cX11_state 35 = .ok (.iadd, 1) := by decide +kernel
theorem dX11_state_36 : decode cX11_state 36 = .ok (.iconst 4, 1) := by decide +kernel
theorem dX11_state_37 : decode cX11_state 37 = .ok (.isub, 1) := by decide +kernel
theorem dX11_state_38 : decode cX11_state 38 = .ok (.iaload, 1) := by decide +kernel
theorem dX11_state_39 : decode cX11_state 39 = .ok (.ireturn, 1) := by decide +kernel
theorem dX11_state_40 : decode cX11_state 40 = .ok (.iload_n 2, 1) := by decide +kernel
theorem dX11_state_41 : decode cX11_state 41 = .ok (.ifCond .ne 12, 3) := by decide +kernel
theorem dX11_state_44 : decode cX11_state 44 = .ok (.aload_n 0, 1) := by decide +kernel
theorem dX11_state_45 : decode cX11_state 45 = .ok (.getfield 51, 3) := by decide +kernel
theorem dX11_state_48 : decode cX11_state 48 = .ok (.iload_n 1, 1) := by decide +kernel
theorem dX11_state_49 : decode cX11_state 49 = .ok (.iaload, 1) := by decide +kernel
theorem dX11_state_50 : decode cX11_state 50 = .ok (.goto 46, 3) := by decide +kernel
theorem dX11_state_53 : decode cX11_state 53 = .ok (.iload_n 2, 1) := by decide +kernel
theorem dX11_state_54 : decode cX11_state 54 = .ok (.iconst 1, 1) := by decide +kernel
theorem dX11_state_55 : decode cX11_state 55 = .ok (.if_icmp .ne 12, 3) := by decide +kernel
theorem dX11_state_58 : decode cX11_state 58 = .ok (.aload_n 0, 1) := by decide +kernel
theorem dX11_state_59 : decode cX11_state 59 = .ok (.getfield 48, 3) := by decide +kernel
theorem dX11_state_62 : decode cX11_state 62 = .ok (.iload_n 1, 1) := by decide +kernel
theorem dX11_state_63 : decode cX11_state 63 = .ok (.iaload, 1) := by decide +kernel
theorem dX11_state_64 : decode cX11_state 64 = .ok (.goto 32, 3) := by decide +kernel
theorem dX11_state_67 : decode cX11_state 67 = .ok (.iload_n 2, 1) := by decide +kernel
theorem dX11_state_68 : decode cX11_state 68 = .ok (.iconst 2, 1) := by decide +kernel
theorem dX11_state_69 : decode cX11_state 69 = .ok (.if_icmp .ne 12, 3) := by decide +kernel
theorem dX11_state_72 : decode cX11_state 72 = .ok (.aload_n 0, 1) := by decide +kernel
theorem dX11_state_73 : decode cX11_state 73 = .ok (.getfield 54, 3) := by decide +kernel
theorem dX11_state_76 : decode cX11_state 76 = .ok (.iload_n 1, 1) := by decide +kernel
theorem dX11_state_77 : decode cX11_state 77 = .ok (.iaload, 1) := by decide +kernel
theorem dX11_state_78 : decode cX11_state 78 = .ok (.goto 18, 3) := by decide +kernel
theorem dX11_state_81 : decode cX11_state 81 = .ok (.iload_n 2, 1) := by decide +kernel
theorem dX11_state_82 : decode cX11_state 82 = .ok (.iconst 3, 1) := by decide +kernel
theorem dX11_state_83 : decode cX11_state 83 = .ok (.if_icmp .ne 12, 3) := by decide +kernel
theorem dX11_state_86 : decode cX11_state 86 = .ok (.aload_n 0, 1) := by decide +kernel
theorem dX11_state_87 : decode cX11_state 87 = .ok (.getfield 57, 3) := by decide +kernel
theorem dX11_state_90 : decode cX11_state 90 = .ok (.iload_n 1, 1) := by decide +kernel
theorem dX11_state_91 : decode cX11_state 91 = .ok (.iaload, 1) := by decide +kernel
theorem dX11_state_92 : decode cX11_state 92 = .ok (.goto 4, 3) := by decide +kernel
theorem dX11_state_95 : decode cX11_state 95 = .ok (.iconst (-1), 1) := by decide +kernel
theorem dX11_state_96 : decode cX11_state 96 = .ok (.ireturn, 1) := by decide +kernel
theorem dX11_trace_0 : decode cX11_trace 0 = .ok (.aload_n 0, 1) := by decide +kernel
theorem dX11_trace_1 : decode cX11_trace 1 = .ok (.iconst 0, 1) := by decide +kernel
theorem dX11_trace_2 : decode cX11_trace 2 = .ok (.putfield 70, 3) := by decide +kernel
theorem dX11_trace_5 : decode cX11_trace 5 = .ok (.iload_n 1, 1) := by decide +kernel
theorem dX11_trace_6 : decode cX11_trace 6 = .ok (.ifCond .lt 37, 3) := by decide +kernel
theorem dX11_trace_9 : decode cX11_trace 9 = .ok (.iload_n 1, 1) := by decide +kernel
theorem dX11_trace_10 : decode cX11_trace 10 = .ok (.iconst 3, 1) := by decide +kernel
theorem dX11_trace_11 : decode cX11_trace 11 = .ok (.if_icmp .gt 32, 3) := by decide +kernel
theorem dX11_trace_14 : decode cX11_trace 14 = .ok (.iload_n 2, 1) := by decide +kernel
theorem dX11_trace_15 : decode cX11_trace 15 = .ok (.ifCond .lt 28, 3) := by decide +kernel
theorem dX11_trace_18 : decode cX11_trace 18 = .ok (.iload_n 2, 1) := by decide +kernel
theorem dX11_trace_19 : decode cX11_trace 19 = .ok (.bipush 15, 2) := by decide +kernel
theorem dX11_trace_21 : decode cX11_trace 21 = .ok (.if_icmp .gt 22, 3) := by decide +kernel
theorem dX11_trace_24 : decode cX11_trace 24 = .ok (.iload_n 2, 1) := by decide +kernel
theorem dX11_trace_25 : decode cX11_trace 25 = .ok (.aload_n 0, 1) := by decide +kernel
theorem dX11_trace_26 : decode cX11_trace 26 = .ok (.getfield 54, 3) := by decide +kernel
theorem dX11_trace_29 : decode cX11_trace 29 = .ok (.iload_n 1, 1) := by decide +kernel
theorem dX11_trace_30 : decode cX11_trace 30 = .ok (.iaload, 1) := by decide +kernel
theorem dX11_trace_31 : decode cX11_trace 31 = .ok (.if_icmp .ge 12, 3) := by decide +kernel
theorem dX11_trace_34 : decode cX11_trace 34 = .ok (.iload_n 3, 1) := by decide +kernel
theorem dX11_trace_35 : decode cX11_trace 35 = .ok (.ifCond .lt 8, 3) := by decide +kernel
theorem dX11_trace_38 : decode cX11_trace 38 = .ok (.iload_n 3, 1) := by decide +kernel
theorem dX11_trace_39 : decode cX11_trace 39 = .ok (.iconst 2, 1) := by decide +kernel
theorem dX11_trace_40 : decode cX11_trace 40 = .ok (.if_icmp .le 5, 3) := by decide +kernel
theorem dX11_trace_43 : decode cX11_trace 43 = .ok (.iconst (-1), 1) := by decide +kernel
theorem dX11_trace_44 : decode cX11_trace 44 = .ok (.ireturn, 1) := by decide +kernel
theorem dX11_trace_45 : decode cX11_trace 45 = .ok (.aload_n 0, 1) := by decide +kernel
theorem dX11_trace_46 : decode cX11_trace 46 = .ok (.getfield 63, 3) := by decide +kernel
theorem dX11_trace_49 : decode cX11_trace 49 = .ok (.bipush 48, 2) := by decide +kernel
theorem dX11_trace_51 : decode cX11_trace 51 = .ok (.iload_n 1, 1) := by decide +kernel
theorem dX11_trace_52 : decode cX11_trace 52 = .ok (.imul, 1) := by decide +kernel
theorem dX11_trace_53 : decode cX11_trace 53 = .ok (.iconst 3, 1) := by decide +kernel
theorem dX11_trace_54 : decode cX11_trace 54 = .ok (.aload_n 0, 1) := by decide +kernel
theorem dX11_trace_55 : decode cX11_trace 55 = .ok (.getfield 54, 3) := by decide +kernel
theorem dX11_trace_58 : decode cX11_trace 58 = .ok (.iload_n 1, 1) := by decide +kernel
theorem dX11_trace_59 : decode cX11_trace 59 = .ok (.iaload, 1) := by decide +kernel
theorem dX11_trace_60 : decode cX11_trace 60 = .ok (.iconst 1, 1) := by decide +kernel
theorem dX11_trace_61 : decode cX11_trace 61 = .ok (.isub, 1) := by decide +kernel
theorem dX11_trace_62 : decode cX11_trace 62 = .ok (.iload_n 2, 1) := by decide +kernel
theorem dX11_trace_63 : decode cX11_trace 63 = .ok (.isub, 1) := by decide +kernel
theorem dX11_trace_64 : decode cX11_trace 64 = .ok (.bipush 16, 2) := by decide +kernel
theorem dX11_trace_66 : decode cX11_trace 66 = .ok (.irem, 1) := by decide +kernel
theorem dX11_trace_67 : decode cX11_trace 67 = .ok (.imul, 1) := by decide +kernel
theorem dX11_trace_68 : decode cX11_trace 68 = .ok (.iadd, 1) := by decide +kernel
theorem dX11_trace_69 : decode cX11_trace 69 = .ok (.iload_n 3, 1) := by decide +kernel
theorem dX11_trace_70 : decode cX11_trace 70 = .ok (.iadd, 1) := by decide +kernel
theorem dX11_trace_71 : decode cX11_trace 71 = .ok (.iaload, 1) := by decide +kernel
theorem dX11_trace_72 : decode cX11_trace 72 = .ok (.ireturn, 1) := by decide +kernel
end
