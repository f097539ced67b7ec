set_option maxRecDepth 100000 in
def w_C (cycle : Int32) (mwheel : Int32) (mwords : Nat → Int32) (xlow : Nat → Int32) (xhigh : Nat → Int32) (xnum : Nat → Int32) (xstat : Nat → Int32) (xaddr : Nat → Int32) (xready : Nat → Int32) (xnext : Nat → Int32) (xret : Nat → Int32) (xregs : Nat → Nat → Int32) (xstore : Nat → Nat → Int32) (xhcount : Nat → Int32) (xhaddr : Nat → Nat → Int32) (xhcyc : Nat → Nat → Int32) (xhret : Nat → Nat → Int32) (xtims : Nat → Nat → Int32) (tlen : Int32) (tchars : Nat → Int32) (acount : Int32) (afk : Int32) (afl : Int32) (aat : Int32) (alabel : Int64) (ahas : Int32) (aword : Int32) (atarget : Int64) (amal : Int32) (amis : Int32) (awords : Nat → Int32) (atargets : Nat → Int64) (alines : Nat → Int32) (lcount : Int32) (lkeys : Nat → Int64) (lplaces : Nat → Int32) (kcount : Int32) (kat : Int32) (kinds : Nat → Int32) (kvals : Nat → Int64) : List va_E := [.inr (7, [.ref 1, .ref 3, .ref 36, .ref 38, .int cycle]), .inr (3, [.ref 2, .int mwheel]), .inl (1, 64, .inl mwords), .inl (3, 4, .inr (.inr (.inr (.inr (fun j => some (4 + 8 * j)))))), .inr (5, [.ref 5, .ref 6, .ref 7, .int (xlow 0), .int (xhigh 0), .int (xnum 0), .ref 11, .int (xstat 0), .int (xaddr 0), .int (xready 0), .int (xnext 0), .int (xret 0)]), .inl (1, 16, .inl (xregs 0)), .inl (1, 128, .inl (xstore 0)), .inr (1, [.int (xhcount 0), .ref 8, .ref 9, .ref 10]), .inl (1, 16, .inl (xhaddr 0)), .inl (1, 16, .inl (xhcyc 0)), .inl (1, 16, .inl (xhret 0)), .inl (1, 4, .inl (xtims 0)), .inr (5, [.ref 13, .ref 14, .ref 15, .int (xlow 1), .int (xhigh 1), .int (xnum 1), .ref 19, .int (xstat 1), .int (xaddr 1), .int (xready 1), .int (xnext 1), .int (xret 1)]), .inl (1, 16, .inl (xregs 1)), .inl (1, 128, .inl (xstore 1)), .inr (1, [.int (xhcount 1), .ref 16, .ref 17, .ref 18]), .inl (1, 16, .inl (xhaddr 1)), .inl (1, 16, .inl (xhcyc 1)), .inl (1, 16, .inl (xhret 1)), .inl (1, 4, .inl (xtims 1)), .inr (5, [.ref 21, .ref 22, .ref 23, .int (xlow 2), .int (xhigh 2), .int (xnum 2), .ref 27, .int (xstat 2), .int (xaddr 2), .int (xready 2), .int (xnext 2), .int (xret 2)]), .inl (1, 16, .inl (xregs 2)), .inl (1, 128, .inl (xstore 2)), .inr (1, [.int (xhcount 2), .ref 24, .ref 25, .ref 26]), .inl (1, 16, .inl (xhaddr 2)), .inl (1, 16, .inl (xhcyc 2)), .inl (1, 16, .inl (xhret 2)), .inl (1, 4, .inl (xtims 2)), .inr (5, [.ref 29, .ref 30, .ref 31, .int (xlow 3), .int (xhigh 3), .int (xnum 3), .ref 35, .int (xstat 3), .int (xaddr 3), .int (xready 3), .int (xnext 3), .int (xret 3)]), .inl (1, 16, .inl (xregs 3)), .inl (1, 128, .inl (xstore 3)), .inr (1, [.int (xhcount 3), .ref 32, .ref 33, .ref 34]), .inl (1, 16, .inl (xhaddr 3)), .inl (1, 16, .inl (xhcyc 3)), .inl (1, 16, .inl (xhret 3)), .inl (1, 4, .inl (xtims 3)), .inr (4, [.ref 37, .int tlen]), .inl (0, 400, .inl tchars), .inr (0, [.ref 39, .int acount, .int afk, .int afl, .ref 40, .ref 41, .ref 42, .ref 45, .int aat, .long alabel, .int ahas, .int aword, .long atarget, .int amal, .int amis]), .inl (1, 128, .inl awords), .inl (2, 128, .inr (.inl atargets)), .inl (1, 128, .inl alines), .inr (2, [.int lcount, .ref 43, .ref 44]), .inl (2, 16, .inr (.inl lkeys)), .inl (1, 16, .inl lplaces), .inr (6, [.ref 46, .ref 47, .ref 36, .int kcount, .int kat]), .inl (0, 401, .inl kinds), .inl (2, 401, .inr (.inl kvals))]
def g_up {α : Type} (f : Nat → α) (k : Nat) (v : α) (j : Nat) : α := match Nat.beq j k with
  | true => v
  | false => f j
theorem g_four {i : Int32} (h : vp_in i 4) : Int32.toNatClampNeg i = 0 ∨ Int32.toNatClampNeg i = 1 ∨ Int32.toNatClampNeg i = 2 ∨ Int32.toNatClampNeg i = 3 := by
  have h1 := vp_in_iff.mp h
  rw [pk_cl i.toInt.toNat (q_nI h1.1)]
  omega
theorem a_fm4 {x z : Int32} (h : z = f_J9_floorMod_7cf53 x 4) : 0 ≤ z.toInt ∧ z.toInt < 4 := by
  have h9 := a_fmr (y := 4) h (by decide)
  have h8 : (4 : Int32).toInt = 4 := by decide
  omega
theorem gd_X10_isThread : yX10_isThread.cls ≠ "java/lang/invoke/MethodHandle" ∧ yX10_isThread.cls ≠ "java/lang/invoke/VarHandle" ∧ (parseMethodDescriptor yX10_isThread.desc).map (fun d => d.parameters.length) = some 1 := ⟨by decide, by decide, by decide +kernel⟩
theorem gd_X10_isStoreWord : yX10_isStoreWord.cls ≠ "java/lang/invoke/MethodHandle" ∧ yX10_isStoreWord.cls ≠ "java/lang/invoke/VarHandle" ∧ (parseMethodDescriptor yX10_isStoreWord.desc).map (fun d => d.parameters.length) = some 2 := ⟨by decide, by decide, by decide +kernel⟩
theorem gd_X10_clear : yX10_clear.cls ≠ "java/lang/invoke/MethodHandle" ∧ yX10_clear.cls ≠ "java/lang/invoke/VarHandle" ∧ (parseMethodDescriptor yX10_clear.desc).map (fun d => d.parameters.length) = some 0 := ⟨by decide, by decide, by decide +kernel⟩
theorem gd_X10_fault : yX10_fault.cls ≠ "java/lang/invoke/MethodHandle" ∧ yX10_fault.cls ≠ "java/lang/invoke/VarHandle" ∧ (parseMethodDescriptor yX10_fault.desc).map (fun d => d.parameters.length) = some 1 := ⟨by decide, by decide, by decide +kernel⟩
theorem gd_X10_now : yX10_now.cls ≠ "java/lang/invoke/MethodHandle" ∧ yX10_now.cls ≠ "java/lang/invoke/VarHandle" ∧ (parseMethodDescriptor yX10_now.desc).map (fun d => d.parameters.length) = some 0 := ⟨by decide, by decide, by decide +kernel⟩
theorem gd_X10_shared : yX10_shared.cls ≠ "java/lang/invoke/MethodHandle" ∧ yX10_shared.cls ≠ "java/lang/invoke/VarHandle" ∧ (parseMethodDescriptor yX10_shared.desc).map (fun d => d.parameters.length) = some 1 := ⟨by decide, by decide, by decide +kernel⟩
theorem gd_X10_peek : yX10_peek.cls ≠ "java/lang/invoke/MethodHandle" ∧ yX10_peek.cls ≠ "java/lang/invoke/VarHandle" ∧ (parseMethodDescriptor yX10_peek.desc).map (fun d => d.parameters.length) = some 2 := ⟨by decide, by decide, by decide +kernel⟩
theorem gd_X10_poke : yX10_poke.cls ≠ "java/lang/invoke/MethodHandle" ∧ yX10_poke.cls ≠ "java/lang/invoke/VarHandle" ∧ (parseMethodDescriptor yX10_poke.desc).map (fun d => d.parameters.length) = some 3 := ⟨by decide, by decide, by decide +kernel⟩
theorem gd_X10_part : yX10_part.cls ≠ "java/lang/invoke/MethodHandle" ∧ yX10_part.cls ≠ "java/lang/invoke/VarHandle" ∧ (parseMethodDescriptor yX10_part.desc).map (fun d => d.parameters.length) = some 3 := ⟨by decide, by decide, by decide +kernel⟩
theorem gd_X10_start : yX10_start.cls ≠ "java/lang/invoke/MethodHandle" ∧ yX10_start.cls ≠ "java/lang/invoke/VarHandle" ∧ (parseMethodDescriptor yX10_start.desc).map (fun d => d.parameters.length) = some 2 := ⟨by decide, by decide, by decide +kernel⟩
theorem gd_X10_register : yX10_register.cls ≠ "java/lang/invoke/MethodHandle" ∧ yX10_register.cls ≠ "java/lang/invoke/VarHandle" ∧ (parseMethodDescriptor yX10_register.desc).map (fun d => d.parameters.length) = some 2 := ⟨by decide, by decide, by decide +kernel⟩
theorem gd_X10_state : yX10_state.cls ≠ "java/lang/invoke/MethodHandle" ∧ yX10_state.cls ≠ "java/lang/invoke/VarHandle" ∧ (parseMethodDescriptor yX10_state.desc).map (fun d => d.parameters.length) = some 2 := ⟨by decide, by decide, by decide +kernel⟩
theorem gd_X10_trace : yX10_trace.cls ≠ "java/lang/invoke/MethodHandle" ∧ yX10_trace.cls ≠ "java/lang/invoke/VarHandle" ∧ (parseMethodDescriptor yX10_trace.desc).map (fun d => d.parameters.length) = some 3 := ⟨by decide, by decide, by decide +kernel⟩
theorem gd_X10_run : yX10_run.cls ≠ "java/lang/invoke/MethodHandle" ∧ yX10_run.cls ≠ "java/lang/invoke/VarHandle" ∧ (parseMethodDescriptor yX10_run.desc).map (fun d => d.parameters.length) = some 1 := ⟨by decide, by decide, by decide +kernel⟩
abbrev M_X10_isThread : g_M := (cX10_isThread, 1, RX10, (some .boolean), { frames := 0, cells := 0, slots := 0, locals := 0 }, 0, 0)
theorem dm_X10_isThread_0 : decode M_X10_isThread.1 0 = .ok (.iload_n 0, 1) := by decide +kernel
theorem dm_X10_isThread_1 : decode M_X10_isThread.1 1 = .ok (.ifCond .lt 12, 3) := by decide +kernel
theorem dm_X10_isThread_4 : decode M_X10_isThread.1 4 = .ok (.iload_n 0, 1) := by decide +kernel
theorem dm_X10_isThread_5 : decode M_X10_isThread.1 5 = .ok (.iconst 4, 1) := by decide +kernel
theorem dm_X10_isThread_6 : decode M_X10_isThread.1 6 = .ok (.if_icmp .ge 7, 3) := by decide +kernel
theorem dm_X10_isThread_9 : decode M_X10_isThread.1 9 = .ok (.iconst 1, 1) := by decide +kernel
theorem dm_X10_isThread_10 : decode M_X10_isThread.1 10 = .ok (.goto 4, 3) := by decide +kernel
theorem dm_X10_isThread_13 : decode M_X10_isThread.1 13 = .ok (.iconst 0, 1) := by decide +kernel
theorem dm_X10_isThread_14 : decode M_X10_isThread.1 14 = .ok (.ireturn, 1) := by decide +kernel
def f_X10_isThread (thread : Int32) : Int32 := (if thread < 0 then (0 : Int32) else (if (4 : Int32) ≤ thread then (0 : Int32) else (1 : Int32)))
set_option maxRecDepth 20000 in
theorem k_X10_isThread {thread : Int32} {r_0 : Int32} (hres : r_0 = f_X10_isThread thread) : K M_X10_isThread yX10_isThread [.int thread] [] (some (.int r_0)) [] := by
  refine K.of (lv := [(0, .int thread)]) (by decide +kernel) rfl rfl rfl ?_
  rw [f_X10_isThread] at hres
  refine G.iload_n (pc := 0) dm_X10_isThread_0 rfl ?_
  refine G.if_lt (pc := 1) (tgt := 13) dm_X10_isThread_1 (by decide) (fun c1 => ?_) (fun c1 => ?_)
  · rw [if_pos c1] at hres
    refine G.iconst (pc := 13) (v := (0 : Int32)) dm_X10_isThread_13 qi_0 ?_
    subst hres
    exact G.zreturn (pc := 14) dm_X10_isThread_14 rfl (by decide) rfl rfl
  · rw [if_neg c1] at hres
    refine G.iload_n (pc := 4) dm_X10_isThread_4 rfl ?_
    refine G.iconst (pc := 5) (v := (4 : Int32)) dm_X10_isThread_5 qi_4 ?_
    refine G.icmp_ge (pc := 6) (tgt := 13) dm_X10_isThread_6 (by decide) (fun c6 => ?_) (fun c6 => ?_)
    · rw [if_pos c6] at hres
      refine G.iconst (pc := 13) (v := (0 : Int32)) dm_X10_isThread_13 qi_0 ?_
      subst hres
      exact G.zreturn (pc := 14) dm_X10_isThread_14 rfl (by decide) rfl rfl
    · rw [if_neg c6] at hres
      refine G.iconst (pc := 9) (v := (1 : Int32)) dm_X10_isThread_9 qi_1 ?_
      refine G.goto (pc := 10) (tgt := 14) dm_X10_isThread_10 (by decide) ?_
      subst hres
      exact G.zreturn (pc := 14) dm_X10_isThread_14 rfl (by decide) rfl rfl
theorem a_isThread {a z : Int32} (h : z = f_X10_isThread a) : ¬ z = 0 → 0 ≤ a.toInt ∧ a.toInt < 4 := by
  have h1 : (4 : Int32).toInt = 4 := by decide
  have h2 : (0 : Int32).toInt = 0 := by decide
  subst h
  unfold f_X10_isThread
  intro h
  split at h
  · exact absurd rfl h
  · rename_i c1
    split at h
    · exact absurd rfl h
    · rename_i c2
      have := q_nlt c1
      have := q_nle c2
      omega
abbrev M_X10_isStoreWord : g_M := (cX10_isStoreWord, 2, RX10, (some .boolean), { frames := 1, cells := 0, slots := 0, locals := 20 }, 0, 0)
theorem dm_X10_isStoreWord_0 : decode M_X10_isStoreWord.1 0 = .ok (.iload_n 0, 1) := by decide +kernel
theorem dm_X10_isStoreWord_1 : decode M_X10_isStoreWord.1 1 = .ok (.invokestatic 101, 3) := by decide +kernel
theorem dm_X10_isStoreWord_4 : decode M_X10_isStoreWord.1 4 = .ok (.ifCond .eq 18, 3) := by decide +kernel
theorem dm_X10_isStoreWord_7 : decode M_X10_isStoreWord.1 7 = .ok (.iload_n 1, 1) := by decide +kernel
theorem dm_X10_isStoreWord_8 : decode M_X10_isStoreWord.1 8 = .ok (.ifCond .lt 14, 3) := by decide +kernel
theorem dm_X10_isStoreWord_11 : decode M_X10_isStoreWord.1 11 = .ok (.iload_n 1, 1) := by decide +kernel
theorem dm_X10_isStoreWord_12 : decode M_X10_isStoreWord.1 12 = .ok (.sipush 128, 3) := by decide +kernel
theorem dm_X10_isStoreWord_15 : decode M_X10_isStoreWord.1 15 = .ok (.if_icmp .ge 7, 3) := by decide +kernel
theorem dm_X10_isStoreWord_18 : decode M_X10_isStoreWord.1 18 = .ok (.iconst 1, 1) := by decide +kernel
theorem dm_X10_isStoreWord_19 : decode M_X10_isStoreWord.1 19 = .ok (.goto 4, 3) := by decide +kernel
theorem dm_X10_isStoreWord_22 : decode M_X10_isStoreWord.1 22 = .ok (.iconst 0, 1) := by decide +kernel
theorem dm_X10_isStoreWord_23 : decode M_X10_isStoreWord.1 23 = .ok (.ireturn, 1) := by decide +kernel
theorem gc_X10_isStoreWord_101 : g_cs M_X10_isStoreWord 101 M_X10_isThread yX10_isThread 1 := ⟨tw194, tw195, tw2, tw196, ⟨rfl, rfl, rfl, rfl⟩, gd_X10_isThread, ⟨by decide, by decide⟩⟩
def f_X10_isStoreWord_c1 (word : Int32) (z1_0 : Int32) : Int32 := (if z1_0 = 0 then (0 : Int32) else (if word < 0 then (0 : Int32) else (if (128 : Int32) ≤ word then (0 : Int32) else (1 : Int32))))
def f_X10_isStoreWord (thread : Int32) (word : Int32) : Int32 := (f_X10_isStoreWord_c1 word (f_X10_isThread thread))
set_option maxRecDepth 20000 in
theorem k_X10_isStoreWord {thread : Int32} {word : Int32} {r_0 : Int32} (hres : r_0 = f_X10_isStoreWord thread word) : K M_X10_isStoreWord yX10_isStoreWord [.int thread, .int word] [] (some (.int r_0)) [] := by
  refine K.of (lv := [(0, .int thread), (1, .int word)]) (by decide +kernel) rfl rfl rfl ?_
  rw [f_X10_isStoreWord] at hres
  refine G.iload_n (pc := 0) dm_X10_isStoreWord_0 rfl ?_
  obtain ⟨z1_0, hz1⟩ := g_ex1 (f_X10_isThread thread)
  refine G.callS (pc := 1) (rest := []) (st1 := [.int z1_0]) (ws1 := []) [] dm_X10_isStoreWord_1 gc_X10_isStoreWord_101 (k_X10_isThread (thread := thread) hz1) rfl rfl rfl rfl rfl rfl rfl rfl ?_
  replace hres : r_0 = f_X10_isStoreWord_c1 word z1_0 := hres.trans (by rw [← hz1])
  rw [f_X10_isStoreWord_c1] at hres
  refine G.if_eq (pc := 4) (tgt := 22) dm_X10_isStoreWord_4 (by decide) (fun c4 => ?_) (fun c4 => ?_)
  · rw [if_pos c4] at hres
    refine G.iconst (pc := 22) (v := (0 : Int32)) dm_X10_isStoreWord_22 qi_0 ?_
    subst hres
    exact G.zreturn (pc := 23) dm_X10_isStoreWord_23 rfl (by decide) rfl rfl
  · rw [if_neg c4] at hres
    refine G.iload_n (pc := 7) dm_X10_isStoreWord_7 rfl ?_
    refine G.if_lt (pc := 8) (tgt := 22) dm_X10_isStoreWord_8 (by decide) (fun c8 => ?_) (fun c8 => ?_)
    · rw [if_pos c8] at hres
      refine G.iconst (pc := 22) (v := (0 : Int32)) dm_X10_isStoreWord_22 qi_0 ?_
      subst hres
      exact G.zreturn (pc := 23) dm_X10_isStoreWord_23 rfl (by decide) rfl rfl
    · rw [if_neg c8] at hres
      refine G.iload_n (pc := 11) dm_X10_isStoreWord_11 rfl ?_
      refine G.sipush (pc := 12) (v := (128 : Int32)) dm_X10_isStoreWord_12 qs_128 ?_
      refine G.icmp_ge (pc := 15) (tgt := 22) dm_X10_isStoreWord_15 (by decide) (fun c15 => ?_) (fun c15 => ?_)
      · rw [if_pos c15] at hres
        refine G.iconst (pc := 22) (v := (0 : Int32)) dm_X10_isStoreWord_22 qi_0 ?_
        subst hres
        exact G.zreturn (pc := 23) dm_X10_isStoreWord_23 rfl (by decide) rfl rfl
      · rw [if_neg c15] at hres
        refine G.iconst (pc := 18) (v := (1 : Int32)) dm_X10_isStoreWord_18 qi_1 ?_
        refine G.goto (pc := 19) (tgt := 23) dm_X10_isStoreWord_19 (by decide) ?_
        subst hres
        exact G.zreturn (pc := 23) dm_X10_isStoreWord_23 rfl (by decide) rfl rfl
theorem a_isSW {a b z : Int32} (h : z = f_X10_isStoreWord a b) : ¬ z = 0 → (0 ≤ a.toInt ∧ a.toInt < 4) ∧ 0 ≤ b.toInt ∧ b.toInt < 128 := by
  have h1 : (128 : Int32).toInt = 128 := by decide
  have h2 : (0 : Int32).toInt = 0 := by decide
  subst h
  unfold f_X10_isStoreWord f_X10_isStoreWord_c1
  intro h
  split at h
  · exact absurd rfl h
  · rename_i c0
    refine ⟨a_isThread rfl c0, ?_⟩
    split at h
    · exact absurd rfl h
    · rename_i c1
      split at h
      · exact absurd rfl h
      · rename_i c2
        have := q_nlt c1
        have := q_nle c2
        omega
abbrev M_X10_clear : g_M := (cX10_clear, 2, RX10, (some .int), { frames := 0, cells := 0, slots := 0, locals := 0 }, 0, 0)
theorem dm_X10_clear_0 : decode M_X10_clear.1 0 = .ok (.aload_n 0, 1) := by decide +kernel
theorem dm_X10_clear_1 : decode M_X10_clear.1 1 = .ok (.getfield 37, 3) := by decide +kernel
theorem dm_X10_clear_4 : decode M_X10_clear.1 4 = .ok (.getfield 57, 3) := by decide +kernel
theorem dm_X10_clear_7 : decode M_X10_clear.1 7 = .ok (.istore_n 1, 1) := by decide +kernel
theorem dm_X10_clear_8 : decode M_X10_clear.1 8 = .ok (.aload_n 0, 1) := by decide +kernel
theorem dm_X10_clear_9 : decode M_X10_clear.1 9 = .ok (.getfield 37, 3) := by decide +kernel
theorem dm_X10_clear_12 : decode M_X10_clear.1 12 = .ok (.iconst 0, 1) := by decide +kernel
theorem dm_X10_clear_13 : decode M_X10_clear.1 13 = .ok (.putfield 57, 3) := by decide +kernel
theorem dm_X10_clear_16 : decode M_X10_clear.1 16 = .ok (.iload_n 1, 1) := by decide +kernel
theorem dm_X10_clear_17 : decode M_X10_clear.1 17 = .ok (.ireturn, 1) := by decide +kernel
def f_X10_clear (tlen : Int32) : Int32 × Int32 := (tlen, (0 : Int32))
set_option maxRecDepth 20000 in
theorem k_X10_clear {cycle : Int32} {mwheel : Int32} {mwords : Nat → Int32} {xlow : Nat → Int32} {xhigh : Nat → Int32} {xnum : Nat → Int32} {xstat : Nat → Int32} {xaddr : Nat → Int32} {xready : Nat → Int32} {xnext : Nat → Int32} {xret : Nat → Int32} {xregs : Nat → Nat → Int32} {xstore : Nat → Nat → Int32} {xhcount : Nat → Int32} {xhaddr : Nat → Nat → Int32} {xhcyc : Nat → Nat → Int32} {xhret : Nat → Nat → Int32} {xtims : Nat → Nat → Int32} {tlen : Int32} {tchars : Nat → Int32} {acount : Int32} {afk : Int32} {afl : Int32} {aat : Int32} {alabel : Int64} {ahas : Int32} {aword : Int32} {atarget : Int64} {amal : Int32} {amis : Int32} {awords : Nat → Int32} {atargets : Nat → Int64} {alines : Nat → Int32} {lcount : Int32} {lkeys : Nat → Int64} {lplaces : Nat → Int32} {kcount : Int32} {kat : Int32} {kinds : Nat → Int32} {kvals : Nat → Int64} {r_0 : Int32} {r_1 : Int32} (hres : (r_0, r_1) = f_X10_clear tlen) : K M_X10_clear yX10_clear [.ref 0] (w_C cycle mwheel mwords xlow xhigh xnum xstat xaddr xready xnext xret xregs xstore xhcount xhaddr xhcyc xhret xtims tlen tchars acount afk afl aat alabel ahas aword atarget amal amis awords atargets alines lcount lkeys lplaces kcount kat kinds kvals) (some (.int r_0)) (w_C cycle mwheel mwords xlow xhigh xnum xstat xaddr xready xnext xret xregs xstore xhcount xhaddr xhcyc xhret xtims r_1 tchars acount afk afl aat alabel ahas aword atarget amal amis awords atargets alines lcount lkeys lplaces kcount kat kinds kvals) := by
  refine K.of (lv := [(0, .ref 0)]) (by decide +kernel) rfl rfl rfl ?_
  rw [f_X10_clear] at hres
  refine G.aload_n (pc := 0) dm_X10_clear_0 rfl ?_
  refine G.getfield (pc := 1) dm_X10_clear_1 gf_X10_37 rfl rfl ?_
  refine G.getfield (pc := 4) dm_X10_clear_4 gf_X10_57 rfl rfl ?_
  refine G.istore_n (pc := 7) (lv1 := [(1, .int tlen), (0, .ref 0)]) dm_X10_clear_7 rfl rfl ?_
  refine G.aload_n (pc := 8) dm_X10_clear_8 rfl ?_
  refine G.getfield (pc := 9) dm_X10_clear_9 gf_X10_37 rfl rfl ?_
  refine G.iconst (pc := 12) (v := (0 : Int32)) dm_X10_clear_12 qi_0 ?_
  refine G.putfield (pc := 13) (ws1 := (w_C cycle mwheel mwords xlow xhigh xnum xstat xaddr xready xnext xret xregs xstore xhcount xhaddr xhcyc xhret xtims (0 : Int32) tchars acount afk afl aat alabel ahas aword atarget amal amis awords atargets alines lcount lkeys lplaces kcount kat kinds kvals)) dm_X10_clear_13 gw_X10_57 rfl (g_fit_i _) rfl rfl ?_
  refine G.iload_n (pc := 16) dm_X10_clear_16 rfl ?_
  cases hres
  exact G.ireturn (pc := 17) dm_X10_clear_17 rfl rfl rfl
abbrev M_X10_fault : g_M := (cX10_fault, 2, RX10, (some .int), { frames := 0, cells := 0, slots := 0, locals := 0 }, 0, 0)
theorem dm_X10_fault_0 : decode M_X10_fault.1 0 = .ok (.iload_n 1, 1) := by decide +kernel
theorem dm_X10_fault_1 : decode M_X10_fault.1 1 = .ok (.ifCond .ne 11, 3) := by decide +kernel
theorem dm_X10_fault_4 : decode M_X10_fault.1 4 = .ok (.aload_n 0, 1) := by decide +kernel
theorem dm_X10_fault_5 : decode M_X10_fault.1 5 = .ok (.getfield 46, 3) := by decide +kernel
theorem dm_X10_fault_8 : decode M_X10_fault.1 8 = .ok (.getfield 78, 3) := by decide +kernel
theorem dm_X10_fault_11 : decode M_X10_fault.1 11 = .ok (.ireturn, 1) := by decide +kernel
theorem dm_X10_fault_12 : decode M_X10_fault.1 12 = .ok (.iload_n 1, 1) := by decide +kernel
theorem dm_X10_fault_13 : decode M_X10_fault.1 13 = .ok (.iconst 1, 1) := by decide +kernel
theorem dm_X10_fault_14 : decode M_X10_fault.1 14 = .ok (.if_icmp .ne 13, 3) := by decide +kernel
theorem dm_X10_fault_17 : decode M_X10_fault.1 17 = .ok (.aload_n 0, 1) := by decide +kernel
theorem dm_X10_fault_18 : decode M_X10_fault.1 18 = .ok (.getfield 46, 3) := by decide +kernel
theorem dm_X10_fault_21 : decode M_X10_fault.1 21 = .ok (.getfield 97, 3) := by decide +kernel
theorem dm_X10_fault_24 : decode M_X10_fault.1 24 = .ok (.goto 4, 3) := by decide +kernel
theorem dm_X10_fault_27 : decode M_X10_fault.1 27 = .ok (.iconst 0, 1) := by decide +kernel
theorem dm_X10_fault_28 : decode M_X10_fault.1 28 = .ok (.ireturn, 1) := by decide +kernel
def f_X10_fault (what : Int32) (afk : Int32) (afl : Int32) : Int32 := (if what = 0 then afk else (if what = (1 : Int32) then afl else (0 : Int32)))
set_option maxRecDepth 20000 in
theorem k_X10_fault {what : Int32} {cycle : Int32} {mwheel : Int32} {mwords : Nat → Int32} {xlow : Nat → Int32} {xhigh : Nat → Int32} {xnum : Nat → Int32} {xstat : Nat → Int32} {xaddr : Nat → Int32} {xready : Nat → Int32} {xnext : Nat → Int32} {xret : Nat → Int32} {xregs : Nat → Nat → Int32} {xstore : Nat → Nat → Int32} {xhcount : Nat → Int32} {xhaddr : Nat → Nat → Int32} {xhcyc : Nat → Nat → Int32} {xhret : Nat → Nat → Int32} {xtims : Nat → Nat → Int32} {tlen : Int32} {tchars : Nat → Int32} {acount : Int32} {afk : Int32} {afl : Int32} {aat : Int32} {alabel : Int64} {ahas : Int32} {aword : Int32} {atarget : Int64} {amal : Int32} {amis : Int32} {awords : Nat → Int32} {atargets : Nat → Int64} {alines : Nat → Int32} {lcount : Int32} {lkeys : Nat → Int64} {lplaces : Nat → Int32} {kcount : Int32} {kat : Int32} {kinds : Nat → Int32} {kvals : Nat → Int64} {r_0 : Int32} (hres : r_0 = f_X10_fault what afk afl) : K M_X10_fault yX10_fault [.ref 0, .int what] (w_C cycle mwheel mwords xlow xhigh xnum xstat xaddr xready xnext xret xregs xstore xhcount xhaddr xhcyc xhret xtims tlen tchars acount afk afl aat alabel ahas aword atarget amal amis awords atargets alines lcount lkeys lplaces kcount kat kinds kvals) (some (.int r_0)) (w_C cycle mwheel mwords xlow xhigh xnum xstat xaddr xready xnext xret xregs xstore xhcount xhaddr xhcyc xhret xtims tlen tchars acount afk afl aat alabel ahas aword atarget amal amis awords atargets alines lcount lkeys lplaces kcount kat kinds kvals) := by
  refine K.of (lv := [(0, .ref 0), (1, .int what)]) (by decide +kernel) rfl rfl rfl ?_
  rw [f_X10_fault] at hres
  refine G.iload_n (pc := 0) dm_X10_fault_0 rfl ?_
  refine G.if_ne (pc := 1) (tgt := 12) dm_X10_fault_1 (by decide) (fun c1 => ?_) (fun c1 => ?_)
  · rw [if_neg c1] at hres
    refine G.iload_n (pc := 12) dm_X10_fault_12 rfl ?_
    refine G.iconst (pc := 13) (v := (1 : Int32)) dm_X10_fault_13 qi_1 ?_
    refine G.icmp_ne (pc := 14) (tgt := 27) dm_X10_fault_14 (by decide) (fun c14 => ?_) (fun c14 => ?_)
    · rw [if_neg c14] at hres
      refine G.iconst (pc := 27) (v := (0 : Int32)) dm_X10_fault_27 qi_0 ?_
      subst hres
      exact G.ireturn (pc := 28) dm_X10_fault_28 rfl rfl rfl
    · rw [if_pos c14] at hres
      refine G.aload_n (pc := 17) dm_X10_fault_17 rfl ?_
      refine G.getfield (pc := 18) dm_X10_fault_18 gf_X10_46 rfl rfl ?_
      refine G.getfield (pc := 21) dm_X10_fault_21 gf_X10_97 rfl rfl ?_
      refine G.goto (pc := 24) (tgt := 28) dm_X10_fault_24 (by decide) ?_
      subst hres
      exact G.ireturn (pc := 28) dm_X10_fault_28 rfl rfl rfl
  · rw [if_pos c1] at hres
    refine G.aload_n (pc := 4) dm_X10_fault_4 rfl ?_
    refine G.getfield (pc := 5) dm_X10_fault_5 gf_X10_46 rfl rfl ?_
    refine G.getfield (pc := 8) dm_X10_fault_8 gf_X10_78 rfl rfl ?_
    subst hres
    exact G.ireturn (pc := 11) dm_X10_fault_11 rfl rfl rfl
abbrev M_X10_now : g_M := (cX10_now, 1, RX10, (some .int), { frames := 0, cells := 0, slots := 0, locals := 0 }, 0, 0)
theorem dm_X10_now_0 : decode M_X10_now.1 0 = .ok (.aload_n 0, 1) := by decide +kernel
theorem dm_X10_now_1 : decode M_X10_now.1 1 = .ok (.getfield 111, 3) := by decide +kernel
theorem dm_X10_now_4 : decode M_X10_now.1 4 = .ok (.ireturn, 1) := by decide +kernel
def f_X10_now (cycle : Int32) : Int32 := cycle
set_option maxRecDepth 20000 in
theorem k_X10_now {cycle : Int32} {mwheel : Int32} {mwords : Nat → Int32} {xlow : Nat → Int32} {xhigh : Nat → Int32} {xnum : Nat → Int32} {xstat : Nat → Int32} {xaddr : Nat → Int32} {xready : Nat → Int32} {xnext : Nat → Int32} {xret : Nat → Int32} {xregs : Nat → Nat → Int32} {xstore : Nat → Nat → Int32} {xhcount : Nat → Int32} {xhaddr : Nat → Nat → Int32} {xhcyc : Nat → Nat → Int32} {xhret : Nat → Nat → Int32} {xtims : Nat → Nat → Int32} {tlen : Int32} {tchars : Nat → Int32} {acount : Int32} {afk : Int32} {afl : Int32} {aat : Int32} {alabel : Int64} {ahas : Int32} {aword : Int32} {atarget : Int64} {amal : Int32} {amis : Int32} {awords : Nat → Int32} {atargets : Nat → Int64} {alines : Nat → Int32} {lcount : Int32} {lkeys : Nat → Int64} {lplaces : Nat → Int32} {kcount : Int32} {kat : Int32} {kinds : Nat → Int32} {kvals : Nat → Int64} {r_0 : Int32} (hres : r_0 = f_X10_now cycle) : K M_X10_now yX10_now [.ref 0] (w_C cycle mwheel mwords xlow xhigh xnum xstat xaddr xready xnext xret xregs xstore xhcount xhaddr xhcyc xhret xtims tlen tchars acount afk afl aat alabel ahas aword atarget amal amis awords atargets alines lcount lkeys lplaces kcount kat kinds kvals) (some (.int r_0)) (w_C cycle mwheel mwords xlow xhigh xnum xstat xaddr xready xnext xret xregs xstore xhcount xhaddr xhcyc xhret xtims tlen tchars acount afk afl aat alabel ahas aword atarget amal amis awords atargets alines lcount lkeys lplaces kcount kat kinds kvals) := by
  refine K.of (lv := [(0, .ref 0)]) (by decide +kernel) rfl rfl rfl ?_
  rw [f_X10_now] at hres
  refine G.aload_n (pc := 0) dm_X10_now_0 rfl ?_
  refine G.getfield (pc := 1) dm_X10_now_1 gf_X10_111 rfl rfl ?_
  subst hres
  exact G.ireturn (pc := 4) dm_X10_now_4 rfl rfl rfl
abbrev M_X10_shared : g_M := (cX10_shared, 2, RX10, (some .int), { frames := 0, cells := 0, slots := 0, locals := 0 }, 0, 0)
theorem dm_X10_shared_0 : decode M_X10_shared.1 0 = .ok (.iload_n 1, 1) := by decide +kernel
theorem dm_X10_shared_1 : decode M_X10_shared.1 1 = .ok (.ifCond .lt 21, 3) := by decide +kernel
theorem dm_X10_shared_4 : decode M_X10_shared.1 4 = .ok (.iload_n 1, 1) := by decide +kernel
theorem dm_X10_shared_5 : decode M_X10_shared.1 5 = .ok (.bipush 64, 2) := by decide +kernel
theorem dm_X10_shared_7 : decode M_X10_shared.1 7 = .ok (.if_icmp .ge 15, 3) := by decide +kernel
theorem dm_X10_shared_10 : decode M_X10_shared.1 10 = .ok (.aload_n 0, 1) := by decide +kernel
theorem dm_X10_shared_11 : decode M_X10_shared.1 11 = .ok (.getfield 23, 3) := by decide +kernel
theorem dm_X10_shared_14 : decode M_X10_shared.1 14 = .ok (.getfield 100, 3) := by decide +kernel
theorem dm_X10_shared_17 : decode M_X10_shared.1 17 = .ok (.iload_n 1, 1) := by decide +kernel
theorem dm_X10_shared_18 : decode M_X10_shared.1 18 = .ok (.iaload, 1) := by decide +kernel
theorem dm_X10_shared_19 : decode M_X10_shared.1 19 = .ok (.goto 4, 3) := by decide +kernel
theorem dm_X10_shared_22 : decode M_X10_shared.1 22 = .ok (.iconst 0, 1) := by decide +kernel
theorem dm_X10_shared_23 : decode M_X10_shared.1 23 = .ok (.ireturn, 1) := by decide +kernel
def f_X10_shared (word : Int32) (mwords : Nat → Int32) : Int32 := (if word < 0 then (0 : Int32) else (if (64 : Int32) ≤ word then (0 : Int32) else (mwords (Int32.toNatClampNeg word))))
set_option maxRecDepth 20000 in
theorem k_X10_shared {word : Int32} {cycle : Int32} {mwheel : Int32} {mwords : Nat → Int32} {xlow : Nat → Int32} {xhigh : Nat → Int32} {xnum : Nat → Int32} {xstat : Nat → Int32} {xaddr : Nat → Int32} {xready : Nat → Int32} {xnext : Nat → Int32} {xret : Nat → Int32} {xregs : Nat → Nat → Int32} {xstore : Nat → Nat → Int32} {xhcount : Nat → Int32} {xhaddr : Nat → Nat → Int32} {xhcyc : Nat → Nat → Int32} {xhret : Nat → Nat → Int32} {xtims : Nat → Nat → Int32} {tlen : Int32} {tchars : Nat → Int32} {acount : Int32} {afk : Int32} {afl : Int32} {aat : Int32} {alabel : Int64} {ahas : Int32} {aword : Int32} {atarget : Int64} {amal : Int32} {amis : Int32} {awords : Nat → Int32} {atargets : Nat → Int64} {alines : Nat → Int32} {lcount : Int32} {lkeys : Nat → Int64} {lplaces : Nat → Int32} {kcount : Int32} {kat : Int32} {kinds : Nat → Int32} {kvals : Nat → Int64} {r_0 : Int32} (hres : r_0 = f_X10_shared word mwords) : K M_X10_shared yX10_shared [.ref 0, .int word] (w_C cycle mwheel mwords xlow xhigh xnum xstat xaddr xready xnext xret xregs xstore xhcount xhaddr xhcyc xhret xtims tlen tchars acount afk afl aat alabel ahas aword atarget amal amis awords atargets alines lcount lkeys lplaces kcount kat kinds kvals) (some (.int r_0)) (w_C cycle mwheel mwords xlow xhigh xnum xstat xaddr xready xnext xret xregs xstore xhcount xhaddr xhcyc xhret xtims tlen tchars acount afk afl aat alabel ahas aword atarget amal amis awords atargets alines lcount lkeys lplaces kcount kat kinds kvals) := by
  refine K.of (lv := [(0, .ref 0), (1, .int word)]) (by decide +kernel) rfl rfl rfl ?_
  rw [f_X10_shared] at hres
  refine G.iload_n (pc := 0) dm_X10_shared_0 rfl ?_
  refine G.if_lt (pc := 1) (tgt := 22) dm_X10_shared_1 (by decide) (fun c1 => ?_) (fun c1 => ?_)
  · rw [if_pos c1] at hres
    refine G.iconst (pc := 22) (v := (0 : Int32)) dm_X10_shared_22 qi_0 ?_
    subst hres
    exact G.ireturn (pc := 23) dm_X10_shared_23 rfl rfl rfl
  · rw [if_neg c1] at hres
    refine G.iload_n (pc := 4) dm_X10_shared_4 rfl ?_
    refine G.bipush (pc := 5) (v := (64 : Int32)) dm_X10_shared_5 qb_64 ?_
    refine G.icmp_ge (pc := 7) (tgt := 22) dm_X10_shared_7 (by decide) (fun c7 => ?_) (fun c7 => ?_)
    · rw [if_pos c7] at hres
      refine G.iconst (pc := 22) (v := (0 : Int32)) dm_X10_shared_22 qi_0 ?_
      subst hres
      exact G.ireturn (pc := 23) dm_X10_shared_23 rfl rfl rfl
    · rw [if_neg c7] at hres
      refine G.aload_n (pc := 10) dm_X10_shared_10 rfl ?_
      refine G.getfield (pc := 11) dm_X10_shared_11 gf_X10_23 rfl rfl ?_
      refine G.getfield (pc := 14) dm_X10_shared_14 gf_X10_100 rfl rfl ?_
      refine G.iload_n (pc := 17) dm_X10_shared_17 rfl ?_
      refine G.iaload (pc := 18) dm_X10_shared_18 rfl (by have h := q_g3 (n := 64) c1 (Int32.not_le.mp c7) (by decide); exact q_in h.1 h.2) ?_
      refine G.goto (pc := 19) (tgt := 23) dm_X10_shared_19 (by decide) ?_
      subst hres
      exact G.ireturn (pc := 23) dm_X10_shared_23 rfl rfl rfl
abbrev M_X10_peek : g_M := (cX10_peek, 3, RX10, (some .int), { frames := 2, cells := 0, slots := 0, locals := 41 }, 0, 0)
theorem dm_X10_peek_0 : decode M_X10_peek.1 0 = .ok (.iload_n 1, 1) := by decide +kernel
theorem dm_X10_peek_1 : decode M_X10_peek.1 1 = .ok (.iload_n 2, 1) := by decide +kernel
theorem dm_X10_peek_2 : decode M_X10_peek.1 2 = .ok (.invokestatic 68, 3) := by decide +kernel
theorem dm_X10_peek_5 : decode M_X10_peek.1 5 = .ok (.ifCond .eq 17, 3) := by decide +kernel
theorem dm_X10_peek_8 : decode M_X10_peek.1 8 = .ok (.aload_n 0, 1) := by decide +kernel
theorem dm_X10_peek_9 : decode M_X10_peek.1 9 = .ok (.getfield 29, 3) := by decide +kernel
theorem dm_X10_peek_12 : decode M_X10_peek.1 12 = .ok (.iload_n 1, 1) := by decide +kernel
theorem dm_X10_peek_13 : decode M_X10_peek.1 13 = .ok (.aaload, 1) := by decide +kernel
theorem dm_X10_peek_14 : decode M_X10_peek.1 14 = .ok (.getfield 85, 3) := by decide +kernel
theorem dm_X10_peek_17 : decode M_X10_peek.1 17 = .ok (.iload_n 2, 1) := by decide +kernel
theorem dm_X10_peek_18 : decode M_X10_peek.1 18 = .ok (.iaload, 1) := by decide +kernel
theorem dm_X10_peek_19 : decode M_X10_peek.1 19 = .ok (.goto 4, 3) := by decide +kernel
theorem dm_X10_peek_22 : decode M_X10_peek.1 22 = .ok (.iconst 0, 1) := by decide +kernel
theorem dm_X10_peek_23 : decode M_X10_peek.1 23 = .ok (.ireturn, 1) := by decide +kernel
theorem gc_X10_peek_68 : g_cs M_X10_peek 68 M_X10_isStoreWord yX10_isStoreWord 2 := ⟨tw191, tw192, tw2, tw193, ⟨rfl, rfl, rfl, rfl⟩, gd_X10_isStoreWord, ⟨by decide, by decide⟩⟩
def f_X10_peek_c2 (thread : Int32) (word : Int32) (xstore : Nat → Nat → Int32) (z1_0 : Int32) : Int32 := (if z1_0 = 0 then (0 : Int32) else ((xstore (Int32.toNatClampNeg thread)) (Int32.toNatClampNeg word)))
def f_X10_peek (thread : Int32) (word : Int32) (xstore : Nat → Nat → Int32) : Int32 := (f_X10_peek_c2 thread word xstore (f_X10_isStoreWord thread word))
set_option maxRecDepth 20000 in
theorem k_X10_peek {thread : Int32} {word : Int32} {cycle : Int32} {mwheel : Int32} {mwords : Nat → Int32} {xlow : Nat → Int32} {xhigh : Nat → Int32} {xnum : Nat → Int32} {xstat : Nat → Int32} {xaddr : Nat → Int32} {xready : Nat → Int32} {xnext : Nat → Int32} {xret : Nat → Int32} {xregs : Nat → Nat → Int32} {xstore : Nat → Nat → Int32} {xhcount : Nat → Int32} {xhaddr : Nat → Nat → Int32} {xhcyc : Nat → Nat → Int32} {xhret : Nat → Nat → Int32} {xtims : Nat → Nat → Int32} {tlen : Int32} {tchars : Nat → Int32} {acount : Int32} {afk : Int32} {afl : Int32} {aat : Int32} {alabel : Int64} {ahas : Int32} {aword : Int32} {atarget : Int64} {amal : Int32} {amis : Int32} {awords : Nat → Int32} {atargets : Nat → Int64} {alines : Nat → Int32} {lcount : Int32} {lkeys : Nat → Int64} {lplaces : Nat → Int32} {kcount : Int32} {kat : Int32} {kinds : Nat → Int32} {kvals : Nat → Int64} {r_0 : Int32} (hres : r_0 = f_X10_peek thread word xstore) : K M_X10_peek yX10_peek [.ref 0, .int thread, .int word] (w_C cycle mwheel mwords xlow xhigh xnum xstat xaddr xready xnext xret xregs xstore xhcount xhaddr xhcyc xhret xtims tlen tchars acount afk afl aat alabel ahas aword atarget amal amis awords atargets alines lcount lkeys lplaces kcount kat kinds kvals) (some (.int r_0)) (w_C cycle mwheel mwords xlow xhigh xnum xstat xaddr xready xnext xret xregs xstore xhcount xhaddr xhcyc xhret xtims tlen tchars acount afk afl aat alabel ahas aword atarget amal amis awords atargets alines lcount lkeys lplaces kcount kat kinds kvals) := by
  refine K.of (lv := [(0, .ref 0), (1, .int thread), (2, .int word)]) (by decide +kernel) rfl rfl rfl ?_
  rw [f_X10_peek] at hres
  refine G.iload_n (pc := 0) dm_X10_peek_0 rfl ?_
  refine G.iload_n (pc := 1) dm_X10_peek_1 rfl ?_
  obtain ⟨z1_0, hz1⟩ := g_ex1 (f_X10_isStoreWord thread word)
  refine G.callS (pc := 2) (rest := []) (st1 := [.int z1_0]) (ws1 := (w_C cycle mwheel mwords xlow xhigh xnum xstat xaddr xready xnext xret xregs xstore xhcount xhaddr xhcyc xhret xtims tlen tchars acount afk afl aat alabel ahas aword atarget amal amis awords atargets alines lcount lkeys lplaces kcount kat kinds kvals)) [] dm_X10_peek_2 gc_X10_peek_68 (k_X10_isStoreWord (thread := thread) (word := word) hz1) rfl rfl rfl rfl rfl rfl rfl rfl ?_
  have hsw := a_isSW hz1
  replace hres : r_0 = f_X10_peek_c2 thread word xstore z1_0 := hres.trans (by rw [← hz1])
  rw [f_X10_peek_c2] at hres
  refine G.if_eq (pc := 5) (tgt := 22) dm_X10_peek_5 (by decide) (fun c5 => ?_) (fun c5 => ?_)
  · rw [if_pos c5] at hres
    refine G.iconst (pc := 22) (v := (0 : Int32)) dm_X10_peek_22 qi_0 ?_
    subst hres
    exact G.ireturn (pc := 23) dm_X10_peek_23 rfl rfl rfl
  · rw [if_neg c5] at hres
    have hh := hsw c5
    have ht4 := q_t hh.1
    have hw9 : vp_in word 128 := q_in hh.2.1 hh.2.2
    refine G.aload_n (pc := 8) dm_X10_peek_8 rfl ?_
    refine G.getfield (pc := 9) dm_X10_peek_9 gf_X10_29 rfl rfl ?_
    refine G.iload_n (pc := 12) dm_X10_peek_12 rfl ?_
    rcases g_four ht4 with eT | eT | eT | eT
    · try rw [eT] at hres
      refine G.aaload (pc := 13) dm_X10_peek_13 rfl ht4 (by rw [eT]) ?_
      refine G.getfield (pc := 14) dm_X10_peek_14 gf_X10_85 rfl rfl ?_
      refine G.iload_n (pc := 17) dm_X10_peek_17 rfl ?_
      refine G.iaload (pc := 18) dm_X10_peek_18 rfl hw9 ?_
      refine G.goto (pc := 19) (tgt := 23) dm_X10_peek_19 (by decide) ?_
      subst hres
      exact G.ireturn (pc := 23) dm_X10_peek_23 rfl rfl rfl
    · try rw [eT] at hres
      refine G.aaload (pc := 13) dm_X10_peek_13 rfl ht4 (by rw [eT]) ?_
      refine G.getfield (pc := 14) dm_X10_peek_14 gf_X10_85 rfl rfl ?_
      refine G.iload_n (pc := 17) dm_X10_peek_17 rfl ?_
      refine G.iaload (pc := 18) dm_X10_peek_18 rfl hw9 ?_
      refine G.goto (pc := 19) (tgt := 23) dm_X10_peek_19 (by decide) ?_
      subst hres
      exact G.ireturn (pc := 23) dm_X10_peek_23 rfl rfl rfl
    · try rw [eT] at hres
      refine G.aaload (pc := 13) dm_X10_peek_13 rfl ht4 (by rw [eT]) ?_
      refine G.getfield (pc := 14) dm_X10_peek_14 gf_X10_85 rfl rfl ?_
      refine G.iload_n (pc := 17) dm_X10_peek_17 rfl ?_
      refine G.iaload (pc := 18) dm_X10_peek_18 rfl hw9 ?_
      refine G.goto (pc := 19) (tgt := 23) dm_X10_peek_19 (by decide) ?_
      subst hres
      exact G.ireturn (pc := 23) dm_X10_peek_23 rfl rfl rfl
    · try rw [eT] at hres
      refine G.aaload (pc := 13) dm_X10_peek_13 rfl ht4 (by rw [eT]) ?_
      refine G.getfield (pc := 14) dm_X10_peek_14 gf_X10_85 rfl rfl ?_
      refine G.iload_n (pc := 17) dm_X10_peek_17 rfl ?_
      refine G.iaload (pc := 18) dm_X10_peek_18 rfl hw9 ?_
      refine G.goto (pc := 19) (tgt := 23) dm_X10_peek_19 (by decide) ?_
      subst hres
      exact G.ireturn (pc := 23) dm_X10_peek_23 rfl rfl rfl
abbrev M_X10_poke : g_M := (cX10_poke, 4, RX10, (some .boolean), { frames := 2, cells := 0, slots := 0, locals := 41 }, 0, 0)
theorem dm_X10_poke_0 : decode M_X10_poke.1 0 = .ok (.iload_n 1, 1) := by decide +kernel
theorem dm_X10_poke_1 : decode M_X10_poke.1 1 = .ok (.iload_n 2, 1) := by decide +kernel
theorem dm_X10_poke_2 : decode M_X10_poke.1 2 = .ok (.invokestatic 68, 3) := by decide +kernel
theorem dm_X10_poke_5 : decode M_X10_poke.1 5 = .ok (.ifCond .ne 5, 3) := by decide +kernel
theorem dm_X10_poke_8 : decode M_X10_poke.1 8 = .ok (.iconst 0, 1) := by decide +kernel
theorem dm_X10_poke_9 : decode M_X10_poke.1 9 = .ok (.ireturn, 1) := by decide +kernel
theorem dm_X10_poke_10 : decode M_X10_poke.1 10 = .ok (.aload_n 0, 1) := by decide +kernel
theorem dm_X10_poke_11 : decode M_X10_poke.1 11 = .ok (.getfield 29, 3) := by decide +kernel
theorem dm_X10_poke_14 : decode M_X10_poke.1 14 = .ok (.iload_n 1, 1) := by decide +kernel
theorem dm_X10_poke_15 : decode M_X10_poke.1 15 = .ok (.aaload, 1) := by decide +kernel
theorem dm_X10_poke_16 : decode M_X10_poke.1 16 = .ok (.getfield 85, 3) := by decide +kernel
theorem dm_X10_poke_19 : decode M_X10_poke.1 19 = .ok (.iload_n 2, 1) := by decide +kernel
theorem dm_X10_poke_20 : decode M_X10_poke.1 20 = .ok (.iload_n 3, 1) := by decide +kernel
theorem dm_X10_poke_21 : decode M_X10_poke.1 21 = .ok (.iastore, 1) := by decide +kernel
theorem dm_X10_poke_22 : decode M_X10_poke.1 22 = .ok (.iconst 1, 1) := by decide +kernel
theorem dm_X10_poke_23 : decode M_X10_poke.1 23 = .ok (.ireturn, 1) := by decide +kernel
theorem gc_X10_poke_68 : g_cs M_X10_poke 68 M_X10_isStoreWord yX10_isStoreWord 2 := ⟨tw191, tw192, tw2, tw193, ⟨rfl, rfl, rfl, rfl⟩, gd_X10_isStoreWord, ⟨by decide, by decide⟩⟩
def f_X10_poke_c2 (thread : Int32) (word : Int32) (value : Int32) (xstore : Nat → Nat → Int32) (z1_0 : Int32) : Int32 × (Nat → Nat → Int32) := (if z1_0 = 0 then ((0 : Int32), xstore) else ((1 : Int32), (g_up xstore (Int32.toNatClampNeg thread) (upd (xstore (Int32.toNatClampNeg thread)) (Int32.toNatClampNeg word) value))))
def f_X10_poke (thread : Int32) (word : Int32) (value : Int32) (xstore : Nat → Nat → Int32) : Int32 × (Nat → Nat → Int32) := (f_X10_poke_c2 thread word value xstore (f_X10_isStoreWord thread word))
set_option maxRecDepth 20000 in
theorem k_X10_poke {thread : Int32} {word : Int32} {value : Int32} {cycle : Int32} {mwheel : Int32} {mwords : Nat → Int32} {xlow : Nat → Int32} {xhigh : Nat → Int32} {xnum : Nat → Int32} {xstat : Nat → Int32} {xaddr : Nat → Int32} {xready : Nat → Int32} {xnext : Nat → Int32} {xret : Nat → Int32} {xregs : Nat → Nat → Int32} {xstore : Nat → Nat → Int32} {xhcount : Nat → Int32} {xhaddr : Nat → Nat → Int32} {xhcyc : Nat → Nat → Int32} {xhret : Nat → Nat → Int32} {xtims : Nat → Nat → Int32} {tlen : Int32} {tchars : Nat → Int32} {acount : Int32} {afk : Int32} {afl : Int32} {aat : Int32} {alabel : Int64} {ahas : Int32} {aword : Int32} {atarget : Int64} {amal : Int32} {amis : Int32} {awords : Nat → Int32} {atargets : Nat → Int64} {alines : Nat → Int32} {lcount : Int32} {lkeys : Nat → Int64} {lplaces : Nat → Int32} {kcount : Int32} {kat : Int32} {kinds : Nat → Int32} {kvals : Nat → Int64} {r_0 : Int32} {r_1 : (Nat → Nat → Int32)} (hres : (r_0, r_1) = f_X10_poke thread word value xstore) : K M_X10_poke yX10_poke [.ref 0, .int thread, .int word, .int value] (w_C cycle mwheel mwords xlow xhigh xnum xstat xaddr xready xnext xret xregs xstore xhcount xhaddr xhcyc xhret xtims tlen tchars acount afk afl aat alabel ahas aword atarget amal amis awords atargets alines lcount lkeys lplaces kcount kat kinds kvals) (some (.int r_0)) (w_C cycle mwheel mwords xlow xhigh xnum xstat xaddr xready xnext xret xregs r_1 xhcount xhaddr xhcyc xhret xtims tlen tchars acount afk afl aat alabel ahas aword atarget amal amis awords atargets alines lcount lkeys lplaces kcount kat kinds kvals) := by
  refine K.of (lv := [(0, .ref 0), (1, .int thread), (2, .int word), (3, .int value)]) (by decide +kernel) rfl rfl rfl ?_
  rw [f_X10_poke] at hres
  refine G.iload_n (pc := 0) dm_X10_poke_0 rfl ?_
  refine G.iload_n (pc := 1) dm_X10_poke_1 rfl ?_
  obtain ⟨z1_0, hz1⟩ := g_ex1 (f_X10_isStoreWord thread word)
  refine G.callS (pc := 2) (rest := []) (st1 := [.int z1_0]) (ws1 := (w_C cycle mwheel mwords xlow xhigh xnum xstat xaddr xready xnext xret xregs xstore xhcount xhaddr xhcyc xhret xtims tlen tchars acount afk afl aat alabel ahas aword atarget amal amis awords atargets alines lcount lkeys lplaces kcount kat kinds kvals)) [] dm_X10_poke_2 gc_X10_poke_68 (k_X10_isStoreWord (thread := thread) (word := word) hz1) rfl rfl rfl rfl rfl rfl rfl rfl ?_
  have hsw := a_isSW hz1
  replace hres : (r_0, r_1) = f_X10_poke_c2 thread word value xstore z1_0 := hres.trans (by rw [← hz1])
  rw [f_X10_poke_c2] at hres
  refine G.if_ne (pc := 5) (tgt := 10) dm_X10_poke_5 (by decide) (fun c5 => ?_) (fun c5 => ?_)
  · rw [if_neg c5] at hres
    have hh := hsw c5
    have ht4 := q_t hh.1
    have hw9 : vp_in word 128 := q_in hh.2.1 hh.2.2
    refine G.aload_n (pc := 10) dm_X10_poke_10 rfl ?_
    refine G.getfield (pc := 11) dm_X10_poke_11 gf_X10_29 rfl rfl ?_
    refine G.iload_n (pc := 14) dm_X10_poke_14 rfl ?_
    rcases g_four ht4 with eT | eT | eT | eT
    · try rw [eT] at hres
      refine G.aaload (pc := 15) dm_X10_poke_15 rfl ht4 (by rw [eT]) ?_
      refine G.getfield (pc := 16) dm_X10_poke_16 gf_X10_85 rfl rfl ?_
      refine G.iload_n (pc := 19) dm_X10_poke_19 rfl ?_
      refine G.iload_n (pc := 20) dm_X10_poke_20 rfl ?_
      refine G.iastore (pc := 21) (ws1 := (w_C cycle mwheel mwords xlow xhigh xnum xstat xaddr xready xnext xret xregs (g_up xstore 0 (upd (xstore 0) (Int32.toNatClampNeg word) value)) xhcount xhaddr xhcyc xhret xtims tlen tchars acount afk afl aat alabel ahas aword atarget amal amis awords atargets alines lcount lkeys lplaces kcount kat kinds kvals)) dm_X10_poke_21 rfl hw9 rfl ?_
      refine G.iconst (pc := 22) (v := (1 : Int32)) dm_X10_poke_22 qi_1 ?_
      cases hres
      exact G.zreturn (pc := 23) dm_X10_poke_23 rfl (by decide) rfl rfl
    · try rw [eT] at hres
      refine G.aaload (pc := 15) dm_X10_poke_15 rfl ht4 (by rw [eT]) ?_
      refine G.getfield (pc := 16) dm_X10_poke_16 gf_X10_85 rfl rfl ?_
      refine G.iload_n (pc := 19) dm_X10_poke_19 rfl ?_
      refine G.iload_n (pc := 20) dm_X10_poke_20 rfl ?_
      refine G.iastore (pc := 21) (ws1 := (w_C cycle mwheel mwords xlow xhigh xnum xstat xaddr xready xnext xret xregs (g_up xstore 1 (upd (xstore 1) (Int32.toNatClampNeg word) value)) xhcount xhaddr xhcyc xhret xtims tlen tchars acount afk afl aat alabel ahas aword atarget amal amis awords atargets alines lcount lkeys lplaces kcount kat kinds kvals)) dm_X10_poke_21 rfl hw9 rfl ?_
      refine G.iconst (pc := 22) (v := (1 : Int32)) dm_X10_poke_22 qi_1 ?_
      cases hres
      exact G.zreturn (pc := 23) dm_X10_poke_23 rfl (by decide) rfl rfl
    · try rw [eT] at hres
      refine G.aaload (pc := 15) dm_X10_poke_15 rfl ht4 (by rw [eT]) ?_
      refine G.getfield (pc := 16) dm_X10_poke_16 gf_X10_85 rfl rfl ?_
      refine G.iload_n (pc := 19) dm_X10_poke_19 rfl ?_
      refine G.iload_n (pc := 20) dm_X10_poke_20 rfl ?_
      refine G.iastore (pc := 21) (ws1 := (w_C cycle mwheel mwords xlow xhigh xnum xstat xaddr xready xnext xret xregs (g_up xstore 2 (upd (xstore 2) (Int32.toNatClampNeg word) value)) xhcount xhaddr xhcyc xhret xtims tlen tchars acount afk afl aat alabel ahas aword atarget amal amis awords atargets alines lcount lkeys lplaces kcount kat kinds kvals)) dm_X10_poke_21 rfl hw9 rfl ?_
      refine G.iconst (pc := 22) (v := (1 : Int32)) dm_X10_poke_22 qi_1 ?_
      cases hres
      exact G.zreturn (pc := 23) dm_X10_poke_23 rfl (by decide) rfl rfl
    · try rw [eT] at hres
      refine G.aaload (pc := 15) dm_X10_poke_15 rfl ht4 (by rw [eT]) ?_
      refine G.getfield (pc := 16) dm_X10_poke_16 gf_X10_85 rfl rfl ?_
      refine G.iload_n (pc := 19) dm_X10_poke_19 rfl ?_
      refine G.iload_n (pc := 20) dm_X10_poke_20 rfl ?_
      refine G.iastore (pc := 21) (ws1 := (w_C cycle mwheel mwords xlow xhigh xnum xstat xaddr xready xnext xret xregs (g_up xstore 3 (upd (xstore 3) (Int32.toNatClampNeg word) value)) xhcount xhaddr xhcyc xhret xtims tlen tchars acount afk afl aat alabel ahas aword atarget amal amis awords atargets alines lcount lkeys lplaces kcount kat kinds kvals)) dm_X10_poke_21 rfl hw9 rfl ?_
      refine G.iconst (pc := 22) (v := (1 : Int32)) dm_X10_poke_22 qi_1 ?_
      cases hres
      exact G.zreturn (pc := 23) dm_X10_poke_23 rfl (by decide) rfl rfl
  · rw [if_pos c5] at hres
    refine G.iconst (pc := 8) (v := (0 : Int32)) dm_X10_poke_8 qi_0 ?_
    cases hres
    exact G.zreturn (pc := 9) dm_X10_poke_9 rfl (by decide) rfl rfl
abbrev M_X10_part : g_M := (cX10_part, 4, RX10, (some .boolean), { frames := 1, cells := 0, slots := 0, locals := 20 }, 0, 0)
theorem dm_X10_part_0 : decode M_X10_part.1 0 = .ok (.iload_n 1, 1) := by decide +kernel
theorem dm_X10_part_1 : decode M_X10_part.1 1 = .ok (.invokestatic 101, 3) := by decide +kernel
theorem dm_X10_part_4 : decode M_X10_part.1 4 = .ok (.ifCond .eq 18, 3) := by decide +kernel
theorem dm_X10_part_7 : decode M_X10_part.1 7 = .ok (.iload_n 2, 1) := by decide +kernel
theorem dm_X10_part_8 : decode M_X10_part.1 8 = .ok (.ifCond .lt 14, 3) := by decide +kernel
theorem dm_X10_part_11 : decode M_X10_part.1 11 = .ok (.iload_n 2, 1) := by decide +kernel
theorem dm_X10_part_12 : decode M_X10_part.1 12 = .ok (.iload_n 3, 1) := by decide +kernel
theorem dm_X10_part_13 : decode M_X10_part.1 13 = .ok (.if_icmp .gt 9, 3) := by decide +kernel
theorem dm_X10_part_16 : decode M_X10_part.1 16 = .ok (.iload_n 3, 1) := by decide +kernel
theorem dm_X10_part_17 : decode M_X10_part.1 17 = .ok (.bipush 64, 2) := by decide +kernel
theorem dm_X10_part_19 : decode M_X10_part.1 19 = .ok (.if_icmp .le 5, 3) := by decide +kernel
theorem dm_X10_part_22 : decode M_X10_part.1 22 = .ok (.iconst 0, 1) := by decide +kernel
theorem dm_X10_part_23 : decode M_X10_part.1 23 = .ok (.ireturn, 1) := by decide +kernel
theorem dm_X10_part_24 : decode M_X10_part.1 24 = .ok (.aload_n 0, 1) := by decide +kernel
theorem dm_X10_part_25 : decode M_X10_part.1 25 = .ok (.getfield 29, 3) := by decide +kernel
theorem dm_X10_part_28 : decode M_X10_part.1 28 = .ok (.iload_n 1, 1) := by decide +kernel
theorem dm_X10_part_29 : decode M_X10_part.1 29 = .ok (.aaload, 1) := by decide +kernel
theorem dm_X10_part_30 : decode M_X10_part.1 30 = .ok (.iload_n 2, 1) := by decide +kernel
theorem dm_X10_part_31 : decode M_X10_part.1 31 = .ok (.putfield 105, 3) := by decide +kernel
theorem dm_X10_part_34 : decode M_X10_part.1 34 = .ok (.aload_n 0, 1) := by decide +kernel
theorem dm_X10_part_35 : decode M_X10_part.1 35 = .ok (.getfield 29, 3) := by decide +kernel
theorem dm_X10_part_38 : decode M_X10_part.1 38 = .ok (.iload_n 1, 1) := by decide +kernel
theorem dm_X10_part_39 : decode M_X10_part.1 39 = .ok (.aaload, 1) := by decide +kernel
theorem dm_X10_part_40 : decode M_X10_part.1 40 = .ok (.iload_n 3, 1) := by decide +kernel
theorem dm_X10_part_41 : decode M_X10_part.1 41 = .ok (.putfield 108, 3) := by decide +kernel
theorem dm_X10_part_44 : decode M_X10_part.1 44 = .ok (.iconst 1, 1) := by decide +kernel
theorem dm_X10_part_45 : decode M_X10_part.1 45 = .ok (.ireturn, 1) := by decide +kernel
theorem gc_X10_part_101 : g_cs M_X10_part 101 M_X10_isThread yX10_isThread 1 := ⟨tw194, tw195, tw2, tw196, ⟨rfl, rfl, rfl, rfl⟩, gd_X10_isThread, ⟨by decide, by decide⟩⟩
def f_X10_part_c1 (thread : Int32) (low : Int32) (high : Int32) (xlow : Nat → Int32) (xhigh : Nat → Int32) (z1_0 : Int32) : Int32 × (Nat → Int32) × (Nat → Int32) := (if z1_0 = 0 then ((0 : Int32), xlow, xhigh) else (if low < 0 then ((0 : Int32), xlow, xhigh) else (if high < low then ((0 : Int32), xlow, xhigh) else (if high ≤ (64 : Int32) then ((1 : Int32), (g_up xlow (Int32.toNatClampNeg thread) low), (g_up xhigh (Int32.toNatClampNeg thread) high)) else ((0 : Int32), xlow, xhigh)))))
def f_X10_part (thread : Int32) (low : Int32) (high : Int32) (xlow : Nat → Int32) (xhigh : Nat → Int32) : Int32 × (Nat → Int32) × (Nat → Int32) := (f_X10_part_c1 thread low high xlow xhigh (f_X10_isThread thread))
set_option maxRecDepth 20000 in
theorem k_X10_part {thread : Int32} {low : Int32} {high : Int32} {cycle : Int32} {mwheel : Int32} {mwords : Nat → Int32} {xlow : Nat → Int32} {xhigh : Nat → Int32} {xnum : Nat → Int32} {xstat : Nat → Int32} {xaddr : Nat → Int32} {xready : Nat → Int32} {xnext : Nat → Int32} {xret : Nat → Int32} {xregs : Nat → Nat → Int32} {xstore : Nat → Nat → Int32} {xhcount : Nat → Int32} {xhaddr : Nat → Nat → Int32} {xhcyc : Nat → Nat → Int32} {xhret : Nat → Nat → Int32} {xtims : Nat → Nat → Int32} {tlen : Int32} {tchars : Nat → Int32} {acount : Int32} {afk : Int32} {afl : Int32} {aat : Int32} {alabel : Int64} {ahas : Int32} {aword : Int32} {atarget : Int64} {amal : Int32} {amis : Int32} {awords : Nat → Int32} {atargets : Nat → Int64} {alines : Nat → Int32} {lcount : Int32} {lkeys : Nat → Int64} {lplaces : Nat → Int32} {kcount : Int32} {kat : Int32} {kinds : Nat → Int32} {kvals : Nat → Int64} {r_0 : Int32} {r_1 : (Nat → Int32)} {r_2 : (Nat → Int32)} (hres : (r_0, r_1, r_2) = f_X10_part thread low high xlow xhigh) : K M_X10_part yX10_part [.ref 0, .int thread, .int low, .int high] (w_C cycle mwheel mwords xlow xhigh xnum xstat xaddr xready xnext xret xregs xstore xhcount xhaddr xhcyc xhret xtims tlen tchars acount afk afl aat alabel ahas aword atarget amal amis awords atargets alines lcount lkeys lplaces kcount kat kinds kvals) (some (.int r_0)) (w_C cycle mwheel mwords r_1 r_2 xnum xstat xaddr xready xnext xret xregs xstore xhcount xhaddr xhcyc xhret xtims tlen tchars acount afk afl aat alabel ahas aword atarget amal amis awords atargets alines lcount lkeys lplaces kcount kat kinds kvals) := by
  refine K.of (lv := [(0, .ref 0), (1, .int thread), (2, .int low), (3, .int high)]) (by decide +kernel) rfl rfl rfl ?_
  rw [f_X10_part] at hres
  refine G.iload_n (pc := 0) dm_X10_part_0 rfl ?_
  obtain ⟨z1_0, hz1⟩ := g_ex1 (f_X10_isThread thread)
  refine G.callS (pc := 1) (rest := []) (st1 := [.int z1_0]) (ws1 := (w_C cycle mwheel mwords xlow xhigh xnum xstat xaddr xready xnext xret xregs xstore xhcount xhaddr xhcyc xhret xtims tlen tchars acount afk afl aat alabel ahas aword atarget amal amis awords atargets alines lcount lkeys lplaces kcount kat kinds kvals)) [] dm_X10_part_1 gc_X10_part_101 (k_X10_isThread (thread := thread) hz1) rfl rfl rfl rfl rfl rfl rfl rfl ?_
  have hth := a_isThread hz1
  replace hres : (r_0, r_1, r_2) = f_X10_part_c1 thread low high xlow xhigh z1_0 := hres.trans (by rw [← hz1])
  rw [f_X10_part_c1] at hres
  refine G.if_eq (pc := 4) (tgt := 22) dm_X10_part_4 (by decide) (fun c4 => ?_) (fun c4 => ?_)
  · rw [if_pos c4] at hres
    refine G.iconst (pc := 22) (v := (0 : Int32)) dm_X10_part_22 qi_0 ?_
    cases hres
    exact G.zreturn (pc := 23) dm_X10_part_23 rfl (by decide) rfl rfl
  · rw [if_neg c4] at hres
    refine G.iload_n (pc := 7) dm_X10_part_7 rfl ?_
    refine G.if_lt (pc := 8) (tgt := 22) dm_X10_part_8 (by decide) (fun c8 => ?_) (fun c8 => ?_)
    · rw [if_pos c8] at hres
      refine G.iconst (pc := 22) (v := (0 : Int32)) dm_X10_part_22 qi_0 ?_
      cases hres
      exact G.zreturn (pc := 23) dm_X10_part_23 rfl (by decide) rfl rfl
    · rw [if_neg c8] at hres
      refine G.iload_n (pc := 11) dm_X10_part_11 rfl ?_
      refine G.iload_n (pc := 12) dm_X10_part_12 rfl ?_
      refine G.icmp_gt (pc := 13) (tgt := 22) dm_X10_part_13 (by decide) (fun c13 => ?_) (fun c13 => ?_)
      · rw [if_pos c13] at hres
        refine G.iconst (pc := 22) (v := (0 : Int32)) dm_X10_part_22 qi_0 ?_
        cases hres
        exact G.zreturn (pc := 23) dm_X10_part_23 rfl (by decide) rfl rfl
      · rw [if_neg c13] at hres
        refine G.iload_n (pc := 16) dm_X10_part_16 rfl ?_
        refine G.bipush (pc := 17) (v := (64 : Int32)) dm_X10_part_17 qb_64 ?_
        refine G.icmp_le (pc := 19) (tgt := 24) dm_X10_part_19 (by decide) (fun c19 => ?_) (fun c19 => ?_)
        · rw [if_pos c19] at hres
          have ht4 := q_t (hth c4)
          refine G.aload_n (pc := 24) dm_X10_part_24 rfl ?_
          refine G.getfield (pc := 25) dm_X10_part_25 gf_X10_29 rfl rfl ?_
          refine G.iload_n (pc := 28) dm_X10_part_28 rfl ?_
          rcases g_four ht4 with eT | eT | eT | eT
          · try rw [eT] at hres
            refine G.aaload (pc := 29) dm_X10_part_29 rfl ht4 (by rw [eT]) ?_
            refine G.iload_n (pc := 30) dm_X10_part_30 rfl ?_
            refine G.putfield (pc := 31) (ws1 := (w_C cycle mwheel mwords (g_up xlow 0 low) xhigh xnum xstat xaddr xready xnext xret xregs xstore xhcount xhaddr xhcyc xhret xtims tlen tchars acount afk afl aat alabel ahas aword atarget amal amis awords atargets alines lcount lkeys lplaces kcount kat kinds kvals)) dm_X10_part_31 gw_X10_105 rfl (g_fit_i _) rfl rfl ?_
            refine G.aload_n (pc := 34) dm_X10_part_34 rfl ?_
            refine G.getfield (pc := 35) dm_X10_part_35 gf_X10_29 rfl rfl ?_
            refine G.iload_n (pc := 38) dm_X10_part_38 rfl ?_
            refine G.aaload (pc := 39) dm_X10_part_39 rfl ht4 (by rw [eT]) ?_
            refine G.iload_n (pc := 40) dm_X10_part_40 rfl ?_
            refine G.putfield (pc := 41) (ws1 := (w_C cycle mwheel mwords (g_up xlow 0 low) (g_up xhigh 0 high) xnum xstat xaddr xready xnext xret xregs xstore xhcount xhaddr xhcyc xhret xtims tlen tchars acount afk afl aat alabel ahas aword atarget amal amis awords atargets alines lcount lkeys lplaces kcount kat kinds kvals)) dm_X10_part_41 gw_X10_108 rfl (g_fit_i _) rfl rfl ?_
            refine G.iconst (pc := 44) (v := (1 : Int32)) dm_X10_part_44 qi_1 ?_
            cases hres
            exact G.zreturn (pc := 45) dm_X10_part_45 rfl (by decide) rfl rfl
          · try rw [eT] at hres
            refine G.aaload (pc := 29) dm_X10_part_29 rfl ht4 (by rw [eT]) ?_
            refine G.iload_n (pc := 30) dm_X10_part_30 rfl ?_
            refine G.putfield (pc := 31) (ws1 := (w_C cycle mwheel mwords (g_up xlow 1 low) xhigh xnum xstat xaddr xready xnext xret xregs xstore xhcount xhaddr xhcyc xhret xtims tlen tchars acount afk afl aat alabel ahas aword atarget amal amis awords atargets alines lcount lkeys lplaces kcount kat kinds kvals)) dm_X10_part_31 gw_X10_105 rfl (g_fit_i _) rfl rfl ?_
            refine G.aload_n (pc := 34) dm_X10_part_34 rfl ?_
            refine G.getfield (pc := 35) dm_X10_part_35 gf_X10_29 rfl rfl ?_
            refine G.iload_n (pc := 38) dm_X10_part_38 rfl ?_
            refine G.aaload (pc := 39) dm_X10_part_39 rfl ht4 (by rw [eT]) ?_
            refine G.iload_n (pc := 40) dm_X10_part_40 rfl ?_
            refine G.putfield (pc := 41) (ws1 := (w_C cycle mwheel mwords (g_up xlow 1 low) (g_up xhigh 1 high) xnum xstat xaddr xready xnext xret xregs xstore xhcount xhaddr xhcyc xhret xtims tlen tchars acount afk afl aat alabel ahas aword atarget amal amis awords atargets alines lcount lkeys lplaces kcount kat kinds kvals)) dm_X10_part_41 gw_X10_108 rfl (g_fit_i _) rfl rfl ?_
            refine G.iconst (pc := 44) (v := (1 : Int32)) dm_X10_part_44 qi_1 ?_
            cases hres
            exact G.zreturn (pc := 45) dm_X10_part_45 rfl (by decide) rfl rfl
          · try rw [eT] at hres
            refine G.aaload (pc := 29) dm_X10_part_29 rfl ht4 (by rw [eT]) ?_
            refine G.iload_n (pc := 30) dm_X10_part_30 rfl ?_
            refine G.putfield (pc := 31) (ws1 := (w_C cycle mwheel mwords (g_up xlow 2 low) xhigh xnum xstat xaddr xready xnext xret xregs xstore xhcount xhaddr xhcyc xhret xtims tlen tchars acount afk afl aat alabel ahas aword atarget amal amis awords atargets alines lcount lkeys lplaces kcount kat kinds kvals)) dm_X10_part_31 gw_X10_105 rfl (g_fit_i _) rfl rfl ?_
            refine G.aload_n (pc := 34) dm_X10_part_34 rfl ?_
            refine G.getfield (pc := 35) dm_X10_part_35 gf_X10_29 rfl rfl ?_
            refine G.iload_n (pc := 38) dm_X10_part_38 rfl ?_
            refine G.aaload (pc := 39) dm_X10_part_39 rfl ht4 (by rw [eT]) ?_
            refine G.iload_n (pc := 40) dm_X10_part_40 rfl ?_
            refine G.putfield (pc := 41) (ws1 := (w_C cycle mwheel mwords (g_up xlow 2 low) (g_up xhigh 2 high) xnum xstat xaddr xready xnext xret xregs xstore xhcount xhaddr xhcyc xhret xtims tlen tchars acount afk afl aat alabel ahas aword atarget amal amis awords atargets alines lcount lkeys lplaces kcount kat kinds kvals)) dm_X10_part_41 gw_X10_108 rfl (g_fit_i _) rfl rfl ?_
            refine G.iconst (pc := 44) (v := (1 : Int32)) dm_X10_part_44 qi_1 ?_
            cases hres
            exact G.zreturn (pc := 45) dm_X10_part_45 rfl (by decide) rfl rfl
          · try rw [eT] at hres
            refine G.aaload (pc := 29) dm_X10_part_29 rfl ht4 (by rw [eT]) ?_
            refine G.iload_n (pc := 30) dm_X10_part_30 rfl ?_
            refine G.putfield (pc := 31) (ws1 := (w_C cycle mwheel mwords (g_up xlow 3 low) xhigh xnum xstat xaddr xready xnext xret xregs xstore xhcount xhaddr xhcyc xhret xtims tlen tchars acount afk afl aat alabel ahas aword atarget amal amis awords atargets alines lcount lkeys lplaces kcount kat kinds kvals)) dm_X10_part_31 gw_X10_105 rfl (g_fit_i _) rfl rfl ?_
            refine G.aload_n (pc := 34) dm_X10_part_34 rfl ?_
            refine G.getfield (pc := 35) dm_X10_part_35 gf_X10_29 rfl rfl ?_
            refine G.iload_n (pc := 38) dm_X10_part_38 rfl ?_
            refine G.aaload (pc := 39) dm_X10_part_39 rfl ht4 (by rw [eT]) ?_
            refine G.iload_n (pc := 40) dm_X10_part_40 rfl ?_
            refine G.putfield (pc := 41) (ws1 := (w_C cycle mwheel mwords (g_up xlow 3 low) (g_up xhigh 3 high) xnum xstat xaddr xready xnext xret xregs xstore xhcount xhaddr xhcyc xhret xtims tlen tchars acount afk afl aat alabel ahas aword atarget amal amis awords atargets alines lcount lkeys lplaces kcount kat kinds kvals)) dm_X10_part_41 gw_X10_108 rfl (g_fit_i _) rfl rfl ?_
            refine G.iconst (pc := 44) (v := (1 : Int32)) dm_X10_part_44 qi_1 ?_
            cases hres
            exact G.zreturn (pc := 45) dm_X10_part_45 rfl (by decide) rfl rfl
        · rw [if_neg c19] at hres
          refine G.iconst (pc := 22) (v := (0 : Int32)) dm_X10_part_22 qi_0 ?_
          cases hres
          exact G.zreturn (pc := 23) dm_X10_part_23 rfl (by decide) rfl rfl
abbrev M_X10_start : g_M := (cX10_start, 3, RX10, (some .boolean), { frames := 1, cells := 0, slots := 0, locals := 22 }, 0, 0)
theorem dm_X10_start_0 : decode M_X10_start.1 0 = .ok (.iload_n 1, 1) := by decide +kernel
theorem dm_X10_start_1 : decode M_X10_start.1 1 = .ok (.invokestatic 101, 3) := by decide +kernel
theorem dm_X10_start_4 : decode M_X10_start.1 4 = .ok (.ifCond .ne 5, 3) := by decide +kernel
theorem dm_X10_start_7 : decode M_X10_start.1 7 = .ok (.iconst 0, 1) := by decide +kernel
theorem dm_X10_start_8 : decode M_X10_start.1 8 = .ok (.ireturn, 1) := by decide +kernel
theorem dm_X10_start_9 : decode M_X10_start.1 9 = .ok (.aload_n 0, 1) := by decide +kernel
theorem dm_X10_start_10 : decode M_X10_start.1 10 = .ok (.getfield 29, 3) := by decide +kernel
theorem dm_X10_start_13 : decode M_X10_start.1 13 = .ok (.iload_n 1, 1) := by decide +kernel
theorem dm_X10_start_14 : decode M_X10_start.1 14 = .ok (.aaload, 1) := by decide +kernel
theorem dm_X10_start_15 : decode M_X10_start.1 15 = .ok (.iload_n 2, 1) := by decide +kernel
theorem dm_X10_start_16 : decode M_X10_start.1 16 = .ok (.aload_n 0, 1) := by decide +kernel
theorem dm_X10_start_17 : decode M_X10_start.1 17 = .ok (.getfield 111, 3) := by decide +kernel
theorem dm_X10_start_20 : decode M_X10_start.1 20 = .ok (.invokevirtual 114, 3) := by decide +kernel
theorem dm_X10_start_23 : decode M_X10_start.1 23 = .ok (.iconst 1, 1) := by decide +kernel
theorem dm_X10_start_24 : decode M_X10_start.1 24 = .ok (.ireturn, 1) := by decide +kernel
theorem gc_X10_start_101 : g_cs M_X10_start 101 M_X10_isThread yX10_isThread 1 := ⟨tw194, tw195, tw2, tw196, ⟨rfl, rfl, rfl, rfl⟩, gd_X10_isThread, ⟨by decide, by decide⟩⟩
theorem gc_X10_start_114 : g_cv M_X10_start 114 M_X8_begin yX8_begin 2 := ⟨tw590, tw591, tw592, tw32, tw593, ⟨rfl, rfl, rfl, rfl⟩, gd_X8_begin, ⟨by decide, by decide⟩⟩
def f_X10_start_c20 (thread : Int32) (xstat : Nat → Int32) (xaddr : Nat → Int32) (xready : Nat → Int32) (z2_0 : Int32) (z2_1 : Int32) (z2_2 : Int32) : Int32 × (Nat → Int32) × (Nat → Int32) × (Nat → Int32) := ((1 : Int32), (g_up xstat (Int32.toNatClampNeg thread) z2_0), (g_up xaddr (Int32.toNatClampNeg thread) z2_1), (g_up xready (Int32.toNatClampNeg thread) z2_2))
def f_X10_start_c1 (thread : Int32) (address : Int32) (cycle : Int32) (xstat : Nat → Int32) (xaddr : Nat → Int32) (xready : Nat → Int32) (z1_0 : Int32) : Int32 × (Nat → Int32) × (Nat → Int32) × (Nat → Int32) := (if z1_0 = 0 then ((0 : Int32), xstat, xaddr, xready) else (f_X10_start_c20 thread xstat xaddr xready (f_X8_begin address cycle).1 (f_X8_begin address cycle).2.1 (f_X8_begin address cycle).2.2))
def f_X10_start (thread : Int32) (address : Int32) (cycle : Int32) (xstat : Nat → Int32) (xaddr : Nat → Int32) (xready : Nat → Int32) : Int32 × (Nat → Int32) × (Nat → Int32) × (Nat → Int32) := (f_X10_start_c1 thread address cycle xstat xaddr xready (f_X10_isThread thread))
set_option maxRecDepth 20000 in
theorem k_X10_start {thread : Int32} {address : Int32} {cycle : Int32} {mwheel : Int32} {mwords : Nat → Int32} {xlow : Nat → Int32} {xhigh : Nat → Int32} {xnum : Nat → Int32} {xstat : Nat → Int32} {xaddr : Nat → Int32} {xready : Nat → Int32} {xnext : Nat → Int32} {xret : Nat → Int32} {xregs : Nat → Nat → Int32} {xstore : Nat → Nat → Int32} {xhcount : Nat → Int32} {xhaddr : Nat → Nat → Int32} {xhcyc : Nat → Nat → Int32} {xhret : Nat → Nat → Int32} {xtims : Nat → Nat → Int32} {tlen : Int32} {tchars : Nat → Int32} {acount : Int32} {afk : Int32} {afl : Int32} {aat : Int32} {alabel : Int64} {ahas : Int32} {aword : Int32} {atarget : Int64} {amal : Int32} {amis : Int32} {awords : Nat → Int32} {atargets : Nat → Int64} {alines : Nat → Int32} {lcount : Int32} {lkeys : Nat → Int64} {lplaces : Nat → Int32} {kcount : Int32} {kat : Int32} {kinds : Nat → Int32} {kvals : Nat → Int64} {r_0 : Int32} {r_1 : (Nat → Int32)} {r_2 : (Nat → Int32)} {r_3 : (Nat → Int32)} (hres : (r_0, r_1, r_2, r_3) = f_X10_start thread address cycle xstat xaddr xready) : K M_X10_start yX10_start [.ref 0, .int thread, .int address] (w_C cycle mwheel mwords xlow xhigh xnum xstat xaddr xready xnext xret xregs xstore xhcount xhaddr xhcyc xhret xtims tlen tchars acount afk afl aat alabel ahas aword atarget amal amis awords atargets alines lcount lkeys lplaces kcount kat kinds kvals) (some (.int r_0)) (w_C cycle mwheel mwords xlow xhigh xnum r_1 r_2 r_3 xnext xret xregs xstore xhcount xhaddr xhcyc xhret xtims tlen tchars acount afk afl aat alabel ahas aword atarget amal amis awords atargets alines lcount lkeys lplaces kcount kat kinds kvals) := by
  refine K.of (lv := [(0, .ref 0), (1, .int thread), (2, .int address)]) (by decide +kernel) rfl rfl rfl ?_
  rw [f_X10_start] at hres
  refine G.iload_n (pc := 0) dm_X10_start_0 rfl ?_
  obtain ⟨z1_0, hz1⟩ := g_ex1 (f_X10_isThread thread)
  refine G.callS (pc := 1) (rest := []) (st1 := [.int z1_0]) (ws1 := (w_C cycle mwheel mwords xlow xhigh xnum xstat xaddr xready xnext xret xregs xstore xhcount xhaddr xhcyc xhret xtims tlen tchars acount afk afl aat alabel ahas aword atarget amal amis awords atargets alines lcount lkeys lplaces kcount kat kinds kvals)) [] dm_X10_start_1 gc_X10_start_101 (k_X10_isThread (thread := thread) hz1) rfl rfl rfl rfl rfl rfl rfl rfl ?_
  have hth := a_isThread hz1
  replace hres : (r_0, r_1, r_2, r_3) = f_X10_start_c1 thread address cycle xstat xaddr xready z1_0 := hres.trans (by rw [← hz1])
  rw [f_X10_start_c1] at hres
  refine G.if_ne (pc := 4) (tgt := 9) dm_X10_start_4 (by decide) (fun c4 => ?_) (fun c4 => ?_)
  · rw [if_neg c4] at hres
    have ht4 := q_t (hth c4)
    refine G.aload_n (pc := 9) dm_X10_start_9 rfl ?_
    refine G.getfield (pc := 10) dm_X10_start_10 gf_X10_29 rfl rfl ?_
    refine G.iload_n (pc := 13) dm_X10_start_13 rfl ?_
    rcases g_four ht4 with eT | eT | eT | eT
    · try rw [eT] at hres
      refine G.aaload (pc := 14) dm_X10_start_14 rfl ht4 (by rw [eT]) ?_
      refine G.iload_n (pc := 15) dm_X10_start_15 rfl ?_
      refine G.aload_n (pc := 16) dm_X10_start_16 rfl ?_
      refine G.getfield (pc := 17) dm_X10_start_17 gf_X10_111 rfl rfl ?_
      obtain ⟨z2_0, z2_1, z2_2, hz2⟩ := g_ex3 (f_X8_begin address cycle)
      refine G.callV (pc := 20) (rest := []) (st1 := []) (ws1 := (w_C cycle mwheel mwords xlow xhigh xnum (g_up xstat 0 z2_0) (g_up xaddr 0 z2_1) (g_up xready 0 z2_2) xnext xret xregs xstore xhcount xhaddr xhcyc xhret xtims tlen tchars acount afk afl aat alabel ahas aword atarget amal amis awords atargets alines lcount lkeys lplaces kcount kat kinds kvals)) [4, 5, 6, 7, 8, 9, 10, 11] dm_X10_start_20 gc_X10_start_114 (k_X8_begin (from_ := address) (cycle := cycle) (tlow := (xlow 0)) (thigh := (xhigh 0)) (tnum := (xnum 0)) (tstat := (xstat 0)) (taddr := (xaddr 0)) (tready := (xready 0)) (tnext := (xnext 0)) (tret := (xret 0)) (regs := (xregs 0)) (tstore := (xstore 0)) (hcount := (xhcount 0)) (haddr := (xhaddr 0)) (hcyc := (xhcyc 0)) (hret := (xhret 0)) (tims := (xtims 0)) hz2) rfl rfl rfl rfl rfl rfl rfl rfl rfl rfl ?_
      replace hres : (r_0, r_1, r_2, r_3) = f_X10_start_c20 thread xstat xaddr xready z2_0 z2_1 z2_2 := hres.trans (by rw [← hz2])
      rw [f_X10_start_c20] at hres
      try rw [eT] at hres
      refine G.iconst (pc := 23) (v := (1 : Int32)) dm_X10_start_23 qi_1 ?_
      cases hres
      exact G.zreturn (pc := 24) dm_X10_start_24 rfl (by decide) rfl rfl
    · try rw [eT] at hres
      refine G.aaload (pc := 14) dm_X10_start_14 rfl ht4 (by rw [eT]) ?_
      refine G.iload_n (pc := 15) dm_X10_start_15 rfl ?_
      refine G.aload_n (pc := 16) dm_X10_start_16 rfl ?_
      refine G.getfield (pc := 17) dm_X10_start_17 gf_X10_111 rfl rfl ?_
      obtain ⟨z2_0, z2_1, z2_2, hz2⟩ := g_ex3 (f_X8_begin address cycle)
      refine G.callV (pc := 20) (rest := []) (st1 := []) (ws1 := (w_C cycle mwheel mwords xlow xhigh xnum (g_up xstat 1 z2_0) (g_up xaddr 1 z2_1) (g_up xready 1 z2_2) xnext xret xregs xstore xhcount xhaddr xhcyc xhret xtims tlen tchars acount afk afl aat alabel ahas aword atarget amal amis awords atargets alines lcount lkeys lplaces kcount kat kinds kvals)) [12, 13, 14, 15, 16, 17, 18, 19] dm_X10_start_20 gc_X10_start_114 (k_X8_begin (from_ := address) (cycle := cycle) (tlow := (xlow 1)) (thigh := (xhigh 1)) (tnum := (xnum 1)) (tstat := (xstat 1)) (taddr := (xaddr 1)) (tready := (xready 1)) (tnext := (xnext 1)) (tret := (xret 1)) (regs := (xregs 1)) (tstore := (xstore 1)) (hcount := (xhcount 1)) (haddr := (xhaddr 1)) (hcyc := (xhcyc 1)) (hret := (xhret 1)) (tims := (xtims 1)) hz2) rfl rfl rfl rfl rfl rfl rfl rfl rfl rfl ?_
      replace hres : (r_0, r_1, r_2, r_3) = f_X10_start_c20 thread xstat xaddr xready z2_0 z2_1 z2_2 := hres.trans (by rw [← hz2])
      rw [f_X10_start_c20] at hres
      try rw [eT] at hres
      refine G.iconst (pc := 23) (v := (1 : Int32)) dm_X10_start_23 qi_1 ?_
      cases hres
      exact G.zreturn (pc := 24) dm_X10_start_24 rfl (by decide) rfl rfl
    · try rw [eT] at hres
      refine G.aaload (pc := 14) dm_X10_start_14 rfl ht4 (by rw [eT]) ?_
      refine G.iload_n (pc := 15) dm_X10_start_15 rfl ?_
      refine G.aload_n (pc := 16) dm_X10_start_16 rfl ?_
      refine G.getfield (pc := 17) dm_X10_start_17 gf_X10_111 rfl rfl ?_
      obtain ⟨z2_0, z2_1, z2_2, hz2⟩ := g_ex3 (f_X8_begin address cycle)
      refine G.callV (pc := 20) (rest := []) (st1 := []) (ws1 := (w_C cycle mwheel mwords xlow xhigh xnum (g_up xstat 2 z2_0) (g_up xaddr 2 z2_1) (g_up xready 2 z2_2) xnext xret xregs xstore xhcount xhaddr xhcyc xhret xtims tlen tchars acount afk afl aat alabel ahas aword atarget amal amis awords atargets alines lcount lkeys lplaces kcount kat kinds kvals)) [20, 21, 22, 23, 24, 25, 26, 27] dm_X10_start_20 gc_X10_start_114 (k_X8_begin (from_ := address) (cycle := cycle) (tlow := (xlow 2)) (thigh := (xhigh 2)) (tnum := (xnum 2)) (tstat := (xstat 2)) (taddr := (xaddr 2)) (tready := (xready 2)) (tnext := (xnext 2)) (tret := (xret 2)) (regs := (xregs 2)) (tstore := (xstore 2)) (hcount := (xhcount 2)) (haddr := (xhaddr 2)) (hcyc := (xhcyc 2)) (hret := (xhret 2)) (tims := (xtims 2)) hz2) rfl rfl rfl rfl rfl rfl rfl rfl rfl rfl ?_
      replace hres : (r_0, r_1, r_2, r_3) = f_X10_start_c20 thread xstat xaddr xready z2_0 z2_1 z2_2 := hres.trans (by rw [← hz2])
      rw [f_X10_start_c20] at hres
      try rw [eT] at hres
      refine G.iconst (pc := 23) (v := (1 : Int32)) dm_X10_start_23 qi_1 ?_
      cases hres
      exact G.zreturn (pc := 24) dm_X10_start_24 rfl (by decide) rfl rfl
    · try rw [eT] at hres
      refine G.aaload (pc := 14) dm_X10_start_14 rfl ht4 (by rw [eT]) ?_
      refine G.iload_n (pc := 15) dm_X10_start_15 rfl ?_
      refine G.aload_n (pc := 16) dm_X10_start_16 rfl ?_
      refine G.getfield (pc := 17) dm_X10_start_17 gf_X10_111 rfl rfl ?_
      obtain ⟨z2_0, z2_1, z2_2, hz2⟩ := g_ex3 (f_X8_begin address cycle)
      refine G.callV (pc := 20) (rest := []) (st1 := []) (ws1 := (w_C cycle mwheel mwords xlow xhigh xnum (g_up xstat 3 z2_0) (g_up xaddr 3 z2_1) (g_up xready 3 z2_2) xnext xret xregs xstore xhcount xhaddr xhcyc xhret xtims tlen tchars acount afk afl aat alabel ahas aword atarget amal amis awords atargets alines lcount lkeys lplaces kcount kat kinds kvals)) [28, 29, 30, 31, 32, 33, 34, 35] dm_X10_start_20 gc_X10_start_114 (k_X8_begin (from_ := address) (cycle := cycle) (tlow := (xlow 3)) (thigh := (xhigh 3)) (tnum := (xnum 3)) (tstat := (xstat 3)) (taddr := (xaddr 3)) (tready := (xready 3)) (tnext := (xnext 3)) (tret := (xret 3)) (regs := (xregs 3)) (tstore := (xstore 3)) (hcount := (xhcount 3)) (haddr := (xhaddr 3)) (hcyc := (xhcyc 3)) (hret := (xhret 3)) (tims := (xtims 3)) hz2) rfl rfl rfl rfl rfl rfl rfl rfl rfl rfl ?_
      replace hres : (r_0, r_1, r_2, r_3) = f_X10_start_c20 thread xstat xaddr xready z2_0 z2_1 z2_2 := hres.trans (by rw [← hz2])
      rw [f_X10_start_c20] at hres
      try rw [eT] at hres
      refine G.iconst (pc := 23) (v := (1 : Int32)) dm_X10_start_23 qi_1 ?_
      cases hres
      exact G.zreturn (pc := 24) dm_X10_start_24 rfl (by decide) rfl rfl
  · rw [if_pos c4] at hres
    refine G.iconst (pc := 7) (v := (0 : Int32)) dm_X10_start_7 qi_0 ?_
    cases hres
    exact G.zreturn (pc := 8) dm_X10_start_8 rfl (by decide) rfl rfl
abbrev M_X10_register : g_M := (cX10_register, 3, RX10, (some .int), { frames := 1, cells := 0, slots := 0, locals := 20 }, 0, 0)
theorem dm_X10_register_0 : decode M_X10_register.1 0 = .ok (.iload_n 1, 1) := by decide +kernel
theorem dm_X10_register_1 : decode M_X10_register.1 1 = .ok (.invokestatic 101, 3) := by decide +kernel
theorem dm_X10_register_4 : decode M_X10_register.1 4 = .ok (.ifCond .eq 24, 3) := by decide +kernel
theorem dm_X10_register_7 : decode M_X10_register.1 7 = .ok (.iload_n 2, 1) := by decide +kernel
theorem dm_X10_register_8 : decode M_X10_register.1 8 = .ok (.invokestatic 125, 3) := by decide +kernel
theorem dm_X10_register_11 : decode M_X10_register.1 11 = .ok (.ifCond .eq 17, 3) := by decide +kernel
theorem dm_X10_register_14 : decode M_X10_register.1 14 = .ok (.aload_n 0, 1) := by decide +kernel
theorem dm_X10_register_15 : decode M_X10_register.1 15 = .ok (.getfield 29, 3) := by decide +kernel
theorem dm_X10_register_18 : decode M_X10_register.1 18 = .ok (.iload_n 1, 1) := by decide +kernel
theorem dm_X10_register_19 : decode M_X10_register.1 19 = .ok (.aaload, 1) := by decide +kernel
theorem dm_X10_register_20 : decode M_X10_register.1 20 = .ok (.getfield 128, 3) := by decide +kernel
theorem dm_X10_register_23 : decode M_X10_register.1 23 = .ok (.iload_n 2, 1) := by decide +kernel
theorem dm_X10_register_24 : decode M_X10_register.1 24 = .ok (.iaload, 1) := by decide +kernel
theorem dm_X10_register_25 : decode M_X10_register.1 25 = .ok (.goto 4, 3) := by decide +kernel
theorem dm_X10_register_28 : decode M_X10_register.1 28 = .ok (.iconst 0, 1) := by decide +kernel
theorem dm_X10_register_29 : decode M_X10_register.1 29 = .ok (.ireturn, 1) := by decide +kernel
theorem gc_X10_register_101 : g_cs M_X10_register 101 M_X10_isThread yX10_isThread 1 := ⟨tw194, tw195, tw2, tw196, ⟨rfl, rfl, rfl, rfl⟩, gd_X10_isThread, ⟨by decide, by decide⟩⟩
theorem gc_X10_register_125 : g_cs M_X10_register 125 M_X10_isRegister yX10_isRegister 1 := ⟨tw846, tw635, tw2, tw636, ⟨rfl, rfl, rfl, rfl⟩, gd_X10_isRegister, ⟨by decide, by decide⟩⟩
def f_X10_register_c8 (thread : Int32) (k : Int32) (xregs : Nat → Nat → Int32) (z2_0 : Int32) : Int32 := (if z2_0 = 0 then (0 : Int32) else ((xregs (Int32.toNatClampNeg thread)) (Int32.toNatClampNeg k)))
def f_X10_register_c1 (thread : Int32) (k : Int32) (xregs : Nat → Nat → Int32) (z1_0 : Int32) : Int32 := (if z1_0 = 0 then (0 : Int32) else (f_X10_register_c8 thread k xregs (f_X10_isRegister k)))
def f_X10_register (thread : Int32) (k : Int32) (xregs : Nat → Nat → Int32) : Int32 := (f_X10_register_c1 thread k xregs (f_X10_isThread thread))
set_option maxRecDepth 20000 in
theorem k_X10_register {thread : Int32} {k : Int32} {cycle : Int32} {mwheel : Int32} {mwords : Nat → Int32} {xlow : Nat → Int32} {xhigh : Nat → Int32} {xnum : Nat → Int32} {xstat : Nat → Int32} {xaddr : Nat → Int32} {xready : Nat → Int32} {xnext : Nat → Int32} {xret : Nat → Int32} {xregs : Nat → Nat → Int32} {xstore : Nat → Nat → Int32} {xhcount : Nat → Int32} {xhaddr : Nat → Nat → Int32} {xhcyc : Nat → Nat → Int32} {xhret : Nat → Nat → Int32} {xtims : Nat → Nat → Int32} {tlen : Int32} {tchars : Nat → Int32} {acount : Int32} {afk : Int32} {afl : Int32} {aat : Int32} {alabel : Int64} {ahas : Int32} {aword : Int32} {atarget : Int64} {amal : Int32} {amis : Int32} {awords : Nat → Int32} {atargets : Nat → Int64} {alines : Nat → Int32} {lcount : Int32} {lkeys : Nat → Int64} {lplaces : Nat → Int32} {kcount : Int32} {kat : Int32} {kinds : Nat → Int32} {kvals : Nat → Int64} {r_0 : Int32} (hres : r_0 = f_X10_register thread k xregs) : K M_X10_register yX10_register [.ref 0, .int thread, .int k] (w_C cycle mwheel mwords xlow xhigh xnum xstat xaddr xready xnext xret xregs xstore xhcount xhaddr xhcyc xhret xtims tlen tchars acount afk afl aat alabel ahas aword atarget amal amis awords atargets alines lcount lkeys lplaces kcount kat kinds kvals) (some (.int r_0)) (w_C cycle mwheel mwords xlow xhigh xnum xstat xaddr xready xnext xret xregs xstore xhcount xhaddr xhcyc xhret xtims tlen tchars acount afk afl aat alabel ahas aword atarget amal amis awords atargets alines lcount lkeys lplaces kcount kat kinds kvals) := by
  refine K.of (lv := [(0, .ref 0), (1, .int thread), (2, .int k)]) (by decide +kernel) rfl rfl rfl ?_
  rw [f_X10_register] at hres
  refine G.iload_n (pc := 0) dm_X10_register_0 rfl ?_
  obtain ⟨z1_0, hz1⟩ := g_ex1 (f_X10_isThread thread)
  refine G.callS (pc := 1) (rest := []) (st1 := [.int z1_0]) (ws1 := (w_C cycle mwheel mwords xlow xhigh xnum xstat xaddr xready xnext xret xregs xstore xhcount xhaddr xhcyc xhret xtims tlen tchars acount afk afl aat alabel ahas aword atarget amal amis awords atargets alines lcount lkeys lplaces kcount kat kinds kvals)) [] dm_X10_register_1 gc_X10_register_101 (k_X10_isThread (thread := thread) hz1) rfl rfl rfl rfl rfl rfl rfl rfl ?_
  have hth := a_isThread hz1
  replace hres : r_0 = f_X10_register_c1 thread k xregs z1_0 := hres.trans (by rw [← hz1])
  rw [f_X10_register_c1] at hres
  refine G.if_eq (pc := 4) (tgt := 28) dm_X10_register_4 (by decide) (fun c4 => ?_) (fun c4 => ?_)
  · rw [if_pos c4] at hres
    refine G.iconst (pc := 28) (v := (0 : Int32)) dm_X10_register_28 qi_0 ?_
    subst hres
    exact G.ireturn (pc := 29) dm_X10_register_29 rfl rfl rfl
  · rw [if_neg c4] at hres
    refine G.iload_n (pc := 7) dm_X10_register_7 rfl ?_
    obtain ⟨z2_0, hz2⟩ := g_ex1 (f_X10_isRegister k)
    refine G.callS (pc := 8) (rest := []) (st1 := [.int z2_0]) (ws1 := (w_C cycle mwheel mwords xlow xhigh xnum xstat xaddr xready xnext xret xregs xstore xhcount xhaddr xhcyc xhret xtims tlen tchars acount afk afl aat alabel ahas aword atarget amal amis awords atargets alines lcount lkeys lplaces kcount kat kinds kvals)) [] dm_X10_register_8 gc_X10_register_125 (k_X10_isRegister (k := k) hz2) rfl rfl rfl rfl rfl rfl rfl rfl ?_
    have hrk := a_isReg hz2
    replace hres : r_0 = f_X10_register_c8 thread k xregs z2_0 := hres.trans (by rw [← hz2])
    rw [f_X10_register_c8] at hres
    refine G.if_eq (pc := 11) (tgt := 28) dm_X10_register_11 (by decide) (fun c11 => ?_) (fun c11 => ?_)
    · rw [if_pos c11] at hres
      refine G.iconst (pc := 28) (v := (0 : Int32)) dm_X10_register_28 qi_0 ?_
      subst hres
      exact G.ireturn (pc := 29) dm_X10_register_29 rfl rfl rfl
    · rw [if_neg c11] at hres
      have ht4 := q_t (hth c4)
      have hk16 := q_r16 (hrk c11)
      refine G.aload_n (pc := 14) dm_X10_register_14 rfl ?_
      refine G.getfield (pc := 15) dm_X10_register_15 gf_X10_29 rfl rfl ?_
      refine G.iload_n (pc := 18) dm_X10_register_18 rfl ?_
      rcases g_four ht4 with eT | eT | eT | eT
      · try rw [eT] at hres
        refine G.aaload (pc := 19) dm_X10_register_19 rfl ht4 (by rw [eT]) ?_
        refine G.getfield (pc := 20) dm_X10_register_20 gf_X10_128 rfl rfl ?_
        refine G.iload_n (pc := 23) dm_X10_register_23 rfl ?_
        refine G.iaload (pc := 24) dm_X10_register_24 rfl hk16 ?_
        refine G.goto (pc := 25) (tgt := 29) dm_X10_register_25 (by decide) ?_
        subst hres
        exact G.ireturn (pc := 29) dm_X10_register_29 rfl rfl rfl
      · try rw [eT] at hres
        refine G.aaload (pc := 19) dm_X10_register_19 rfl ht4 (by rw [eT]) ?_
        refine G.getfield (pc := 20) dm_X10_register_20 gf_X10_128 rfl rfl ?_
        refine G.iload_n (pc := 23) dm_X10_register_23 rfl ?_
        refine G.iaload (pc := 24) dm_X10_register_24 rfl hk16 ?_
        refine G.goto (pc := 25) (tgt := 29) dm_X10_register_25 (by decide) ?_
        subst hres
        exact G.ireturn (pc := 29) dm_X10_register_29 rfl rfl rfl
      · try rw [eT] at hres
        refine G.aaload (pc := 19) dm_X10_register_19 rfl ht4 (by rw [eT]) ?_
        refine G.getfield (pc := 20) dm_X10_register_20 gf_X10_128 rfl rfl ?_
        refine G.iload_n (pc := 23) dm_X10_register_23 rfl ?_
        refine G.iaload (pc := 24) dm_X10_register_24 rfl hk16 ?_
        refine G.goto (pc := 25) (tgt := 29) dm_X10_register_25 (by decide) ?_
        subst hres
        exact G.ireturn (pc := 29) dm_X10_register_29 rfl rfl rfl
      · try rw [eT] at hres
        refine G.aaload (pc := 19) dm_X10_register_19 rfl ht4 (by rw [eT]) ?_
        refine G.getfield (pc := 20) dm_X10_register_20 gf_X10_128 rfl rfl ?_
        refine G.iload_n (pc := 23) dm_X10_register_23 rfl ?_
        refine G.iaload (pc := 24) dm_X10_register_24 rfl hk16 ?_
        refine G.goto (pc := 25) (tgt := 29) dm_X10_register_25 (by decide) ?_
        subst hres
        exact G.ireturn (pc := 29) dm_X10_register_29 rfl rfl rfl
abbrev M_X10_state : g_M := (cX10_state, 3, RX10, (some .int), { frames := 1, cells := 0, slots := 0, locals := 21 }, 0, 0)
theorem dm_X10_state_0 : decode M_X10_state.1 0 = .ok (.iload_n 1, 1) := by decide +kernel
theorem dm_X10_state_1 : decode M_X10_state.1 1 = .ok (.invokestatic 101, 3) := by decide +kernel
theorem dm_X10_state_4 : decode M_X10_state.1 4 = .ok (.ifCond .eq 16, 3) := by decide +kernel
theorem dm_X10_state_7 : decode M_X10_state.1 7 = .ok (.aload_n 0, 1) := by decide +kernel
theorem dm_X10_state_8 : decode M_X10_state.1 8 = .ok (.getfield 29, 3) := by decide +kernel
theorem dm_X10_state_11 : decode M_X10_state.1 11 = .ok (.iload_n 1, 1) := by decide +kernel
theorem dm_X10_state_12 : decode M_X10_state.1 12 = .ok (.aaload, 1) := by decide +kernel
theorem dm_X10_state_13 : decode M_X10_state.1 13 = .ok (.iload_n 2, 1) := by decide +kernel
theorem dm_X10_state_14 : decode M_X10_state.1 14 = .ok (.invokevirtual 131, 3) := by decide +kernel
theorem dm_X10_state_17 : decode M_X10_state.1 17 = .ok (.goto 4, 3) := by decide +kernel
theorem dm_X10_state_20 : decode M_X10_state.1 20 = .ok (.iconst (-1), 1) := by decide +kernel
theorem dm_X10_state_21 : decode M_X10_state.1 21 = .ok (.ireturn, 1) := by decide +kernel
theorem gc_X10_state_101 : g_cs M_X10_state 101 M_X10_isThread yX10_isThread 1 := ⟨tw194, tw195, tw2, tw196, ⟨rfl, rfl, rfl, rfl⟩, gd_X10_isThread, ⟨by decide, by decide⟩⟩
theorem gc_X10_state_131 : g_cv M_X10_state 131 M_X8_condition yX8_condition 1 := ⟨tw855, tw856, tw857, tw32, tw858, ⟨rfl, rfl, rfl, rfl⟩, gd_X8_condition, ⟨by decide, by decide⟩⟩
def f_X10_state_c14 (z2_0 : Int32) : Int32 := z2_0
def f_X10_state_c1 (thread : Int32) (what : Int32) (xstat : Nat → Int32) (xaddr : Nat → Int32) (xready : Nat → Int32) (xhcount : Nat → Int32) (xtims : Nat → Nat → Int32) (z1_0 : Int32) : Int32 := (if z1_0 = 0 then (-1 : Int32) else (f_X10_state_c14 (f_X8_condition what (xstat (Int32.toNatClampNeg thread)) (xaddr (Int32.toNatClampNeg thread)) (xready (Int32.toNatClampNeg thread)) (xhcount (Int32.toNatClampNeg thread)) (xtims (Int32.toNatClampNeg thread)))))
def f_X10_state (thread : Int32) (what : Int32) (xstat : Nat → Int32) (xaddr : Nat → Int32) (xready : Nat → Int32) (xhcount : Nat → Int32) (xtims : Nat → Nat → Int32) : Int32 := (f_X10_state_c1 thread what xstat xaddr xready xhcount xtims (f_X10_isThread thread))
set_option maxRecDepth 20000 in
theorem k_X10_state {thread : Int32} {what : Int32} {cycle : Int32} {mwheel : Int32} {mwords : Nat → Int32} {xlow : Nat → Int32} {xhigh : Nat → Int32} {xnum : Nat → Int32} {xstat : Nat → Int32} {xaddr : Nat → Int32} {xready : Nat → Int32} {xnext : Nat → Int32} {xret : Nat → Int32} {xregs : Nat → Nat → Int32} {xstore : Nat → Nat → Int32} {xhcount : Nat → Int32} {xhaddr : Nat → Nat → Int32} {xhcyc : Nat → Nat → Int32} {xhret : Nat → Nat → Int32} {xtims : Nat → Nat → Int32} {tlen : Int32} {tchars : Nat → Int32} {acount : Int32} {afk : Int32} {afl : Int32} {aat : Int32} {alabel : Int64} {ahas : Int32} {aword : Int32} {atarget : Int64} {amal : Int32} {amis : Int32} {awords : Nat → Int32} {atargets : Nat → Int64} {alines : Nat → Int32} {lcount : Int32} {lkeys : Nat → Int64} {lplaces : Nat → Int32} {kcount : Int32} {kat : Int32} {kinds : Nat → Int32} {kvals : Nat → Int64} {r_0 : Int32} (hres : r_0 = f_X10_state thread what xstat xaddr xready xhcount xtims) : K M_X10_state yX10_state [.ref 0, .int thread, .int what] (w_C cycle mwheel mwords xlow xhigh xnum xstat xaddr xready xnext xret xregs xstore xhcount xhaddr xhcyc xhret xtims tlen tchars acount afk afl aat alabel ahas aword atarget amal amis awords atargets alines lcount lkeys lplaces kcount kat kinds kvals) (some (.int r_0)) (w_C cycle mwheel mwords xlow xhigh xnum xstat xaddr xready xnext xret xregs xstore xhcount xhaddr xhcyc xhret xtims tlen tchars acount afk afl aat alabel ahas aword atarget amal amis awords atargets alines lcount lkeys lplaces kcount kat kinds kvals) := by
  refine K.of (lv := [(0, .ref 0), (1, .int thread), (2, .int what)]) (by decide +kernel) rfl rfl rfl ?_
  rw [f_X10_state] at hres
  refine G.iload_n (pc := 0) dm_X10_state_0 rfl ?_
  obtain ⟨z1_0, hz1⟩ := g_ex1 (f_X10_isThread thread)
  refine G.callS (pc := 1) (rest := []) (st1 := [.int z1_0]) (ws1 := (w_C cycle mwheel mwords xlow xhigh xnum xstat xaddr xready xnext xret xregs xstore xhcount xhaddr xhcyc xhret xtims tlen tchars acount afk afl aat alabel ahas aword atarget amal amis awords atargets alines lcount lkeys lplaces kcount kat kinds kvals)) [] dm_X10_state_1 gc_X10_state_101 (k_X10_isThread (thread := thread) hz1) rfl rfl rfl rfl rfl rfl rfl rfl ?_
  have hth := a_isThread hz1
  replace hres : r_0 = f_X10_state_c1 thread what xstat xaddr xready xhcount xtims z1_0 := hres.trans (by rw [← hz1])
  rw [f_X10_state_c1] at hres
  refine G.if_eq (pc := 4) (tgt := 20) dm_X10_state_4 (by decide) (fun c4 => ?_) (fun c4 => ?_)
  · rw [if_pos c4] at hres
    refine G.iconst (pc := 20) (v := (-1 : Int32)) dm_X10_state_20 qi_m1 ?_
    subst hres
    exact G.ireturn (pc := 21) dm_X10_state_21 rfl rfl rfl
  · rw [if_neg c4] at hres
    have ht4 := q_t (hth c4)
    refine G.aload_n (pc := 7) dm_X10_state_7 rfl ?_
    refine G.getfield (pc := 8) dm_X10_state_8 gf_X10_29 rfl rfl ?_
    refine G.iload_n (pc := 11) dm_X10_state_11 rfl ?_
    rcases g_four ht4 with eT | eT | eT | eT
    · try rw [eT] at hres
      refine G.aaload (pc := 12) dm_X10_state_12 rfl ht4 (by rw [eT]) ?_
      refine G.iload_n (pc := 13) dm_X10_state_13 rfl ?_
      obtain ⟨z2_0, hz2⟩ := g_ex1 (f_X8_condition what (xstat 0) (xaddr 0) (xready 0) (xhcount 0) (xtims 0))
      refine G.callV (pc := 14) (rest := []) (st1 := [.int z2_0]) (ws1 := (w_C cycle mwheel mwords xlow xhigh xnum xstat xaddr xready xnext xret xregs xstore xhcount xhaddr xhcyc xhret xtims tlen tchars acount afk afl aat alabel ahas aword atarget amal amis awords atargets alines lcount lkeys lplaces kcount kat kinds kvals)) [4, 5, 6, 7, 8, 9, 10, 11] dm_X10_state_14 gc_X10_state_131 (k_X8_condition (what := what) (tlow := (xlow 0)) (thigh := (xhigh 0)) (tnum := (xnum 0)) (tstat := (xstat 0)) (taddr := (xaddr 0)) (tready := (xready 0)) (tnext := (xnext 0)) (tret := (xret 0)) (regs := (xregs 0)) (tstore := (xstore 0)) (hcount := (xhcount 0)) (haddr := (xhaddr 0)) (hcyc := (xhcyc 0)) (hret := (xhret 0)) (tims := (xtims 0)) hz2) rfl rfl rfl rfl rfl rfl rfl rfl rfl rfl ?_
      replace hres : r_0 = f_X10_state_c14 z2_0 := hres.trans (by rw [← hz2])
      rw [f_X10_state_c14] at hres
      try rw [eT] at hres
      refine G.goto (pc := 17) (tgt := 21) dm_X10_state_17 (by decide) ?_
      subst hres
      exact G.ireturn (pc := 21) dm_X10_state_21 rfl rfl rfl
    · try rw [eT] at hres
      refine G.aaload (pc := 12) dm_X10_state_12 rfl ht4 (by rw [eT]) ?_
      refine G.iload_n (pc := 13) dm_X10_state_13 rfl ?_
      obtain ⟨z2_0, hz2⟩ := g_ex1 (f_X8_condition what (xstat 1) (xaddr 1) (xready 1) (xhcount 1) (xtims 1))
      refine G.callV (pc := 14) (rest := []) (st1 := [.int z2_0]) (ws1 := (w_C cycle mwheel mwords xlow xhigh xnum xstat xaddr xready xnext xret xregs xstore xhcount xhaddr xhcyc xhret xtims tlen tchars acount afk afl aat alabel ahas aword atarget amal amis awords atargets alines lcount lkeys lplaces kcount kat kinds kvals)) [12, 13, 14, 15, 16, 17, 18, 19] dm_X10_state_14 gc_X10_state_131 (k_X8_condition (what := what) (tlow := (xlow 1)) (thigh := (xhigh 1)) (tnum := (xnum 1)) (tstat := (xstat 1)) (taddr := (xaddr 1)) (tready := (xready 1)) (tnext := (xnext 1)) (tret := (xret 1)) (regs := (xregs 1)) (tstore := (xstore 1)) (hcount := (xhcount 1)) (haddr := (xhaddr 1)) (hcyc := (xhcyc 1)) (hret := (xhret 1)) (tims := (xtims 1)) hz2) rfl rfl rfl rfl rfl rfl rfl rfl rfl rfl ?_
      replace hres : r_0 = f_X10_state_c14 z2_0 := hres.trans (by rw [← hz2])
      rw [f_X10_state_c14] at hres
      try rw [eT] at hres
      refine G.goto (pc := 17) (tgt := 21) dm_X10_state_17 (by decide) ?_
      subst hres
      exact G.ireturn (pc := 21) dm_X10_state_21 rfl rfl rfl
    · try rw [eT] at hres
      refine G.aaload (pc := 12) dm_X10_state_12 rfl ht4 (by rw [eT]) ?_
      refine G.iload_n (pc := 13) dm_X10_state_13 rfl ?_
      obtain ⟨z2_0, hz2⟩ := g_ex1 (f_X8_condition what (xstat 2) (xaddr 2) (xready 2) (xhcount 2) (xtims 2))
      refine G.callV (pc := 14) (rest := []) (st1 := [.int z2_0]) (ws1 := (w_C cycle mwheel mwords xlow xhigh xnum xstat xaddr xready xnext xret xregs xstore xhcount xhaddr xhcyc xhret xtims tlen tchars acount afk afl aat alabel ahas aword atarget amal amis awords atargets alines lcount lkeys lplaces kcount kat kinds kvals)) [20, 21, 22, 23, 24, 25, 26, 27] dm_X10_state_14 gc_X10_state_131 (k_X8_condition (what := what) (tlow := (xlow 2)) (thigh := (xhigh 2)) (tnum := (xnum 2)) (tstat := (xstat 2)) (taddr := (xaddr 2)) (tready := (xready 2)) (tnext := (xnext 2)) (tret := (xret 2)) (regs := (xregs 2)) (tstore := (xstore 2)) (hcount := (xhcount 2)) (haddr := (xhaddr 2)) (hcyc := (xhcyc 2)) (hret := (xhret 2)) (tims := (xtims 2)) hz2) rfl rfl rfl rfl rfl rfl rfl rfl rfl rfl ?_
      replace hres : r_0 = f_X10_state_c14 z2_0 := hres.trans (by rw [← hz2])
      rw [f_X10_state_c14] at hres
      try rw [eT] at hres
      refine G.goto (pc := 17) (tgt := 21) dm_X10_state_17 (by decide) ?_
      subst hres
      exact G.ireturn (pc := 21) dm_X10_state_21 rfl rfl rfl
    · try rw [eT] at hres
      refine G.aaload (pc := 12) dm_X10_state_12 rfl ht4 (by rw [eT]) ?_
      refine G.iload_n (pc := 13) dm_X10_state_13 rfl ?_
      obtain ⟨z2_0, hz2⟩ := g_ex1 (f_X8_condition what (xstat 3) (xaddr 3) (xready 3) (xhcount 3) (xtims 3))
      refine G.callV (pc := 14) (rest := []) (st1 := [.int z2_0]) (ws1 := (w_C cycle mwheel mwords xlow xhigh xnum xstat xaddr xready xnext xret xregs xstore xhcount xhaddr xhcyc xhret xtims tlen tchars acount afk afl aat alabel ahas aword atarget amal amis awords atargets alines lcount lkeys lplaces kcount kat kinds kvals)) [28, 29, 30, 31, 32, 33, 34, 35] dm_X10_state_14 gc_X10_state_131 (k_X8_condition (what := what) (tlow := (xlow 3)) (thigh := (xhigh 3)) (tnum := (xnum 3)) (tstat := (xstat 3)) (taddr := (xaddr 3)) (tready := (xready 3)) (tnext := (xnext 3)) (tret := (xret 3)) (regs := (xregs 3)) (tstore := (xstore 3)) (hcount := (xhcount 3)) (haddr := (xhaddr 3)) (hcyc := (xhcyc 3)) (hret := (xhret 3)) (tims := (xtims 3)) hz2) rfl rfl rfl rfl rfl rfl rfl rfl rfl rfl ?_
      replace hres : r_0 = f_X10_state_c14 z2_0 := hres.trans (by rw [← hz2])
      rw [f_X10_state_c14] at hres
      try rw [eT] at hres
      refine G.goto (pc := 17) (tgt := 21) dm_X10_state_17 (by decide) ?_
      subst hres
      exact G.ireturn (pc := 21) dm_X10_state_21 rfl rfl rfl
abbrev M_X10_trace : g_M := (cX10_trace, 4, RX10, (some .int), { frames := 3, cells := 0, slots := 0, locals := 65 }, 0, 0)
theorem dm_X10_trace_0 : decode M_X10_trace.1 0 = .ok (.iload_n 1, 1) := by decide +kernel
theorem dm_X10_trace_1 : decode M_X10_trace.1 1 = .ok (.invokestatic 101, 3) := by decide +kernel
theorem dm_X10_trace_4 : decode M_X10_trace.1 4 = .ok (.ifCond .eq 20, 3) := by decide +kernel
theorem dm_X10_trace_7 : decode M_X10_trace.1 7 = .ok (.aload_n 0, 1) := by decide +kernel
theorem dm_X10_trace_8 : decode M_X10_trace.1 8 = .ok (.getfield 29, 3) := by decide +kernel
theorem dm_X10_trace_11 : decode M_X10_trace.1 11 = .ok (.iload_n 1, 1) := by decide +kernel
theorem dm_X10_trace_12 : decode M_X10_trace.1 12 = .ok (.aaload, 1) := by decide +kernel
theorem dm_X10_trace_13 : decode M_X10_trace.1 13 = .ok (.getfield 135, 3) := by decide +kernel
theorem dm_X10_trace_16 : decode M_X10_trace.1 16 = .ok (.iload_n 2, 1) := by decide +kernel
theorem dm_X10_trace_17 : decode M_X10_trace.1 17 = .ok (.iload_n 3, 1) := by decide +kernel
theorem dm_X10_trace_18 : decode M_X10_trace.1 18 = .ok (.invokevirtual 139, 3) := by decide +kernel
theorem dm_X10_trace_21 : decode M_X10_trace.1 21 = .ok (.goto 4, 3) := by decide +kernel
theorem dm_X10_trace_24 : decode M_X10_trace.1 24 = .ok (.iconst (-1), 1) := by decide +kernel
theorem dm_X10_trace_25 : decode M_X10_trace.1 25 = .ok (.ireturn, 1) := by decide +kernel
theorem gc_X10_trace_101 : g_cs M_X10_trace 101 M_X10_isThread yX10_isThread 1 := ⟨tw194, tw195, tw2, tw196, ⟨rfl, rfl, rfl, rfl⟩, gd_X10_isThread, ⟨by decide, by decide⟩⟩
theorem gc_X10_trace_139 : g_cv M_X10_trace 139 M_X2_entry yX2_entry 2 := ⟨tw869, tw870, tw871, tw56, tw872, ⟨rfl, rfl, rfl, rfl⟩, gd_X2_entry, ⟨by decide, by decide⟩⟩
def f_X10_trace_c18 (z2_0 : Int32) : Int32 := z2_0
def f_X10_trace_c1 (thread : Int32) (k : Int32) (what : Int32) (xhcount : Nat → Int32) (xhaddr : Nat → Nat → Int32) (xhcyc : Nat → Nat → Int32) (xhret : Nat → Nat → Int32) (z1_0 : Int32) : Int32 := (if z1_0 = 0 then (-1 : Int32) else (f_X10_trace_c18 (f_X2_entry k what (xhcount (Int32.toNatClampNeg thread)) (xhaddr (Int32.toNatClampNeg thread)) (xhcyc (Int32.toNatClampNeg thread)) (xhret (Int32.toNatClampNeg thread)))))
def f_X10_trace (thread : Int32) (k : Int32) (what : Int32) (xhcount : Nat → Int32) (xhaddr : Nat → Nat → Int32) (xhcyc : Nat → Nat → Int32) (xhret : Nat → Nat → Int32) : Int32 := (f_X10_trace_c1 thread k what xhcount xhaddr xhcyc xhret (f_X10_isThread thread))
set_option maxRecDepth 20000 in
theorem k_X10_trace {thread : Int32} {k : Int32} {what : Int32} {cycle : Int32} {mwheel : Int32} {mwords : Nat → Int32} {xlow : Nat → Int32} {xhigh : Nat → Int32} {xnum : Nat → Int32} {xstat : Nat → Int32} {xaddr : Nat → Int32} {xready : Nat → Int32} {xnext : Nat → Int32} {xret : Nat → Int32} {xregs : Nat → Nat → Int32} {xstore : Nat → Nat → Int32} {xhcount : Nat → Int32} {xhaddr : Nat → Nat → Int32} {xhcyc : Nat → Nat → Int32} {xhret : Nat → Nat → Int32} {xtims : Nat → Nat → Int32} {tlen : Int32} {tchars : Nat → Int32} {acount : Int32} {afk : Int32} {afl : Int32} {aat : Int32} {alabel : Int64} {ahas : Int32} {aword : Int32} {atarget : Int64} {amal : Int32} {amis : Int32} {awords : Nat → Int32} {atargets : Nat → Int64} {alines : Nat → Int32} {lcount : Int32} {lkeys : Nat → Int64} {lplaces : Nat → Int32} {kcount : Int32} {kat : Int32} {kinds : Nat → Int32} {kvals : Nat → Int64} {r_0 : Int32} (hres : r_0 = f_X10_trace thread k what xhcount xhaddr xhcyc xhret) : K M_X10_trace yX10_trace [.ref 0, .int thread, .int k, .int what] (w_C cycle mwheel mwords xlow xhigh xnum xstat xaddr xready xnext xret xregs xstore xhcount xhaddr xhcyc xhret xtims tlen tchars acount afk afl aat alabel ahas aword atarget amal amis awords atargets alines lcount lkeys lplaces kcount kat kinds kvals) (some (.int r_0)) (w_C cycle mwheel mwords xlow xhigh xnum xstat xaddr xready xnext xret xregs xstore xhcount xhaddr xhcyc xhret xtims tlen tchars acount afk afl aat alabel ahas aword atarget amal amis awords atargets alines lcount lkeys lplaces kcount kat kinds kvals) := by
  refine K.of (lv := [(0, .ref 0), (1, .int thread), (2, .int k), (3, .int what)]) (by decide +kernel) rfl rfl rfl ?_
  rw [f_X10_trace] at hres
  refine G.iload_n (pc := 0) dm_X10_trace_0 rfl ?_
  obtain ⟨z1_0, hz1⟩ := g_ex1 (f_X10_isThread thread)
  refine G.callS (pc := 1) (rest := []) (st1 := [.int z1_0]) (ws1 := (w_C cycle mwheel mwords xlow xhigh xnum xstat xaddr xready xnext xret xregs xstore xhcount xhaddr xhcyc xhret xtims tlen tchars acount afk afl aat alabel ahas aword atarget amal amis awords atargets alines lcount lkeys lplaces kcount kat kinds kvals)) [] dm_X10_trace_1 gc_X10_trace_101 (k_X10_isThread (thread := thread) hz1) rfl rfl rfl rfl rfl rfl rfl rfl ?_
  have hth := a_isThread hz1
  replace hres : r_0 = f_X10_trace_c1 thread k what xhcount xhaddr xhcyc xhret z1_0 := hres.trans (by rw [← hz1])
  rw [f_X10_trace_c1] at hres
  refine G.if_eq (pc := 4) (tgt := 24) dm_X10_trace_4 (by decide) (fun c4 => ?_) (fun c4 => ?_)
  · rw [if_pos c4] at hres
    refine G.iconst (pc := 24) (v := (-1 : Int32)) dm_X10_trace_24 qi_m1 ?_
    subst hres
    exact G.ireturn (pc := 25) dm_X10_trace_25 rfl rfl rfl
  · rw [if_neg c4] at hres
    have ht4 := q_t (hth c4)
    refine G.aload_n (pc := 7) dm_X10_trace_7 rfl ?_
    refine G.getfield (pc := 8) dm_X10_trace_8 gf_X10_29 rfl rfl ?_
    refine G.iload_n (pc := 11) dm_X10_trace_11 rfl ?_
    rcases g_four ht4 with eT | eT | eT | eT
    · try rw [eT] at hres
      refine G.aaload (pc := 12) dm_X10_trace_12 rfl ht4 (by rw [eT]) ?_
      refine G.getfield (pc := 13) dm_X10_trace_13 gf_X10_135 rfl rfl ?_
      refine G.iload_n (pc := 16) dm_X10_trace_16 rfl ?_
      refine G.iload_n (pc := 17) dm_X10_trace_17 rfl ?_
      obtain ⟨z2_0, hz2⟩ := g_ex1 (f_X2_entry k what (xhcount 0) (xhaddr 0) (xhcyc 0) (xhret 0))
      refine G.callV (pc := 18) (rest := []) (st1 := [.int z2_0]) (ws1 := (w_C cycle mwheel mwords xlow xhigh xnum xstat xaddr xready xnext xret xregs xstore xhcount xhaddr xhcyc xhret xtims tlen tchars acount afk afl aat alabel ahas aword atarget amal amis awords atargets alines lcount lkeys lplaces kcount kat kinds kvals)) [7, 8, 9, 10] dm_X10_trace_18 gc_X10_trace_139 (k_X2_entry (k := k) (what := what) (hcount := (xhcount 0)) (haddr := (xhaddr 0)) (hcyc := (xhcyc 0)) (hret := (xhret 0)) hz2) rfl rfl rfl rfl rfl rfl rfl rfl rfl rfl ?_
      replace hres : r_0 = f_X10_trace_c18 z2_0 := hres.trans (by rw [← hz2])
      rw [f_X10_trace_c18] at hres
      try rw [eT] at hres
      refine G.goto (pc := 21) (tgt := 25) dm_X10_trace_21 (by decide) ?_
      subst hres
      exact G.ireturn (pc := 25) dm_X10_trace_25 rfl rfl rfl
    · try rw [eT] at hres
      refine G.aaload (pc := 12) dm_X10_trace_12 rfl ht4 (by rw [eT]) ?_
      refine G.getfield (pc := 13) dm_X10_trace_13 gf_X10_135 rfl rfl ?_
      refine G.iload_n (pc := 16) dm_X10_trace_16 rfl ?_
      refine G.iload_n (pc := 17) dm_X10_trace_17 rfl ?_
      obtain ⟨z2_0, hz2⟩ := g_ex1 (f_X2_entry k what (xhcount 1) (xhaddr 1) (xhcyc 1) (xhret 1))
      refine G.callV (pc := 18) (rest := []) (st1 := [.int z2_0]) (ws1 := (w_C cycle mwheel mwords xlow xhigh xnum xstat xaddr xready xnext xret xregs xstore xhcount xhaddr xhcyc xhret xtims tlen tchars acount afk afl aat alabel ahas aword atarget amal amis awords atargets alines lcount lkeys lplaces kcount kat kinds kvals)) [15, 16, 17, 18] dm_X10_trace_18 gc_X10_trace_139 (k_X2_entry (k := k) (what := what) (hcount := (xhcount 1)) (haddr := (xhaddr 1)) (hcyc := (xhcyc 1)) (hret := (xhret 1)) hz2) rfl rfl rfl rfl rfl rfl rfl rfl rfl rfl ?_
      replace hres : r_0 = f_X10_trace_c18 z2_0 := hres.trans (by rw [← hz2])
      rw [f_X10_trace_c18] at hres
      try rw [eT] at hres
      refine G.goto (pc := 21) (tgt := 25) dm_X10_trace_21 (by decide) ?_
      subst hres
      exact G.ireturn (pc := 25) dm_X10_trace_25 rfl rfl rfl
    · try rw [eT] at hres
      refine G.aaload (pc := 12) dm_X10_trace_12 rfl ht4 (by rw [eT]) ?_
      refine G.getfield (pc := 13) dm_X10_trace_13 gf_X10_135 rfl rfl ?_
      refine G.iload_n (pc := 16) dm_X10_trace_16 rfl ?_
      refine G.iload_n (pc := 17) dm_X10_trace_17 rfl ?_
      obtain ⟨z2_0, hz2⟩ := g_ex1 (f_X2_entry k what (xhcount 2) (xhaddr 2) (xhcyc 2) (xhret 2))
      refine G.callV (pc := 18) (rest := []) (st1 := [.int z2_0]) (ws1 := (w_C cycle mwheel mwords xlow xhigh xnum xstat xaddr xready xnext xret xregs xstore xhcount xhaddr xhcyc xhret xtims tlen tchars acount afk afl aat alabel ahas aword atarget amal amis awords atargets alines lcount lkeys lplaces kcount kat kinds kvals)) [23, 24, 25, 26] dm_X10_trace_18 gc_X10_trace_139 (k_X2_entry (k := k) (what := what) (hcount := (xhcount 2)) (haddr := (xhaddr 2)) (hcyc := (xhcyc 2)) (hret := (xhret 2)) hz2) rfl rfl rfl rfl rfl rfl rfl rfl rfl rfl ?_
      replace hres : r_0 = f_X10_trace_c18 z2_0 := hres.trans (by rw [← hz2])
      rw [f_X10_trace_c18] at hres
      try rw [eT] at hres
      refine G.goto (pc := 21) (tgt := 25) dm_X10_trace_21 (by decide) ?_
      subst hres
      exact G.ireturn (pc := 25) dm_X10_trace_25 rfl rfl rfl
    · try rw [eT] at hres
      refine G.aaload (pc := 12) dm_X10_trace_12 rfl ht4 (by rw [eT]) ?_
      refine G.getfield (pc := 13) dm_X10_trace_13 gf_X10_135 rfl rfl ?_
      refine G.iload_n (pc := 16) dm_X10_trace_16 rfl ?_
      refine G.iload_n (pc := 17) dm_X10_trace_17 rfl ?_
      obtain ⟨z2_0, hz2⟩ := g_ex1 (f_X2_entry k what (xhcount 3) (xhaddr 3) (xhcyc 3) (xhret 3))
      refine G.callV (pc := 18) (rest := []) (st1 := [.int z2_0]) (ws1 := (w_C cycle mwheel mwords xlow xhigh xnum xstat xaddr xready xnext xret xregs xstore xhcount xhaddr xhcyc xhret xtims tlen tchars acount afk afl aat alabel ahas aword atarget amal amis awords atargets alines lcount lkeys lplaces kcount kat kinds kvals)) [31, 32, 33, 34] dm_X10_trace_18 gc_X10_trace_139 (k_X2_entry (k := k) (what := what) (hcount := (xhcount 3)) (haddr := (xhaddr 3)) (hcyc := (xhcyc 3)) (hret := (xhret 3)) hz2) rfl rfl rfl rfl rfl rfl rfl rfl rfl rfl ?_
      replace hres : r_0 = f_X10_trace_c18 z2_0 := hres.trans (by rw [← hz2])
      rw [f_X10_trace_c18] at hres
      try rw [eT] at hres
      refine G.goto (pc := 21) (tgt := 25) dm_X10_trace_21 (by decide) ?_
      subst hres
      exact G.ireturn (pc := 25) dm_X10_trace_25 rfl rfl rfl
abbrev M_X10_run : g_M := (cX10_run, 4, RX10, (some .int), { frames := 6, cells := 0, slots := 0, locals := 146 }, 0, 0)
theorem dm_X10_run_0 : decode M_X10_run.1 0 = .ok (.iload_n 1, 1) := by decide +kernel
theorem dm_X10_run_1 : decode M_X10_run.1 1 = .ok (.ifCond .lt 10, 3) := by decide +kernel
theorem dm_X10_run_4 : decode M_X10_run.1 4 = .ok (.iload_n 1, 1) := by decide +kernel
theorem dm_X10_run_5 : decode M_X10_run.1 5 = .ok (.sipush 2000, 3) := by decide +kernel
theorem dm_X10_run_8 : decode M_X10_run.1 8 = .ok (.if_icmp .le 5, 3) := by decide +kernel
theorem dm_X10_run_11 : decode M_X10_run.1 11 = .ok (.iconst (-1), 1) := by decide +kernel
theorem dm_X10_run_12 : decode M_X10_run.1 12 = .ok (.ireturn, 1) := by decide +kernel
theorem dm_X10_run_13 : decode M_X10_run.1 13 = .ok (.iconst 0, 1) := by decide +kernel
theorem dm_X10_run_14 : decode M_X10_run.1 14 = .ok (.istore_n 2, 1) := by decide +kernel
theorem dm_X10_run_15 : decode M_X10_run.1 15 = .ok (.iconst 0, 1) := by decide +kernel
theorem dm_X10_run_16 : decode M_X10_run.1 16 = .ok (.istore_n 3, 1) := by decide +kernel
theorem dm_X10_run_17 : decode M_X10_run.1 17 = .ok (.iload_n 3, 1) := by decide +kernel
theorem dm_X10_run_18 : decode M_X10_run.1 18 = .ok (.iload_n 1, 1) := by decide +kernel
theorem dm_X10_run_19 : decode M_X10_run.1 19 = .ok (.if_icmp .ge 49, 3) := by decide +kernel
theorem dm_X10_run_22 : decode M_X10_run.1 22 = .ok (.aload_n 0, 1) := by decide +kernel
theorem dm_X10_run_23 : decode M_X10_run.1 23 = .ok (.getfield 29, 3) := by decide +kernel
theorem dm_X10_run_26 : decode M_X10_run.1 26 = .ok (.aload_n 0, 1) := by decide +kernel
theorem dm_X10_run_27 : decode M_X10_run.1 27 = .ok (.getfield 111, 3) := by decide +kernel
theorem dm_X10_run_30 : decode M_X10_run.1 30 = .ok (.iconst 4, 1) := by decide +kernel
theorem dm_X10_run_31 : decode M_X10_run.1 31 = .ok (.invokestatic 118, 3) := by decide +kernel
theorem dm_X10_run_34 : decode M_X10_run.1 34 = .ok (.aaload, 1) := by decide +kernel
theorem dm_X10_run_35 : decode M_X10_run.1 35 = .ok (.aload_n 0, 1) := by decide +kernel
theorem dm_X10_run_36 : decode M_X10_run.1 36 = .ok (.getfield 111, 3) := by decide +kernel
theorem dm_X10_run_39 : decode M_X10_run.1 39 = .ok (.aload_n 0, 1) := by decide +kernel
theorem dm_X10_run_40 : decode M_X10_run.1 40 = .ok (.getfield 23, 3) := by decide +kernel
theorem dm_X10_run_43 : decode M_X10_run.1 43 = .ok (.invokevirtual 121, 3) := by decide +kernel
theorem dm_X10_run_46 : decode M_X10_run.1 46 = .ok (.ifCond .eq 6, 3) := by decide +kernel
theorem dm_X10_run_49 : decode M_X10_run.1 49 = .ok (.iinc 2 1, 3) := by decide +kernel
theorem dm_X10_run_52 : decode M_X10_run.1 52 = .ok (.aload_n 0, 1) := by decide +kernel
theorem dm_X10_run_53 : decode M_X10_run.1 53 = .ok (.dup, 1) := by decide +kernel
theorem dm_X10_run_54 : decode M_X10_run.1 54 = .ok (.getfield 111, 3) := by decide +kernel
theorem dm_X10_run_57 : decode M_X10_run.1 57 = .ok (.iconst 1, 1) := by decide +kernel
theorem dm_X10_run_58 : decode M_X10_run.1 58 = .ok (.iadd, 1) := by decide +kernel
theorem dm_X10_run_59 : decode M_X10_run.1 59 = .ok (.putfield 111, 3) := by decide +kernel
theorem dm_X10_run_62 : decode M_X10_run.1 62 = .ok (.iinc 3 1, 3) := by decide +kernel
theorem dm_X10_run_65 : decode M_X10_run.1 65 = .ok (.goto (-48), 3) := by decide +kernel
theorem dm_X10_run_68 : decode M_X10_run.1 68 = .ok (.iload_n 2, 1) := by decide +kernel
theorem dm_X10_run_69 : decode M_X10_run.1 69 = .ok (.ireturn, 1) := by decide +kernel
theorem gc_X10_run_118 : g_cs M_X10_run 118 M_J9_floorMod_7cf53 yJ9_floorMod_7cf53 2 := ⟨tw605, tw606, tw607, tw608, ⟨rfl, rfl, rfl, rfl⟩, gd_J9_floorMod_7cf53, ⟨by decide, by decide⟩⟩
theorem gc_X10_run_121 : g_cv M_X10_run 121 M_X8_takeTurn yX8_takeTurn 2 := ⟨tw609, tw610, tw611, tw32, tw612, ⟨rfl, rfl, rfl, rfl⟩, gd_X8_takeTurn, ⟨by decide, by decide⟩⟩
def f_X10_run_52 (cycle : Int32) (mwords : Nat → Int32) (xstat : Nat → Int32) (xaddr : Nat → Int32) (xready : Nat → Int32) (xnext : Nat → Int32) (xret : Nat → Int32) (xregs : Nat → Nat → Int32) (xstore : Nat → Nat → Int32) (xhcount : Nat → Int32) (xhaddr : Nat → Nat → Int32) (xhcyc : Nat → Nat → Int32) (xhret : Nat → Nat → Int32) (xtims : Nat → Nat → Int32) (l1 : Int32) (l2 : Int32) (l3 : Int32) (kL17 : Int32 → Int32 → Int32 → Int32 → (Nat → Int32) → (Nat → Int32) → (Nat → Int32) → (Nat → Int32) → (Nat → Int32) → (Nat → Int32) → (Nat → Nat → Int32) → (Nat → Nat → Int32) → (Nat → Int32) → (Nat → Nat → Int32) → (Nat → Nat → Int32) → (Nat → Nat → Int32) → (Nat → Nat → Int32) → Int32 × Int32 × (Nat → Int32) × (Nat → Int32) × (Nat → Int32) × (Nat → Int32) × (Nat → Int32) × (Nat → Int32) × (Nat → Nat → Int32) × (Nat → Nat → Int32) × (Nat → Int32) × (Nat → Nat → Int32) × (Nat → Nat → Int32) × (Nat → Nat → Int32) × (Nat → Nat → Int32)) : Int32 × Int32 × (Nat → Int32) × (Nat → Int32) × (Nat → Int32) × (Nat → Int32) × (Nat → Int32) × (Nat → Int32) × (Nat → Nat → Int32) × (Nat → Nat → Int32) × (Nat → Int32) × (Nat → Nat → Int32) × (Nat → Nat → Int32) × (Nat → Nat → Int32) × (Nat → Nat → Int32) := (kL17 l1 l2 (l3 + (1 : Int32)) (cycle + (1 : Int32)) mwords xstat xaddr xready xnext xret xregs xstore xhcount xhaddr xhcyc xhret xtims)
set_option maxRecDepth 20000 in
theorem j_X10_run_52 {l1 : Int32} {l2 : Int32} {l3 : Int32} {cycle : Int32} {mwheel : Int32} {mwords : Nat → Int32} {xlow : Nat → Int32} {xhigh : Nat → Int32} {xnum : Nat → Int32} {xstat : Nat → Int32} {xaddr : Nat → Int32} {xready : Nat → Int32} {xnext : Nat → Int32} {xret : Nat → Int32} {xregs : Nat → Nat → Int32} {xstore : Nat → Nat → Int32} {xhcount : Nat → Int32} {xhaddr : Nat → Nat → Int32} {xhcyc : Nat → Nat → Int32} {xhret : Nat → Nat → Int32} {xtims : Nat → Nat → Int32} {tlen : Int32} {tchars : Nat → Int32} {acount : Int32} {afk : Int32} {afl : Int32} {aat : Int32} {alabel : Int64} {ahas : Int32} {aword : Int32} {atarget : Int64} {amal : Int32} {amis : Int32} {awords : Nat → Int32} {atargets : Nat → Int64} {alines : Nat → Int32} {lcount : Int32} {lkeys : Nat → Int64} {lplaces : Nat → Int32} {kcount : Int32} {kat : Int32} {kinds : Nat → Int32} {kvals : Nat → Int64} {kL17 : Int32 → Int32 → Int32 → Int32 → (Nat → Int32) → (Nat → Int32) → (Nat → Int32) → (Nat → Int32) → (Nat → Int32) → (Nat → Int32) → (Nat → Nat → Int32) → (Nat → Nat → Int32) → (Nat → Int32) → (Nat → Nat → Int32) → (Nat → Nat → Int32) → (Nat → Nat → Int32) → (Nat → Nat → Int32) → Int32 × Int32 × (Nat → Int32) × (Nat → Int32) × (Nat → Int32) × (Nat → Int32) × (Nat → Int32) × (Nat → Int32) × (Nat → Nat → Int32) × (Nat → Nat → Int32) × (Nat → Int32) × (Nat → Nat → Int32) × (Nat → Nat → Int32) × (Nat → Nat → Int32) × (Nat → Nat → Int32)} {r_0 : Int32} {r_1 : Int32} {r_2 : (Nat → Int32)} {r_3 : (Nat → Int32)} {r_4 : (Nat → Int32)} {r_5 : (Nat → Int32)} {r_6 : (Nat → Int32)} {r_7 : (Nat → Int32)} {r_8 : (Nat → Nat → Int32)} {r_9 : (Nat → Nat → Int32)} {r_10 : (Nat → Int32)} {r_11 : (Nat → Nat → Int32)} {r_12 : (Nat → Nat → Int32)} {r_13 : (Nat → Nat → Int32)} {r_14 : (Nat → Nat → Int32)} (hres : (r_0, r_1, r_2, r_3, r_4, r_5, r_6, r_7, r_8, r_9, r_10, r_11, r_12, r_13, r_14) = (f_X10_run_52 cycle mwords xstat xaddr xready xnext xret xregs xstore xhcount xhaddr xhcyc xhret xtims l1 l2 l3 kL17)) (hlh : ∀ j, j < 4 → 0 ≤ (xlow j).toInt ∧ (xlow j).toInt ≤ (xhigh j).toInt ∧ (xhigh j).toInt ≤ 64) (hwh : 1 ≤ mwheel.toInt ∧ mwheel.toInt ≤ 8) (hn : l1.toInt ≤ 2000) (h3 : 0 ≤ l3.toInt) (hlt : l3.toInt < l1.toInt) {mu : Nat} (hmu : (2000 - l3.toInt.toNat) = mu) (hk17 : ∀ {l1 : Int32} {l2 : Int32} {l3 : Int32} {cycle : Int32} {mwords : Nat → Int32} {xstat : Nat → Int32} {xaddr : Nat → Int32} {xready : Nat → Int32} {xnext : Nat → Int32} {xret : Nat → Int32} {xregs : Nat → Nat → Int32} {xstore : Nat → Nat → Int32} {xhcount : Nat → Int32} {xhaddr : Nat → Nat → Int32} {xhcyc : Nat → Nat → Int32} {xhret : Nat → Nat → Int32} {xtims : Nat → Nat → Int32}, (∀ j, j < 4 → 0 ≤ (xlow j).toInt ∧ (xlow j).toInt ≤ (xhigh j).toInt ∧ (xhigh j).toInt ≤ 64) → (1 ≤ mwheel.toInt ∧ mwheel.toInt ≤ 8) → (l1.toInt ≤ 2000) → (0 ≤ l3.toInt) → (2000 - l3.toInt.toNat) < mu → (r_0, r_1, r_2, r_3, r_4, r_5, r_6, r_7, r_8, r_9, r_10, r_11, r_12, r_13, r_14) = kL17 l1 l2 l3 cycle mwords xstat xaddr xready xnext xret xregs xstore xhcount xhaddr xhcyc xhret xtims → G M_X10_run 0 0 17 [(0, .ref 0), (1, .int l1), (2, .int l2), (3, .int l3)] [] (w_C cycle mwheel mwords xlow xhigh xnum xstat xaddr xready xnext xret xregs xstore xhcount xhaddr xhcyc xhret xtims tlen tchars acount afk afl aat alabel ahas aword atarget amal amis awords atargets alines lcount lkeys lplaces kcount kat kinds kvals) (some (.int r_0)) (w_C r_1 mwheel r_2 xlow xhigh xnum r_3 r_4 r_5 r_6 r_7 r_8 r_9 r_10 r_11 r_12 r_13 r_14 tlen tchars acount afk afl aat alabel ahas aword atarget amal amis awords atargets alines lcount lkeys lplaces kcount kat kinds kvals)) : G M_X10_run 0 0 52 [(0, .ref 0), (1, .int l1), (2, .int l2), (3, .int l3)] [] (w_C cycle mwheel mwords xlow xhigh xnum xstat xaddr xready xnext xret xregs xstore xhcount xhaddr xhcyc xhret xtims tlen tchars acount afk afl aat alabel ahas aword atarget amal amis awords atargets alines lcount lkeys lplaces kcount kat kinds kvals) (some (.int r_0)) (w_C r_1 mwheel r_2 xlow xhigh xnum r_3 r_4 r_5 r_6 r_7 r_8 r_9 r_10 r_11 r_12 r_13 r_14 tlen tchars acount afk afl aat alabel ahas aword atarget amal amis awords atargets alines lcount lkeys lplaces kcount kat kinds kvals) := by
  rw [f_X10_run_52] at hres
  refine G.aload_n (pc := 52) dm_X10_run_52 rfl ?_
  refine G.dup (pc := 53) dm_X10_run_53 rfl ?_
  refine G.getfield (pc := 54) dm_X10_run_54 gf_X10_111 rfl rfl ?_
  refine G.iconst (pc := 57) (v := (1 : Int32)) dm_X10_run_57 qi_1 ?_
  refine G.iadd (pc := 58) dm_X10_run_58 ?_
  refine G.putfield (pc := 59) (ws1 := (w_C (cycle + (1 : Int32)) mwheel mwords xlow xhigh xnum xstat xaddr xready xnext xret xregs xstore xhcount xhaddr xhcyc xhret xtims tlen tchars acount afk afl aat alabel ahas aword atarget amal amis awords atargets alines lcount lkeys lplaces kcount kat kinds kvals)) dm_X10_run_59 gw_X10_111 rfl (g_fit_i _) rfl rfl ?_
  refine G.iinc (pc := 62) (v := (l3 + (1 : Int32))) (lv1 := [(3, .int (l3 + (1 : Int32))), (0, .ref 0), (1, .int l1), (2, .int l2)]) dm_X10_run_62 rfl rfl rfl rfl ?_
  refine G.goto (pc := 65) (tgt := 17) dm_X10_run_65 (by decide) ?_
  refine G.lvp [1, 2, 3, 0] rfl ?_
  exact hk17 hlh hwh hn (by rw [q_inc (by omega)]; omega) (by rw [q_inc (by omega)]; omega) hres
def f_X10_run_c43 (cycle : Int32) (xstat : Nat → Int32) (xaddr : Nat → Int32) (xready : Nat → Int32) (xnext : Nat → Int32) (xret : Nat → Int32) (xregs : Nat → Nat → Int32) (xstore : Nat → Nat → Int32) (xhcount : Nat → Int32) (xhaddr : Nat → Nat → Int32) (xhcyc : Nat → Nat → Int32) (xhret : Nat → Nat → Int32) (xtims : Nat → Nat → Int32) (l1 : Int32) (l2 : Int32) (l3 : Int32) (kL17 : Int32 → Int32 → Int32 → Int32 → (Nat → Int32) → (Nat → Int32) → (Nat → Int32) → (Nat → Int32) → (Nat → Int32) → (Nat → Int32) → (Nat → Nat → Int32) → (Nat → Nat → Int32) → (Nat → Int32) → (Nat → Nat → Int32) → (Nat → Nat → Int32) → (Nat → Nat → Int32) → (Nat → Nat → Int32) → Int32 × Int32 × (Nat → Int32) × (Nat → Int32) × (Nat → Int32) × (Nat → Int32) × (Nat → Int32) × (Nat → Int32) × (Nat → Nat → Int32) × (Nat → Nat → Int32) × (Nat → Int32) × (Nat → Nat → Int32) × (Nat → Nat → Int32) × (Nat → Nat → Int32) × (Nat → Nat → Int32)) (z1_0 : Int32) (z2_0 : Int32) (z2_1 : Int32) (z2_2 : Int32) (z2_3 : Int32) (z2_4 : Int32) (z2_5 : Int32) (z2_6 : (Nat → Int32)) (z2_7 : (Nat → Int32)) (z2_8 : Int32) (z2_9 : (Nat → Int32)) (z2_10 : (Nat → Int32)) (z2_11 : (Nat → Int32)) (z2_12 : (Nat → Int32)) (z2_13 : (Nat → Int32)) : Int32 × Int32 × (Nat → Int32) × (Nat → Int32) × (Nat → Int32) × (Nat → Int32) × (Nat → Int32) × (Nat → Int32) × (Nat → Nat → Int32) × (Nat → Nat → Int32) × (Nat → Int32) × (Nat → Nat → Int32) × (Nat → Nat → Int32) × (Nat → Nat → Int32) × (Nat → Nat → Int32) := (if z2_0 = 0 then (f_X10_run_52 cycle z2_13 (g_up xstat (Int32.toNatClampNeg z1_0) z2_1) (g_up xaddr (Int32.toNatClampNeg z1_0) z2_2) (g_up xready (Int32.toNatClampNeg z1_0) z2_3) (g_up xnext (Int32.toNatClampNeg z1_0) z2_4) (g_up xret (Int32.toNatClampNeg z1_0) z2_5) (g_up xregs (Int32.toNatClampNeg z1_0) z2_6) (g_up xstore (Int32.toNatClampNeg z1_0) z2_7) (g_up xhcount (Int32.toNatClampNeg z1_0) z2_8) (g_up xhaddr (Int32.toNatClampNeg z1_0) z2_9) (g_up xhcyc (Int32.toNatClampNeg z1_0) z2_10) (g_up xhret (Int32.toNatClampNeg z1_0) z2_11) (g_up xtims (Int32.toNatClampNeg z1_0) z2_12) l1 l2 l3 kL17) else (f_X10_run_52 cycle z2_13 (g_up xstat (Int32.toNatClampNeg z1_0) z2_1) (g_up xaddr (Int32.toNatClampNeg z1_0) z2_2) (g_up xready (Int32.toNatClampNeg z1_0) z2_3) (g_up xnext (Int32.toNatClampNeg z1_0) z2_4) (g_up xret (Int32.toNatClampNeg z1_0) z2_5) (g_up xregs (Int32.toNatClampNeg z1_0) z2_6) (g_up xstore (Int32.toNatClampNeg z1_0) z2_7) (g_up xhcount (Int32.toNatClampNeg z1_0) z2_8) (g_up xhaddr (Int32.toNatClampNeg z1_0) z2_9) (g_up xhcyc (Int32.toNatClampNeg z1_0) z2_10) (g_up xhret (Int32.toNatClampNeg z1_0) z2_11) (g_up xtims (Int32.toNatClampNeg z1_0) z2_12) l1 (l2 + (1 : Int32)) l3 kL17))
def f_X10_run_c31 (cycle : Int32) (mwheel : Int32) (mwords : Nat → Int32) (xlow : Nat → Int32) (xhigh : Nat → Int32) (xnum : Nat → Int32) (xstat : Nat → Int32) (xaddr : Nat → Int32) (xready : Nat → Int32) (xnext : Nat → Int32) (xret : Nat → Int32) (xregs : Nat → Nat → Int32) (xstore : Nat → Nat → Int32) (xhcount : Nat → Int32) (xhaddr : Nat → Nat → Int32) (xhcyc : Nat → Nat → Int32) (xhret : Nat → Nat → Int32) (xtims : Nat → Nat → Int32) (l1 : Int32) (l2 : Int32) (l3 : Int32) (kL17 : Int32 → Int32 → Int32 → Int32 → (Nat → Int32) → (Nat → Int32) → (Nat → Int32) → (Nat → Int32) → (Nat → Int32) → (Nat → Int32) → (Nat → Nat → Int32) → (Nat → Nat → Int32) → (Nat → Int32) → (Nat → Nat → Int32) → (Nat → Nat → Int32) → (Nat → Nat → Int32) → (Nat → Nat → Int32) → Int32 × Int32 × (Nat → Int32) × (Nat → Int32) × (Nat → Int32) × (Nat → Int32) × (Nat → Int32) × (Nat → Int32) × (Nat → Nat → Int32) × (Nat → Nat → Int32) × (Nat → Int32) × (Nat → Nat → Int32) × (Nat → Nat → Int32) × (Nat → Nat → Int32) × (Nat → Nat → Int32)) (z1_0 : Int32) : Int32 × Int32 × (Nat → Int32) × (Nat → Int32) × (Nat → Int32) × (Nat → Int32) × (Nat → Int32) × (Nat → Int32) × (Nat → Nat → Int32) × (Nat → Nat → Int32) × (Nat → Int32) × (Nat → Nat → Int32) × (Nat → Nat → Int32) × (Nat → Nat → Int32) × (Nat → Nat → Int32) := (f_X10_run_c43 cycle xstat xaddr xready xnext xret xregs xstore xhcount xhaddr xhcyc xhret xtims l1 l2 l3 kL17 z1_0 (f_X8_takeTurn cycle (xlow (Int32.toNatClampNeg z1_0)) (xhigh (Int32.toNatClampNeg z1_0)) (xnum (Int32.toNatClampNeg z1_0)) (xstat (Int32.toNatClampNeg z1_0)) (xaddr (Int32.toNatClampNeg z1_0)) (xready (Int32.toNatClampNeg z1_0)) (xnext (Int32.toNatClampNeg z1_0)) (xret (Int32.toNatClampNeg z1_0)) (xregs (Int32.toNatClampNeg z1_0)) (xstore (Int32.toNatClampNeg z1_0)) (xhcount (Int32.toNatClampNeg z1_0)) (xhaddr (Int32.toNatClampNeg z1_0)) (xhcyc (Int32.toNatClampNeg z1_0)) (xhret (Int32.toNatClampNeg z1_0)) (xtims (Int32.toNatClampNeg z1_0)) mwheel mwords).1 (f_X8_takeTurn cycle (xlow (Int32.toNatClampNeg z1_0)) (xhigh (Int32.toNatClampNeg z1_0)) (xnum (Int32.toNatClampNeg z1_0)) (xstat (Int32.toNatClampNeg z1_0)) (xaddr (Int32.toNatClampNeg z1_0)) (xready (Int32.toNatClampNeg z1_0)) (xnext (Int32.toNatClampNeg z1_0)) (xret (Int32.toNatClampNeg z1_0)) (xregs (Int32.toNatClampNeg z1_0)) (xstore (Int32.toNatClampNeg z1_0)) (xhcount (Int32.toNatClampNeg z1_0)) (xhaddr (Int32.toNatClampNeg z1_0)) (xhcyc (Int32.toNatClampNeg z1_0)) (xhret (Int32.toNatClampNeg z1_0)) (xtims (Int32.toNatClampNeg z1_0)) mwheel mwords).2.1 (f_X8_takeTurn cycle (xlow (Int32.toNatClampNeg z1_0)) (xhigh (Int32.toNatClampNeg z1_0)) (xnum (Int32.toNatClampNeg z1_0)) (xstat (Int32.toNatClampNeg z1_0)) (xaddr (Int32.toNatClampNeg z1_0)) (xready (Int32.toNatClampNeg z1_0)) (xnext (Int32.toNatClampNeg z1_0)) (xret (Int32.toNatClampNeg z1_0)) (xregs (Int32.toNatClampNeg z1_0)) (xstore (Int32.toNatClampNeg z1_0)) (xhcount (Int32.toNatClampNeg z1_0)) (xhaddr (Int32.toNatClampNeg z1_0)) (xhcyc (Int32.toNatClampNeg z1_0)) (xhret (Int32.toNatClampNeg z1_0)) (xtims (Int32.toNatClampNeg z1_0)) mwheel mwords).2.2.1 (f_X8_takeTurn cycle (xlow (Int32.toNatClampNeg z1_0)) (xhigh (Int32.toNatClampNeg z1_0)) (xnum (Int32.toNatClampNeg z1_0)) (xstat (Int32.toNatClampNeg z1_0)) (xaddr (Int32.toNatClampNeg z1_0)) (xready (Int32.toNatClampNeg z1_0)) (xnext (Int32.toNatClampNeg z1_0)) (xret (Int32.toNatClampNeg z1_0)) (xregs (Int32.toNatClampNeg z1_0)) (xstore (Int32.toNatClampNeg z1_0)) (xhcount (Int32.toNatClampNeg z1_0)) (xhaddr (Int32.toNatClampNeg z1_0)) (xhcyc (Int32.toNatClampNeg z1_0)) (xhret (Int32.toNatClampNeg z1_0)) (xtims (Int32.toNatClampNeg z1_0)) mwheel mwords).2.2.2.1 (f_X8_takeTurn cycle (xlow (Int32.toNatClampNeg z1_0)) (xhigh (Int32.toNatClampNeg z1_0)) (xnum (Int32.toNatClampNeg z1_0)) (xstat (Int32.toNatClampNeg z1_0)) (xaddr (Int32.toNatClampNeg z1_0)) (xready (Int32.toNatClampNeg z1_0)) (xnext (Int32.toNatClampNeg z1_0)) (xret (Int32.toNatClampNeg z1_0)) (xregs (Int32.toNatClampNeg z1_0)) (xstore (Int32.toNatClampNeg z1_0)) (xhcount (Int32.toNatClampNeg z1_0)) (xhaddr (Int32.toNatClampNeg z1_0)) (xhcyc (Int32.toNatClampNeg z1_0)) (xhret (Int32.toNatClampNeg z1_0)) (xtims (Int32.toNatClampNeg z1_0)) mwheel mwords).2.2.2.2.1 (f_X8_takeTurn cycle (xlow (Int32.toNatClampNeg z1_0)) (xhigh (Int32.toNatClampNeg z1_0)) (xnum (Int32.toNatClampNeg z1_0)) (xstat (Int32.toNatClampNeg z1_0)) (xaddr (Int32.toNatClampNeg z1_0)) (xready (Int32.toNatClampNeg z1_0)) (xnext (Int32.toNatClampNeg z1_0)) (xret (Int32.toNatClampNeg z1_0)) (xregs (Int32.toNatClampNeg z1_0)) (xstore (Int32.toNatClampNeg z1_0)) (xhcount (Int32.toNatClampNeg z1_0)) (xhaddr (Int32.toNatClampNeg z1_0)) (xhcyc (Int32.toNatClampNeg z1_0)) (xhret (Int32.toNatClampNeg z1_0)) (xtims (Int32.toNatClampNeg z1_0)) mwheel mwords).2.2.2.2.2.1 (f_X8_takeTurn cycle (xlow (Int32.toNatClampNeg z1_0)) (xhigh (Int32.toNatClampNeg z1_0)) (xnum (Int32.toNatClampNeg z1_0)) (xstat (Int32.toNatClampNeg z1_0)) (xaddr (Int32.toNatClampNeg z1_0)) (xready (Int32.toNatClampNeg z1_0)) (xnext (Int32.toNatClampNeg z1_0)) (xret (Int32.toNatClampNeg z1_0)) (xregs (Int32.toNatClampNeg z1_0)) (xstore (Int32.toNatClampNeg z1_0)) (xhcount (Int32.toNatClampNeg z1_0)) (xhaddr (Int32.toNatClampNeg z1_0)) (xhcyc (Int32.toNatClampNeg z1_0)) (xhret (Int32.toNatClampNeg z1_0)) (xtims (Int32.toNatClampNeg z1_0)) mwheel mwords).2.2.2.2.2.2.1 (f_X8_takeTurn cycle (xlow (Int32.toNatClampNeg z1_0)) (xhigh (Int32.toNatClampNeg z1_0)) (xnum (Int32.toNatClampNeg z1_0)) (xstat (Int32.toNatClampNeg z1_0)) (xaddr (Int32.toNatClampNeg z1_0)) (xready (Int32.toNatClampNeg z1_0)) (xnext (Int32.toNatClampNeg z1_0)) (xret (Int32.toNatClampNeg z1_0)) (xregs (Int32.toNatClampNeg z1_0)) (xstore (Int32.toNatClampNeg z1_0)) (xhcount (Int32.toNatClampNeg z1_0)) (xhaddr (Int32.toNatClampNeg z1_0)) (xhcyc (Int32.toNatClampNeg z1_0)) (xhret (Int32.toNatClampNeg z1_0)) (xtims (Int32.toNatClampNeg z1_0)) mwheel mwords).2.2.2.2.2.2.2.1 (f_X8_takeTurn cycle (xlow (Int32.toNatClampNeg z1_0)) (xhigh (Int32.toNatClampNeg z1_0)) (xnum (Int32.toNatClampNeg z1_0)) (xstat (Int32.toNatClampNeg z1_0)) (xaddr (Int32.toNatClampNeg z1_0)) (xready (Int32.toNatClampNeg z1_0)) (xnext (Int32.toNatClampNeg z1_0)) (xret (Int32.toNatClampNeg z1_0)) (xregs (Int32.toNatClampNeg z1_0)) (xstore (Int32.toNatClampNeg z1_0)) (xhcount (Int32.toNatClampNeg z1_0)) (xhaddr (Int32.toNatClampNeg z1_0)) (xhcyc (Int32.toNatClampNeg z1_0)) (xhret (Int32.toNatClampNeg z1_0)) (xtims (Int32.toNatClampNeg z1_0)) mwheel mwords).2.2.2.2.2.2.2.2.1 (f_X8_takeTurn cycle (xlow (Int32.toNatClampNeg z1_0)) (xhigh (Int32.toNatClampNeg z1_0)) (xnum (Int32.toNatClampNeg z1_0)) (xstat (Int32.toNatClampNeg z1_0)) (xaddr (Int32.toNatClampNeg z1_0)) (xready (Int32.toNatClampNeg z1_0)) (xnext (Int32.toNatClampNeg z1_0)) (xret (Int32.toNatClampNeg z1_0)) (xregs (Int32.toNatClampNeg z1_0)) (xstore (Int32.toNatClampNeg z1_0)) (xhcount (Int32.toNatClampNeg z1_0)) (xhaddr (Int32.toNatClampNeg z1_0)) (xhcyc (Int32.toNatClampNeg z1_0)) (xhret (Int32.toNatClampNeg z1_0)) (xtims (Int32.toNatClampNeg z1_0)) mwheel mwords).2.2.2.2.2.2.2.2.2.1 (f_X8_takeTurn cycle (xlow (Int32.toNatClampNeg z1_0)) (xhigh (Int32.toNatClampNeg z1_0)) (xnum (Int32.toNatClampNeg z1_0)) (xstat (Int32.toNatClampNeg z1_0)) (xaddr (Int32.toNatClampNeg z1_0)) (xready (Int32.toNatClampNeg z1_0)) (xnext (Int32.toNatClampNeg z1_0)) (xret (Int32.toNatClampNeg z1_0)) (xregs (Int32.toNatClampNeg z1_0)) (xstore (Int32.toNatClampNeg z1_0)) (xhcount (Int32.toNatClampNeg z1_0)) (xhaddr (Int32.toNatClampNeg z1_0)) (xhcyc (Int32.toNatClampNeg z1_0)) (xhret (Int32.toNatClampNeg z1_0)) (xtims (Int32.toNatClampNeg z1_0)) mwheel mwords).2.2.2.2.2.2.2.2.2.2.1 (f_X8_takeTurn cycle (xlow (Int32.toNatClampNeg z1_0)) (xhigh (Int32.toNatClampNeg z1_0)) (xnum (Int32.toNatClampNeg z1_0)) (xstat (Int32.toNatClampNeg z1_0)) (xaddr (Int32.toNatClampNeg z1_0)) (xready (Int32.toNatClampNeg z1_0)) (xnext (Int32.toNatClampNeg z1_0)) (xret (Int32.toNatClampNeg z1_0)) (xregs (Int32.toNatClampNeg z1_0)) (xstore (Int32.toNatClampNeg z1_0)) (xhcount (Int32.toNatClampNeg z1_0)) (xhaddr (Int32.toNatClampNeg z1_0)) (xhcyc (Int32.toNatClampNeg z1_0)) (xhret (Int32.toNatClampNeg z1_0)) (xtims (Int32.toNatClampNeg z1_0)) mwheel mwords).2.2.2.2.2.2.2.2.2.2.2.1 (f_X8_takeTurn cycle (xlow (Int32.toNatClampNeg z1_0)) (xhigh (Int32.toNatClampNeg z1_0)) (xnum (Int32.toNatClampNeg z1_0)) (xstat (Int32.toNatClampNeg z1_0)) (xaddr (Int32.toNatClampNeg z1_0)) (xready (Int32.toNatClampNeg z1_0)) (xnext (Int32.toNatClampNeg z1_0)) (xret (Int32.toNatClampNeg z1_0)) (xregs (Int32.toNatClampNeg z1_0)) (xstore (Int32.toNatClampNeg z1_0)) (xhcount (Int32.toNatClampNeg z1_0)) (xhaddr (Int32.toNatClampNeg z1_0)) (xhcyc (Int32.toNatClampNeg z1_0)) (xhret (Int32.toNatClampNeg z1_0)) (xtims (Int32.toNatClampNeg z1_0)) mwheel mwords).2.2.2.2.2.2.2.2.2.2.2.2.1 (f_X8_takeTurn cycle (xlow (Int32.toNatClampNeg z1_0)) (xhigh (Int32.toNatClampNeg z1_0)) (xnum (Int32.toNatClampNeg z1_0)) (xstat (Int32.toNatClampNeg z1_0)) (xaddr (Int32.toNatClampNeg z1_0)) (xready (Int32.toNatClampNeg z1_0)) (xnext (Int32.toNatClampNeg z1_0)) (xret (Int32.toNatClampNeg z1_0)) (xregs (Int32.toNatClampNeg z1_0)) (xstore (Int32.toNatClampNeg z1_0)) (xhcount (Int32.toNatClampNeg z1_0)) (xhaddr (Int32.toNatClampNeg z1_0)) (xhcyc (Int32.toNatClampNeg z1_0)) (xhret (Int32.toNatClampNeg z1_0)) (xtims (Int32.toNatClampNeg z1_0)) mwheel mwords).2.2.2.2.2.2.2.2.2.2.2.2.2)
def f_X10_run_17 (mwheel : Int32) (xlow : Nat → Int32) (xhigh : Nat → Int32) (xnum : Nat → Int32) : Nat → Int32 → Int32 → Int32 → Int32 → (Nat → Int32) → (Nat → Int32) → (Nat → Int32) → (Nat → Int32) → (Nat → Int32) → (Nat → Int32) → (Nat → Nat → Int32) → (Nat → Nat → Int32) → (Nat → Int32) → (Nat → Nat → Int32) → (Nat → Nat → Int32) → (Nat → Nat → Int32) → (Nat → Nat → Int32) → Int32 × Int32 × (Nat → Int32) × (Nat → Int32) × (Nat → Int32) × (Nat → Int32) × (Nat → Int32) × (Nat → Int32) × (Nat → Nat → Int32) × (Nat → Nat → Int32) × (Nat → Int32) × (Nat → Nat → Int32) × (Nat → Nat → Int32) × (Nat → Nat → Int32) × (Nat → Nat → Int32)
  | 0, l1, l2, l3, cycle, mwords, xstat, xaddr, xready, xnext, xret, xregs, xstore, xhcount, xhaddr, xhcyc, xhret, xtims => (0, cycle, mwords, xstat, xaddr, xready, xnext, xret, xregs, xstore, xhcount, xhaddr, xhcyc, xhret, xtims)
  | n + 1, l1, l2, l3, cycle, mwords, xstat, xaddr, xready, xnext, xret, xregs, xstore, xhcount, xhaddr, xhcyc, xhret, xtims => (if l1 ≤ l3 then (l2, cycle, mwords, xstat, xaddr, xready, xnext, xret, xregs, xstore, xhcount, xhaddr, xhcyc, xhret, xtims) else (f_X10_run_c31 cycle mwheel mwords xlow xhigh xnum xstat xaddr xready xnext xret xregs xstore xhcount xhaddr xhcyc xhret xtims l1 l2 l3 (f_X10_run_17 mwheel xlow xhigh xnum n) (f_J9_floorMod_7cf53 cycle (4 : Int32))))
set_option maxRecDepth 20000 in
theorem j_X10_run_17 : ∀ (n : Nat) {l1 : Int32} {l2 : Int32} {l3 : Int32} {cycle : Int32} {mwheel : Int32} {mwords : Nat → Int32} {xlow : Nat → Int32} {xhigh : Nat → Int32} {xnum : Nat → Int32} {xstat : Nat → Int32} {xaddr : Nat → Int32} {xready : Nat → Int32} {xnext : Nat → Int32} {xret : Nat → Int32} {xregs : Nat → Nat → Int32} {xstore : Nat → Nat → Int32} {xhcount : Nat → Int32} {xhaddr : Nat → Nat → Int32} {xhcyc : Nat → Nat → Int32} {xhret : Nat → Nat → Int32} {xtims : Nat → Nat → Int32} {tlen : Int32} {tchars : Nat → Int32} {acount : Int32} {afk : Int32} {afl : Int32} {aat : Int32} {alabel : Int64} {ahas : Int32} {aword : Int32} {atarget : Int64} {amal : Int32} {amis : Int32} {awords : Nat → Int32} {atargets : Nat → Int64} {alines : Nat → Int32} {lcount : Int32} {lkeys : Nat → Int64} {lplaces : Nat → Int32} {kcount : Int32} {kat : Int32} {kinds : Nat → Int32} {kvals : Nat → Int64} {r_0 : Int32} {r_1 : Int32} {r_2 : (Nat → Int32)} {r_3 : (Nat → Int32)} {r_4 : (Nat → Int32)} {r_5 : (Nat → Int32)} {r_6 : (Nat → Int32)} {r_7 : (Nat → Int32)} {r_8 : (Nat → Nat → Int32)} {r_9 : (Nat → Nat → Int32)} {r_10 : (Nat → Int32)} {r_11 : (Nat → Nat → Int32)} {r_12 : (Nat → Nat → Int32)} {r_13 : (Nat → Nat → Int32)} {r_14 : (Nat → Nat → Int32)}, (hlh : ∀ j, j < 4 → 0 ≤ (xlow j).toInt ∧ (xlow j).toInt ≤ (xhigh j).toInt ∧ (xhigh j).toInt ≤ 64) → (hwh : 1 ≤ mwheel.toInt ∧ mwheel.toInt ≤ 8) → (hn : l1.toInt ≤ 2000) → (h3 : 0 ≤ l3.toInt) → (2000 - l3.toInt.toNat) < n → (r_0, r_1, r_2, r_3, r_4, r_5, r_6, r_7, r_8, r_9, r_10, r_11, r_12, r_13, r_14) = f_X10_run_17 mwheel xlow xhigh xnum n l1 l2 l3 cycle mwords xstat xaddr xready xnext xret xregs xstore xhcount xhaddr xhcyc xhret xtims → G M_X10_run 0 0 17 [(0, .ref 0), (1, .int l1), (2, .int l2), (3, .int l3)] [] (w_C cycle mwheel mwords xlow xhigh xnum xstat xaddr xready xnext xret xregs xstore xhcount xhaddr xhcyc xhret xtims tlen tchars acount afk afl aat alabel ahas aword atarget amal amis awords atargets alines lcount lkeys lplaces kcount kat kinds kvals) (some (.int r_0)) (w_C r_1 mwheel r_2 xlow xhigh xnum r_3 r_4 r_5 r_6 r_7 r_8 r_9 r_10 r_11 r_12 r_13 r_14 tlen tchars acount afk afl aat alabel ahas aword atarget amal amis awords atargets alines lcount lkeys lplaces kcount kat kinds kvals) := by
  intro n
  induction n with
  | zero =>
    intro l1 l2 l3 cycle mwheel mwords xlow xhigh xnum xstat xaddr xready xnext xret xregs xstore xhcount xhaddr xhcyc xhret xtims tlen tchars acount afk afl aat alabel ahas aword atarget amal amis awords atargets alines lcount lkeys lplaces kcount kat kinds kvals r_0 r_1 r_2 r_3 r_4 r_5 r_6 r_7 r_8 r_9 r_10 r_11 r_12 r_13 r_14 hlh hwh hn h3 hm hres
    exact absurd hm (Nat.not_lt_zero _)
  | succ n ih =>
    intro l1 l2 l3 cycle mwheel mwords xlow xhigh xnum xstat xaddr xready xnext xret xregs xstore xhcount xhaddr xhcyc xhret xtims tlen tchars acount afk afl aat alabel ahas aword atarget amal amis awords atargets alines lcount lkeys lplaces kcount kat kinds kvals r_0 r_1 r_2 r_3 r_4 r_5 r_6 r_7 r_8 r_9 r_10 r_11 r_12 r_13 r_14 hlh hwh hn h3 hm hres
    obtain ⟨mu, hmu⟩ : ∃ z, (2000 - l3.toInt.toNat) = z := ⟨_, rfl⟩
    rw [hmu] at hm
    have hk17 : ∀ {l1 : Int32} {l2 : Int32} {l3 : Int32} {cycle : Int32} {mwords : Nat → Int32} {xstat : Nat → Int32} {xaddr : Nat → Int32} {xready : Nat → Int32} {xnext : Nat → Int32} {xret : Nat → Int32} {xregs : Nat → Nat → Int32} {xstore : Nat → Nat → Int32} {xhcount : Nat → Int32} {xhaddr : Nat → Nat → Int32} {xhcyc : Nat → Nat → Int32} {xhret : Nat → Nat → Int32} {xtims : Nat → Nat → Int32}, (∀ j, j < 4 → 0 ≤ (xlow j).toInt ∧ (xlow j).toInt ≤ (xhigh j).toInt ∧ (xhigh j).toInt ≤ 64) → (1 ≤ mwheel.toInt ∧ mwheel.toInt ≤ 8) → (l1.toInt ≤ 2000) → (0 ≤ l3.toInt) → (2000 - l3.toInt.toNat) < mu → (r_0, r_1, r_2, r_3, r_4, r_5, r_6, r_7, r_8, r_9, r_10, r_11, r_12, r_13, r_14) = (f_X10_run_17 mwheel xlow xhigh xnum n) l1 l2 l3 cycle mwords xstat xaddr xready xnext xret xregs xstore xhcount xhaddr xhcyc xhret xtims → G M_X10_run 0 0 17 [(0, .ref 0), (1, .int l1), (2, .int l2), (3, .int l3)] [] (w_C cycle mwheel mwords xlow xhigh xnum xstat xaddr xready xnext xret xregs xstore xhcount xhaddr xhcyc xhret xtims tlen tchars acount afk afl aat alabel ahas aword atarget amal amis awords atargets alines lcount lkeys lplaces kcount kat kinds kvals) (some (.int r_0)) (w_C r_1 mwheel r_2 xlow xhigh xnum r_3 r_4 r_5 r_6 r_7 r_8 r_9 r_10 r_11 r_12 r_13 r_14 tlen tchars acount afk afl aat alabel ahas aword atarget amal amis awords atargets alines lcount lkeys lplaces kcount kat kinds kvals) := fun hlh hwh hn h3 hlt he => ih hlh hwh hn h3 (Nat.lt_of_lt_of_le hlt (Nat.le_of_lt_succ hm)) he
    rw [f_X10_run_17] at hres
    refine G.iload_n (pc := 17) dm_X10_run_17 rfl ?_
    refine G.iload_n (pc := 18) dm_X10_run_18 rfl ?_
    refine G.icmp_ge (pc := 19) (tgt := 68) dm_X10_run_19 (by decide) (fun c19 => ?_) (fun c19 => ?_)
    · rw [if_pos c19] at hres
      refine G.iload_n (pc := 68) dm_X10_run_68 rfl ?_
      cases hres
      exact G.ireturn (pc := 69) dm_X10_run_69 rfl rfl rfl
    · rw [if_neg c19] at hres
      have hlt := q_nle c19
      refine G.aload_n (pc := 22) dm_X10_run_22 rfl ?_
      refine G.getfield (pc := 23) dm_X10_run_23 gf_X10_29 rfl rfl ?_
      refine G.aload_n (pc := 26) dm_X10_run_26 rfl ?_
      refine G.getfield (pc := 27) dm_X10_run_27 gf_X10_111 rfl rfl ?_
      refine G.iconst (pc := 30) (v := (4 : Int32)) dm_X10_run_30 qi_4 ?_
      obtain ⟨z1_0, hz1⟩ := g_ex1 (f_J9_floorMod_7cf53 cycle (4 : Int32))
      refine G.callS (pc := 31) (rest := [.ref 3]) (st1 := [.int z1_0, .ref 3]) (ws1 := (w_C cycle mwheel mwords xlow xhigh xnum xstat xaddr xready xnext xret xregs xstore xhcount xhaddr xhcyc xhret xtims tlen tchars acount afk afl aat alabel ahas aword atarget amal amis awords atargets alines lcount lkeys lplaces kcount kat kinds kvals)) [] dm_X10_run_31 gc_X10_run_118 (k_J9_floorMod_7cf53 (x := cycle) (y := (4 : Int32)) (by decide) hz1) rfl rfl rfl rfl rfl rfl rfl rfl ?_
      have ht4 := q_t (a_fm4 hz1)
      replace hres : (r_0, r_1, r_2, r_3, r_4, r_5, r_6, r_7, r_8, r_9, r_10, r_11, r_12, r_13, r_14) = f_X10_run_c31 cycle mwheel mwords xlow xhigh xnum xstat xaddr xready xnext xret xregs xstore xhcount xhaddr xhcyc xhret xtims l1 l2 l3 (f_X10_run_17 mwheel xlow xhigh xnum n) z1_0 := hres.trans (by rw [← hz1])
      rw [f_X10_run_c31] at hres
      rcases g_four ht4 with eT | eT | eT | eT
      · try rw [eT] at hres
        refine G.aaload (pc := 34) dm_X10_run_34 rfl ht4 (by rw [eT]) ?_
        refine G.aload_n (pc := 35) dm_X10_run_35 rfl ?_
        refine G.getfield (pc := 36) dm_X10_run_36 gf_X10_111 rfl rfl ?_
        refine G.aload_n (pc := 39) dm_X10_run_39 rfl ?_
        refine G.getfield (pc := 40) dm_X10_run_40 gf_X10_23 rfl rfl ?_
        obtain ⟨z2_0, z2_1, z2_2, z2_3, z2_4, z2_5, z2_6, z2_7, z2_8, z2_9, z2_10, z2_11, z2_12, z2_13, hz2⟩ := g_ex14 (f_X8_takeTurn cycle (xlow 0) (xhigh 0) (xnum 0) (xstat 0) (xaddr 0) (xready 0) (xnext 0) (xret 0) (xregs 0) (xstore 0) (xhcount 0) (xhaddr 0) (xhcyc 0) (xhret 0) (xtims 0) mwheel mwords)
        refine G.callV (pc := 43) (rest := []) (st1 := [.int z2_0]) (ws1 := (w_C cycle mwheel z2_13 xlow xhigh xnum (g_up xstat 0 z2_1) (g_up xaddr 0 z2_2) (g_up xready 0 z2_3) (g_up xnext 0 z2_4) (g_up xret 0 z2_5) (g_up xregs 0 z2_6) (g_up xstore 0 z2_7) (g_up xhcount 0 z2_8) (g_up xhaddr 0 z2_9) (g_up xhcyc 0 z2_10) (g_up xhret 0 z2_11) (g_up xtims 0 z2_12) tlen tchars acount afk afl aat alabel ahas aword atarget amal amis awords atargets alines lcount lkeys lplaces kcount kat kinds kvals)) [4, 5, 6, 7, 8, 9, 10, 11, 1, 2] dm_X10_run_43 gc_X10_run_121 (k_X8_takeTurn (cycle := cycle) (tlow := (xlow 0)) (thigh := (xhigh 0)) (tnum := (xnum 0)) (tstat := (xstat 0)) (taddr := (xaddr 0)) (tready := (xready 0)) (tnext := (xnext 0)) (tret := (xret 0)) (regs := (xregs 0)) (tstore := (xstore 0)) (hcount := (xhcount 0)) (haddr := (xhaddr 0)) (hcyc := (xhcyc 0)) (hret := (xhret 0)) (tims := (xtims 0)) (mwheel := mwheel) (mwords := mwords) (hlh 0 (by decide)) hwh hz2) rfl rfl rfl rfl rfl rfl rfl rfl rfl rfl ?_
        replace hres : (r_0, r_1, r_2, r_3, r_4, r_5, r_6, r_7, r_8, r_9, r_10, r_11, r_12, r_13, r_14) = f_X10_run_c43 cycle xstat xaddr xready xnext xret xregs xstore xhcount xhaddr xhcyc xhret xtims l1 l2 l3 (f_X10_run_17 mwheel xlow xhigh xnum n) z1_0 z2_0 z2_1 z2_2 z2_3 z2_4 z2_5 z2_6 z2_7 z2_8 z2_9 z2_10 z2_11 z2_12 z2_13 := hres.trans (by rw [← hz2])
        rw [f_X10_run_c43] at hres
        try rw [eT] at hres
        refine G.if_eq (pc := 46) (tgt := 52) dm_X10_run_46 (by decide) (fun c46 => ?_) (fun c46 => ?_)
        · rw [if_pos c46] at hres
          exact j_X10_run_52 hres (by assumption) (by assumption) (by assumption) (by assumption) (by assumption) hmu hk17
        · rw [if_neg c46] at hres
          refine G.iinc (pc := 49) (v := (l2 + (1 : Int32))) (lv1 := [(2, .int (l2 + (1 : Int32))), (0, .ref 0), (1, .int l1), (3, .int l3)]) dm_X10_run_49 rfl rfl rfl rfl ?_
          refine G.lvp [1, 2, 0, 3] rfl ?_
          exact j_X10_run_52 hres (by assumption) (by assumption) (by assumption) (by assumption) (by assumption) hmu hk17
      · try rw [eT] at hres
        refine G.aaload (pc := 34) dm_X10_run_34 rfl ht4 (by rw [eT]) ?_
        refine G.aload_n (pc := 35) dm_X10_run_35 rfl ?_
        refine G.getfield (pc := 36) dm_X10_run_36 gf_X10_111 rfl rfl ?_
        refine G.aload_n (pc := 39) dm_X10_run_39 rfl ?_
        refine G.getfield (pc := 40) dm_X10_run_40 gf_X10_23 rfl rfl ?_
        obtain ⟨z2_0, z2_1, z2_2, z2_3, z2_4, z2_5, z2_6, z2_7, z2_8, z2_9, z2_10, z2_11, z2_12, z2_13, hz2⟩ := g_ex14 (f_X8_takeTurn cycle (xlow 1) (xhigh 1) (xnum 1) (xstat 1) (xaddr 1) (xready 1) (xnext 1) (xret 1) (xregs 1) (xstore 1) (xhcount 1) (xhaddr 1) (xhcyc 1) (xhret 1) (xtims 1) mwheel mwords)
        refine G.callV (pc := 43) (rest := []) (st1 := [.int z2_0]) (ws1 := (w_C cycle mwheel z2_13 xlow xhigh xnum (g_up xstat 1 z2_1) (g_up xaddr 1 z2_2) (g_up xready 1 z2_3) (g_up xnext 1 z2_4) (g_up xret 1 z2_5) (g_up xregs 1 z2_6) (g_up xstore 1 z2_7) (g_up xhcount 1 z2_8) (g_up xhaddr 1 z2_9) (g_up xhcyc 1 z2_10) (g_up xhret 1 z2_11) (g_up xtims 1 z2_12) tlen tchars acount afk afl aat alabel ahas aword atarget amal amis awords atargets alines lcount lkeys lplaces kcount kat kinds kvals)) [12, 13, 14, 15, 16, 17, 18, 19, 1, 2] dm_X10_run_43 gc_X10_run_121 (k_X8_takeTurn (cycle := cycle) (tlow := (xlow 1)) (thigh := (xhigh 1)) (tnum := (xnum 1)) (tstat := (xstat 1)) (taddr := (xaddr 1)) (tready := (xready 1)) (tnext := (xnext 1)) (tret := (xret 1)) (regs := (xregs 1)) (tstore := (xstore 1)) (hcount := (xhcount 1)) (haddr := (xhaddr 1)) (hcyc := (xhcyc 1)) (hret := (xhret 1)) (tims := (xtims 1)) (mwheel := mwheel) (mwords := mwords) (hlh 1 (by decide)) hwh hz2) rfl rfl rfl rfl rfl rfl rfl rfl rfl rfl ?_
        replace hres : (r_0, r_1, r_2, r_3, r_4, r_5, r_6, r_7, r_8, r_9, r_10, r_11, r_12, r_13, r_14) = f_X10_run_c43 cycle xstat xaddr xready xnext xret xregs xstore xhcount xhaddr xhcyc xhret xtims l1 l2 l3 (f_X10_run_17 mwheel xlow xhigh xnum n) z1_0 z2_0 z2_1 z2_2 z2_3 z2_4 z2_5 z2_6 z2_7 z2_8 z2_9 z2_10 z2_11 z2_12 z2_13 := hres.trans (by rw [← hz2])
        rw [f_X10_run_c43] at hres
        try rw [eT] at hres
        refine G.if_eq (pc := 46) (tgt := 52) dm_X10_run_46 (by decide) (fun c46 => ?_) (fun c46 => ?_)
        · rw [if_pos c46] at hres
          exact j_X10_run_52 hres (by assumption) (by assumption) (by assumption) (by assumption) (by assumption) hmu hk17
        · rw [if_neg c46] at hres
          refine G.iinc (pc := 49) (v := (l2 + (1 : Int32))) (lv1 := [(2, .int (l2 + (1 : Int32))), (0, .ref 0), (1, .int l1), (3, .int l3)]) dm_X10_run_49 rfl rfl rfl rfl ?_
          refine G.lvp [1, 2, 0, 3] rfl ?_
          exact j_X10_run_52 hres (by assumption) (by assumption) (by assumption) (by assumption) (by assumption) hmu hk17
      · try rw [eT] at hres
        refine G.aaload (pc := 34) dm_X10_run_34 rfl ht4 (by rw [eT]) ?_
        refine G.aload_n (pc := 35) dm_X10_run_35 rfl ?_
        refine G.getfield (pc := 36) dm_X10_run_36 gf_X10_111 rfl rfl ?_
        refine G.aload_n (pc := 39) dm_X10_run_39 rfl ?_
        refine G.getfield (pc := 40) dm_X10_run_40 gf_X10_23 rfl rfl ?_
        obtain ⟨z2_0, z2_1, z2_2, z2_3, z2_4, z2_5, z2_6, z2_7, z2_8, z2_9, z2_10, z2_11, z2_12, z2_13, hz2⟩ := g_ex14 (f_X8_takeTurn cycle (xlow 2) (xhigh 2) (xnum 2) (xstat 2) (xaddr 2) (xready 2) (xnext 2) (xret 2) (xregs 2) (xstore 2) (xhcount 2) (xhaddr 2) (xhcyc 2) (xhret 2) (xtims 2) mwheel mwords)
        refine G.callV (pc := 43) (rest := []) (st1 := [.int z2_0]) (ws1 := (w_C cycle mwheel z2_13 xlow xhigh xnum (g_up xstat 2 z2_1) (g_up xaddr 2 z2_2) (g_up xready 2 z2_3) (g_up xnext 2 z2_4) (g_up xret 2 z2_5) (g_up xregs 2 z2_6) (g_up xstore 2 z2_7) (g_up xhcount 2 z2_8) (g_up xhaddr 2 z2_9) (g_up xhcyc 2 z2_10) (g_up xhret 2 z2_11) (g_up xtims 2 z2_12) tlen tchars acount afk afl aat alabel ahas aword atarget amal amis awords atargets alines lcount lkeys lplaces kcount kat kinds kvals)) [20, 21, 22, 23, 24, 25, 26, 27, 1, 2] dm_X10_run_43 gc_X10_run_121 (k_X8_takeTurn (cycle := cycle) (tlow := (xlow 2)) (thigh := (xhigh 2)) (tnum := (xnum 2)) (tstat := (xstat 2)) (taddr := (xaddr 2)) (tready := (xready 2)) (tnext := (xnext 2)) (tret := (xret 2)) (regs := (xregs 2)) (tstore := (xstore 2)) (hcount := (xhcount 2)) (haddr := (xhaddr 2)) (hcyc := (xhcyc 2)) (hret := (xhret 2)) (tims := (xtims 2)) (mwheel := mwheel) (mwords := mwords) (hlh 2 (by decide)) hwh hz2) rfl rfl rfl rfl rfl rfl rfl rfl rfl rfl ?_
        replace hres : (r_0, r_1, r_2, r_3, r_4, r_5, r_6, r_7, r_8, r_9, r_10, r_11, r_12, r_13, r_14) = f_X10_run_c43 cycle xstat xaddr xready xnext xret xregs xstore xhcount xhaddr xhcyc xhret xtims l1 l2 l3 (f_X10_run_17 mwheel xlow xhigh xnum n) z1_0 z2_0 z2_1 z2_2 z2_3 z2_4 z2_5 z2_6 z2_7 z2_8 z2_9 z2_10 z2_11 z2_12 z2_13 := hres.trans (by rw [← hz2])
        rw [f_X10_run_c43] at hres
        try rw [eT] at hres
        refine G.if_eq (pc := 46) (tgt := 52) dm_X10_run_46 (by decide) (fun c46 => ?_) (fun c46 => ?_)
        · rw [if_pos c46] at hres
          exact j_X10_run_52 hres (by assumption) (by assumption) (by assumption) (by assumption) (by assumption) hmu hk17
        · rw [if_neg c46] at hres
          refine G.iinc (pc := 49) (v := (l2 + (1 : Int32))) (lv1 := [(2, .int (l2 + (1 : Int32))), (0, .ref 0), (1, .int l1), (3, .int l3)]) dm_X10_run_49 rfl rfl rfl rfl ?_
          refine G.lvp [1, 2, 0, 3] rfl ?_
          exact j_X10_run_52 hres (by assumption) (by assumption) (by assumption) (by assumption) (by assumption) hmu hk17
      · try rw [eT] at hres
        refine G.aaload (pc := 34) dm_X10_run_34 rfl ht4 (by rw [eT]) ?_
        refine G.aload_n (pc := 35) dm_X10_run_35 rfl ?_
        refine G.getfield (pc := 36) dm_X10_run_36 gf_X10_111 rfl rfl ?_
        refine G.aload_n (pc := 39) dm_X10_run_39 rfl ?_
        refine G.getfield (pc := 40) dm_X10_run_40 gf_X10_23 rfl rfl ?_
        obtain ⟨z2_0, z2_1, z2_2, z2_3, z2_4, z2_5, z2_6, z2_7, z2_8, z2_9, z2_10, z2_11, z2_12, z2_13, hz2⟩ := g_ex14 (f_X8_takeTurn cycle (xlow 3) (xhigh 3) (xnum 3) (xstat 3) (xaddr 3) (xready 3) (xnext 3) (xret 3) (xregs 3) (xstore 3) (xhcount 3) (xhaddr 3) (xhcyc 3) (xhret 3) (xtims 3) mwheel mwords)
        refine G.callV (pc := 43) (rest := []) (st1 := [.int z2_0]) (ws1 := (w_C cycle mwheel z2_13 xlow xhigh xnum (g_up xstat 3 z2_1) (g_up xaddr 3 z2_2) (g_up xready 3 z2_3) (g_up xnext 3 z2_4) (g_up xret 3 z2_5) (g_up xregs 3 z2_6) (g_up xstore 3 z2_7) (g_up xhcount 3 z2_8) (g_up xhaddr 3 z2_9) (g_up xhcyc 3 z2_10) (g_up xhret 3 z2_11) (g_up xtims 3 z2_12) tlen tchars acount afk afl aat alabel ahas aword atarget amal amis awords atargets alines lcount lkeys lplaces kcount kat kinds kvals)) [28, 29, 30, 31, 32, 33, 34, 35, 1, 2] dm_X10_run_43 gc_X10_run_121 (k_X8_takeTurn (cycle := cycle) (tlow := (xlow 3)) (thigh := (xhigh 3)) (tnum := (xnum 3)) (tstat := (xstat 3)) (taddr := (xaddr 3)) (tready := (xready 3)) (tnext := (xnext 3)) (tret := (xret 3)) (regs := (xregs 3)) (tstore := (xstore 3)) (hcount := (xhcount 3)) (haddr := (xhaddr 3)) (hcyc := (xhcyc 3)) (hret := (xhret 3)) (tims := (xtims 3)) (mwheel := mwheel) (mwords := mwords) (hlh 3 (by decide)) hwh hz2) rfl rfl rfl rfl rfl rfl rfl rfl rfl rfl ?_
        replace hres : (r_0, r_1, r_2, r_3, r_4, r_5, r_6, r_7, r_8, r_9, r_10, r_11, r_12, r_13, r_14) = f_X10_run_c43 cycle xstat xaddr xready xnext xret xregs xstore xhcount xhaddr xhcyc xhret xtims l1 l2 l3 (f_X10_run_17 mwheel xlow xhigh xnum n) z1_0 z2_0 z2_1 z2_2 z2_3 z2_4 z2_5 z2_6 z2_7 z2_8 z2_9 z2_10 z2_11 z2_12 z2_13 := hres.trans (by rw [← hz2])
        rw [f_X10_run_c43] at hres
        try rw [eT] at hres
        refine G.if_eq (pc := 46) (tgt := 52) dm_X10_run_46 (by decide) (fun c46 => ?_) (fun c46 => ?_)
        · rw [if_pos c46] at hres
          exact j_X10_run_52 hres (by assumption) (by assumption) (by assumption) (by assumption) (by assumption) hmu hk17
        · rw [if_neg c46] at hres
          refine G.iinc (pc := 49) (v := (l2 + (1 : Int32))) (lv1 := [(2, .int (l2 + (1 : Int32))), (0, .ref 0), (1, .int l1), (3, .int l3)]) dm_X10_run_49 rfl rfl rfl rfl ?_
          refine G.lvp [1, 2, 0, 3] rfl ?_
          exact j_X10_run_52 hres (by assumption) (by assumption) (by assumption) (by assumption) (by assumption) hmu hk17
def f_X10_run (n : Int32) (cycle : Int32) (mwheel : Int32) (mwords : Nat → Int32) (xlow : Nat → Int32) (xhigh : Nat → Int32) (xnum : Nat → Int32) (xstat : Nat → Int32) (xaddr : Nat → Int32) (xready : Nat → Int32) (xnext : Nat → Int32) (xret : Nat → Int32) (xregs : Nat → Nat → Int32) (xstore : Nat → Nat → Int32) (xhcount : Nat → Int32) (xhaddr : Nat → Nat → Int32) (xhcyc : Nat → Nat → Int32) (xhret : Nat → Nat → Int32) (xtims : Nat → Nat → Int32) : Int32 × Int32 × (Nat → Int32) × (Nat → Int32) × (Nat → Int32) × (Nat → Int32) × (Nat → Int32) × (Nat → Int32) × (Nat → Nat → Int32) × (Nat → Nat → Int32) × (Nat → Int32) × (Nat → Nat → Int32) × (Nat → Nat → Int32) × (Nat → Nat → Int32) × (Nat → Nat → Int32) := (if n < 0 then ((-1 : Int32), cycle, mwords, xstat, xaddr, xready, xnext, xret, xregs, xstore, xhcount, xhaddr, xhcyc, xhret, xtims) else (if n ≤ (2000 : Int32) then (f_X10_run_17 mwheel xlow xhigh xnum (2001) n (0 : Int32) (0 : Int32) cycle mwords xstat xaddr xready xnext xret xregs xstore xhcount xhaddr xhcyc xhret xtims) else ((-1 : Int32), cycle, mwords, xstat, xaddr, xready, xnext, xret, xregs, xstore, xhcount, xhaddr, xhcyc, xhret, xtims)))
set_option maxRecDepth 20000 in
theorem k_X10_run {n : Int32} {cycle : Int32} {mwheel : Int32} {mwords : Nat → Int32} {xlow : Nat → Int32} {xhigh : Nat → Int32} {xnum : Nat → Int32} {xstat : Nat → Int32} {xaddr : Nat → Int32} {xready : Nat → Int32} {xnext : Nat → Int32} {xret : Nat → Int32} {xregs : Nat → Nat → Int32} {xstore : Nat → Nat → Int32} {xhcount : Nat → Int32} {xhaddr : Nat → Nat → Int32} {xhcyc : Nat → Nat → Int32} {xhret : Nat → Nat → Int32} {xtims : Nat → Nat → Int32} {tlen : Int32} {tchars : Nat → Int32} {acount : Int32} {afk : Int32} {afl : Int32} {aat : Int32} {alabel : Int64} {ahas : Int32} {aword : Int32} {atarget : Int64} {amal : Int32} {amis : Int32} {awords : Nat → Int32} {atargets : Nat → Int64} {alines : Nat → Int32} {lcount : Int32} {lkeys : Nat → Int64} {lplaces : Nat → Int32} {kcount : Int32} {kat : Int32} {kinds : Nat → Int32} {kvals : Nat → Int64} (hlh : ∀ j, j < 4 → 0 ≤ (xlow j).toInt ∧ (xlow j).toInt ≤ (xhigh j).toInt ∧ (xhigh j).toInt ≤ 64) (hwh : 1 ≤ mwheel.toInt ∧ mwheel.toInt ≤ 8) {r_0 : Int32} {r_1 : Int32} {r_2 : (Nat → Int32)} {r_3 : (Nat → Int32)} {r_4 : (Nat → Int32)} {r_5 : (Nat → Int32)} {r_6 : (Nat → Int32)} {r_7 : (Nat → Int32)} {r_8 : (Nat → Nat → Int32)} {r_9 : (Nat → Nat → Int32)} {r_10 : (Nat → Int32)} {r_11 : (Nat → Nat → Int32)} {r_12 : (Nat → Nat → Int32)} {r_13 : (Nat → Nat → Int32)} {r_14 : (Nat → Nat → Int32)} (hres : (r_0, r_1, r_2, r_3, r_4, r_5, r_6, r_7, r_8, r_9, r_10, r_11, r_12, r_13, r_14) = f_X10_run n cycle mwheel mwords xlow xhigh xnum xstat xaddr xready xnext xret xregs xstore xhcount xhaddr xhcyc xhret xtims) : K M_X10_run yX10_run [.ref 0, .int n] (w_C cycle mwheel mwords xlow xhigh xnum xstat xaddr xready xnext xret xregs xstore xhcount xhaddr xhcyc xhret xtims tlen tchars acount afk afl aat alabel ahas aword atarget amal amis awords atargets alines lcount lkeys lplaces kcount kat kinds kvals) (some (.int r_0)) (w_C r_1 mwheel r_2 xlow xhigh xnum r_3 r_4 r_5 r_6 r_7 r_8 r_9 r_10 r_11 r_12 r_13 r_14 tlen tchars acount afk afl aat alabel ahas aword atarget amal amis awords atargets alines lcount lkeys lplaces kcount kat kinds kvals) := by
  refine K.of (lv := [(0, .ref 0), (1, .int n)]) (by decide +kernel) rfl rfl rfl ?_
  rw [f_X10_run] at hres
  refine G.iload_n (pc := 0) dm_X10_run_0 rfl ?_
  refine G.if_lt (pc := 1) (tgt := 11) dm_X10_run_1 (by decide) (fun c1 => ?_) (fun c1 => ?_)
  · rw [if_pos c1] at hres
    refine G.iconst (pc := 11) (v := (-1 : Int32)) dm_X10_run_11 qi_m1 ?_
    cases hres
    exact G.ireturn (pc := 12) dm_X10_run_12 rfl rfl rfl
  · rw [if_neg c1] at hres
    refine G.iload_n (pc := 4) dm_X10_run_4 rfl ?_
    refine G.sipush (pc := 5) (v := (2000 : Int32)) dm_X10_run_5 qs_2000 ?_
    refine G.icmp_le (pc := 8) (tgt := 13) dm_X10_run_8 (by decide) (fun c8 => ?_) (fun c8 => ?_)
    · rw [if_pos c8] at hres
      refine G.iconst (pc := 13) (v := (0 : Int32)) dm_X10_run_13 qi_0 ?_
      refine G.istore_n (pc := 14) (lv1 := [(2, .int (0 : Int32)), (0, .ref 0), (1, .int n)]) dm_X10_run_14 rfl rfl ?_
      refine G.iconst (pc := 15) (v := (0 : Int32)) dm_X10_run_15 qi_0 ?_
      refine G.istore_n (pc := 16) (lv1 := [(3, .int (0 : Int32)), (2, .int (0 : Int32)), (0, .ref 0), (1, .int n)]) dm_X10_run_16 rfl rfl ?_
      refine G.lvp [2, 3, 1, 0] rfl ?_
      exact j_X10_run_17 _ hlh hwh (q_run1 c8) (by decide) (by decide) hres
    · rw [if_neg c8] at hres
      refine G.iconst (pc := 11) (v := (-1 : Int32)) dm_X10_run_11 qi_m1 ?_
      cases hres
      exact G.ireturn (pc := 12) dm_X10_run_12 rfl rfl rfl
